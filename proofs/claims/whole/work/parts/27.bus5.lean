/-! ConsistBus: couple, uncouple, side, settled -/
theorem d_B_couple_0 : decode c_B_couple 0 = .ok (.aload_n 0, 1) := by decide +kernel
theorem d_B_couple_1 : decode c_B_couple 1 = .ok (.iload_n 1, 1) := by decide +kernel
theorem d_B_couple_2 : decode c_B_couple 2 = .ok (.iload_n 2, 1) := by decide +kernel
theorem d_B_couple_3 : decode c_B_couple 3 = .ok (.invokevirtual 49, 3) := by decide +kernel
theorem d_B_couple_6 : decode c_B_couple 6 = .ok (.astore 5, 2) := by decide +kernel
theorem d_B_couple_8 : decode c_B_couple 8 = .ok (.aload_n 0, 1) := by decide +kernel
theorem d_B_couple_9 : decode c_B_couple 9 = .ok (.iload_n 3, 1) := by decide +kernel
theorem d_B_couple_10 : decode c_B_couple 10 = .ok (.iload 4, 2) := by decide +kernel
theorem d_B_couple_12 : decode c_B_couple 12 = .ok (.invokevirtual 49, 3) := by decide +kernel
theorem d_B_couple_15 : decode c_B_couple 15 = .ok (.astore 6, 2) := by decide +kernel
theorem d_B_couple_17 : decode c_B_couple 17 = .ok (.aload 5, 2) := by decide +kernel
theorem d_B_couple_19 : decode c_B_couple 19 = .ok (.getfield 53, 3) := by decide +kernel
theorem d_B_couple_22 : decode c_B_couple 22 = .ok (.ifnonnull 27, 3) := by decide +kernel
theorem d_B_couple_25 : decode c_B_couple 25 = .ok (.aload 6, 2) := by decide +kernel
theorem d_B_couple_27 : decode c_B_couple 27 = .ok (.getfield 53, 3) := by decide +kernel
theorem d_B_couple_30 : decode c_B_couple 30 = .ok (.ifnonnull 19, 3) := by decide +kernel
theorem d_B_couple_33 : decode c_B_couple 33 = .ok (.aload_n 0, 1) := by decide +kernel
theorem d_B_couple_34 : decode c_B_couple 34 = .ok (.aload_n 0, 1) := by decide +kernel
theorem d_B_couple_35 : decode c_B_couple 35 = .ok (.iload_n 1, 1) := by decide +kernel
theorem d_B_couple_36 : decode c_B_couple 36 = .ok (.invokevirtual 59, 3) := by decide +kernel
theorem d_B_couple_39 : decode c_B_couple 39 = .ok (.invokevirtual 63, 3) := by decide +kernel
theorem d_B_couple_42 : decode c_B_couple 42 = .ok (.iload_n 3, 1) := by decide +kernel
theorem d_B_couple_43 : decode c_B_couple 43 = .ok (.invokevirtual 67, 3) := by decide +kernel
theorem d_B_couple_46 : decode c_B_couple 46 = .ok (.ifCond .eq 13, 3) := by decide +kernel
theorem d_B_couple_49 : decode c_B_couple 49 = .ok (.new 41, 3) := by decide +kernel
theorem d_B_couple_52 : decode c_B_couple 52 = .ok (.dup, 1) := by decide +kernel
theorem d_B_couple_53 : decode c_B_couple 53 = .ok (.ldc 71, 2) := by decide +kernel
theorem d_B_couple_55 : decode c_B_couple 55 = .ok (.invokespecial 45, 3) := by decide +kernel
theorem d_B_couple_58 : decode c_B_couple 58 = .ok (.athrow, 1) := by decide +kernel
theorem d_B_couple_59 : decode c_B_couple 59 = .ok (.aload_n 0, 1) := by decide +kernel
theorem d_B_couple_60 : decode c_B_couple 60 = .ok (.invokevirtual 73, 3) := by decide +kernel
theorem d_B_couple_63 : decode c_B_couple 63 = .ok (.istore 7, 2) := by decide +kernel
theorem d_B_couple_65 : decode c_B_couple 65 = .ok (.aload_n 0, 1) := by decide +kernel
theorem d_B_couple_66 : decode c_B_couple 66 = .ok (.dup, 1) := by decide +kernel
theorem d_B_couple_67 : decode c_B_couple 67 = .ok (.getfield 77, 3) := by decide +kernel
theorem d_B_couple_70 : decode c_B_couple 70 = .ok (.iconst 1, 1) := by decide +kernel
theorem d_B_couple_71 : decode c_B_couple 71 = .ok (.iload 7, 2) := by decide +kernel
theorem d_B_couple_73 : decode c_B_couple 73 = .ok (.ishl, 1) := by decide +kernel
theorem d_B_couple_74 : decode c_B_couple 74 = .ok (.ior, 1) := by decide +kernel
theorem d_B_couple_75 : decode c_B_couple 75 = .ok (.putfield 77, 3) := by decide +kernel
theorem d_B_couple_78 : decode c_B_couple 78 = .ok (.aload_n 0, 1) := by decide +kernel
theorem d_B_couple_79 : decode c_B_couple 79 = .ok (.dup, 1) := by decide +kernel
theorem d_B_couple_80 : decode c_B_couple 80 = .ok (.getfield 80, 3) := by decide +kernel
theorem d_B_couple_83 : decode c_B_couple 83 = .ok (.iconst 1, 1) := by decide +kernel
theorem d_B_couple_84 : decode c_B_couple 84 = .ok (.iadd, 1) := by decide +kernel
theorem d_B_couple_85 : decode c_B_couple 85 = .ok (.putfield 80, 3) := by decide +kernel
theorem d_B_couple_88 : decode c_B_couple 88 = .ok (.aload 5, 2) := by decide +kernel
theorem d_B_couple_90 : decode c_B_couple 90 = .ok (.aload 6, 2) := by decide +kernel
theorem d_B_couple_92 : decode c_B_couple 92 = .ok (.iload 7, 2) := by decide +kernel
theorem d_B_couple_94 : decode c_B_couple 94 = .ok (.invokevirtual 83, 3) := by decide +kernel
theorem d_B_couple_97 : decode c_B_couple 97 = .ok (.aload 6, 2) := by decide +kernel
theorem d_B_couple_99 : decode c_B_couple 99 = .ok (.aload 5, 2) := by decide +kernel
theorem d_B_couple_101 : decode c_B_couple 101 = .ok (.iload 7, 2) := by decide +kernel
theorem d_B_couple_103 : decode c_B_couple 103 = .ok (.invokevirtual 83, 3) := by decide +kernel
theorem d_B_couple_106 : decode c_B_couple 106 = .ok (.iload 7, 2) := by decide +kernel
theorem d_B_couple_108 : decode c_B_couple 108 = .ok (.ireturn, 1) := by decide +kernel
set_option maxRecDepth 20000 in
set_option maxHeartbeats 4000000 in
theorem m_B_couple_no1 {E : kx_E} {w : va_W} {n : Nat} {ad : Nat → Nat} {L : Nat → List Nat} {V S : Nat → Nat → Int32} {pe bi : Nat → Option Nat} (hC : Cls E w n ad L V S pe bi) (hb : biOk n bi) {a ea b eb : Int32} (hx : endQ bi a ea = none) : kx_S E Y_B_couple [.ref (ad 0), .int a, .int ea, .int b, .int eb] w (fun o w1 => o = .inr kx_nse ∧ w1 = w) := by
  refine kx_go (by decide) rfl rfl (Nat.le_of_ble_eq_true rfl) (kx_cc rfl (kx_cc rfl (kx_cc rfl (kx_cc rfl (kx_cc rfl kx_c0))))) (fun z => ?_)
  have hO : kx_off w w clsN := kx_off.rf
  refine kx_aload_n d_B_couple_0 rfl (by first | rfl | exact kx_rf _) ?_
  refine kx_iload_n d_B_couple_1 rfl ?_
  refine kx_iload_n d_B_couple_2 rfl ?_
  refine kx_callV (as := [.int a, .int ea]) (rest := []) d_B_couple_3 v_B_49 rfl (hC.bus) rfl rfl (by decide) (by decide) (Nat.le_of_ble_eq_true rfl) (by decide) (by decide) rfl (m_B_endOf_no hC hb hx) (fun X w1 hq => ⟨rfl, by cases hq.1; exact ⟨rfl, hq.2⟩⟩) (fun v w1 hq => by cases hq.1)
set_option maxRecDepth 20000 in
set_option maxHeartbeats 4000000 in
theorem m_B_couple_no2 {E : kx_E} {w : va_W} {n : Nat} {ad : Nat → Nat} {L : Nat → List Nat} {V S : Nat → Nat → Int32} {pe bi : Nat → Option Nat} (hC : Cls E w n ad L V S pe bi) (hb : biOk n bi) {a ea b eb : Int32} {x : Nat} (hx : endQ bi a ea = some x) (hy : endQ bi b eb = none) : kx_S E Y_B_couple [.ref (ad 0), .int a, .int ea, .int b, .int eb] w (fun o w1 => o = .inr kx_nse ∧ w1 = w) := by
  refine kx_go (by decide) rfl rfl (Nat.le_of_ble_eq_true rfl) (kx_cc rfl (kx_cc rfl (kx_cc rfl (kx_cc rfl (kx_cc rfl kx_c0))))) (fun z => ?_)
  have hO : kx_off w w clsN := kx_off.rf
  refine kx_aload_n d_B_couple_0 rfl (by first | rfl | exact kx_rf _) ?_
  refine kx_iload_n d_B_couple_1 rfl ?_
  refine kx_iload_n d_B_couple_2 rfl ?_
  refine kx_callV (as := [.int a, .int ea]) (rest := []) d_B_couple_3 v_B_49 rfl (hC.bus) rfl rfl (by decide) (by decide) (Nat.le_of_ble_eq_true rfl) (by decide) (by decide) rfl (m_B_endOf hC hb hx) (fun X w1 h => by cases h.1) (fun v w1 hq9 => ?_)
  obtain ⟨hv, hw9⟩ := hq9
  cases hv
  subst hw9
  refine kx_stk (st1 := [.ref (ad x)]) rfl ?_
  refine kx_astore d_B_couple_6 (by decide) (by first | rfl | exact kx_rf _) ?_
  refine kx_aload_n d_B_couple_8 rfl (by first | rfl | exact kx_rf _) ?_
  refine kx_iload_n d_B_couple_9 rfl ?_
  refine kx_iload d_B_couple_10 rfl ?_
  refine kx_callV (as := [.int b, .int eb]) (rest := []) d_B_couple_12 v_B_49 rfl (hC.bus) rfl rfl (by decide) (by decide) (Nat.le_of_ble_eq_true rfl) (by decide) (by decide) rfl (m_B_endOf_no hC hb hy) (fun X w1 hq => ⟨rfl, by cases hq.1; exact ⟨rfl, hq.2⟩⟩) (fun v w1 hq => by cases hq.1)
set_option maxRecDepth 20000 in
set_option maxHeartbeats 4000000 in
theorem m_B_couple_cou {E : kx_E} {w : va_W} {n : Nat} {ad : Nat → Nat} {L : Nat → List Nat} {V S : Nat → Nat → Int32} {pe bi : Nat → Option Nat} (hC : Cls E w n ad L V S pe bi) (hb : biOk n bi) {a ea b eb : Int32} {x y : Nat} (hx : endQ bi a ea = some x) (hy : endQ bi b eb = some y) (hpe : ¬ (pe x = none ∧ pe y = none)) : kx_S E Y_B_couple [.ref (ad 0), .int a, .int ea, .int b, .int eb] w (fun o w1 => o = .inr kx_ise ∧ w1 = w) := by
  refine kx_go (by decide) rfl rfl (Nat.le_of_ble_eq_true rfl) (kx_cc rfl (kx_cc rfl (kx_cc rfl (kx_cc rfl (kx_cc rfl kx_c0))))) (fun z => ?_)
  have hO : kx_off w w clsN := kx_off.rf
  have hxn := endQ_N hb hx
  have hyn := endQ_N hb hy
  refine kx_aload_n d_B_couple_0 rfl (by first | rfl | exact kx_rf _) ?_
  refine kx_iload_n d_B_couple_1 rfl ?_
  refine kx_iload_n d_B_couple_2 rfl ?_
  refine kx_callV (as := [.int a, .int ea]) (rest := []) d_B_couple_3 v_B_49 rfl (hC.bus) rfl rfl (by decide) (by decide) (Nat.le_of_ble_eq_true rfl) (by decide) (by decide) rfl (m_B_endOf hC hb hx) (fun X w1 h => by cases h.1) (fun v w1 hq9 => ?_)
  obtain ⟨hv, hw9⟩ := hq9
  cases hv
  subst hw9
  refine kx_stk (st1 := [.ref (ad x)]) rfl ?_
  refine kx_astore d_B_couple_6 (by decide) (by first | rfl | exact kx_rf _) ?_
  refine kx_aload_n d_B_couple_8 rfl (by first | rfl | exact kx_rf _) ?_
  refine kx_iload_n d_B_couple_9 rfl ?_
  refine kx_iload d_B_couple_10 rfl ?_
  refine kx_callV (as := [.int b, .int eb]) (rest := []) d_B_couple_12 v_B_49 rfl (hC.bus) rfl rfl (by decide) (by decide) (Nat.le_of_ble_eq_true rfl) (by decide) (by decide) rfl (m_B_endOf hC hb hy) (fun X w1 h => by cases h.1) (fun v w1 hq9 => ?_)
  obtain ⟨hv, hw9⟩ := hq9
  cases hv
  subst hw9
  refine kx_stk (st1 := [.ref (ad y)]) rfl ?_
  refine kx_astore d_B_couple_15 (by decide) (by first | rfl | exact kx_rf _) ?_
  refine kx_aload d_B_couple_17 rfl (by first | rfl | exact kx_rf _) ?_
  refine kx_get _ d_B_couple_19 f_B_53 (hC.endAt hxn) (by rfl) ?_
  refine kx_ifnonnull 49 d_B_couple_22 (by decide) ?_ ?_
  · intro a22 h22
    exact kx_throw d_B_couple_49 d_B_couple_52 d_B_couple_53 d_B_couple_55 d_B_couple_58 t_B_71 rfl (by decide) (Nat.le_of_ble_eq_true rfl) (by decide) (by decide) ⟨rfl, rfl⟩
  · intro h22
    refine kx_aload d_B_couple_25 rfl (by first | rfl | exact kx_rf _) ?_
    refine kx_get _ d_B_couple_27 f_B_53 (hC.endAt hyn) (by rfl) ?_
    refine kx_ifnonnull 49 d_B_couple_30 (by decide) ?_ ?_
    · intro a30 h30
      exact kx_throw d_B_couple_49 d_B_couple_52 d_B_couple_53 d_B_couple_55 d_B_couple_58 t_B_71 rfl (by decide) (Nat.le_of_ble_eq_true rfl) (by decide) (by decide) ⟨rfl, rfl⟩
    · intro h30
      refine absurd ⟨?_, ?_⟩ hpe
      · cases h : pe x with
        | none => rfl
        | some q => rw [h] at h22; cases h22
      · cases h : pe y with
        | none => rfl
        | some q => rw [h] at h30; cases h30
set_option maxRecDepth 20000 in
set_option maxHeartbeats 4000000 in
theorem m_B_couple_run {E : kx_E} {w : va_W} {n : Nat} {ad : Nat → Nat} {L : Nat → List Nat} {V S : Nat → Nat → Int32} {pe bi : Nat → Option Nat} (hC : Cls E w n ad L V S pe bi) (hb : biOk n bi) {a ea b eb : Int32} {x y : Nat} (hx : endQ bi a ea = some x) (hy : endQ bi b eb = some y) (hp : peOk n pe) (hI : InvS n S) (hpx : pe x = none) (hpy : pe y = none) {c j : Nat} (hc0 : carI bi a = some c) (hj : b = nI j) (hj2 : j ≤ 255) (ht : rowNo j (truL pe S c) 0 ≠ 0) : kx_S E Y_B_couple [.ref (ad 0), .int a, .int ea, .int b, .int eb] w (fun o w1 => o = .inr kx_ise ∧ Cls E w1 n ad (up1 L 4 (truL pe S c)) V S pe bi ∧ kx_off w w1 clsN) := by
  refine kx_go (by decide) rfl rfl (Nat.le_of_ble_eq_true rfl) (kx_cc rfl (kx_cc rfl (kx_cc rfl (kx_cc rfl (kx_cc rfl kx_c0))))) (fun z => ?_)
  have hO : kx_off w w clsN := kx_off.rf
  have hxn := endQ_N hb hx
  have hyn := endQ_N hb hy
  have hc := carI_c hb hc0
  subst hj
  have hle := rowNo_le j (truL pe S c) 0
  have hl24 := runL_len pe S 24 (some (truX pe S c))
  have e9 : truL pe S c = runL pe S 24 (some (truX pe S c)) := rfl
  rw [← e9] at hl24
  refine kx_aload_n d_B_couple_0 rfl (by first | rfl | exact kx_rf _) ?_
  refine kx_iload_n d_B_couple_1 rfl ?_
  refine kx_iload_n d_B_couple_2 rfl ?_
  refine kx_callV (as := [.int a, .int ea]) (rest := []) d_B_couple_3 v_B_49 rfl (hC.bus) rfl rfl (by decide) (by decide) (Nat.le_of_ble_eq_true rfl) (by decide) (by decide) rfl (m_B_endOf hC hb hx) (fun X w1 h => by cases h.1) (fun v w1 hq9 => ?_)
  obtain ⟨hv, hw9⟩ := hq9
  cases hv
  subst hw9
  refine kx_stk (st1 := [.ref (ad x)]) rfl ?_
  refine kx_astore d_B_couple_6 (by decide) (by first | rfl | exact kx_rf _) ?_
  refine kx_aload_n d_B_couple_8 rfl (by first | rfl | exact kx_rf _) ?_
  refine kx_iload_n d_B_couple_9 rfl ?_
  refine kx_iload d_B_couple_10 rfl ?_
  refine kx_callV (as := [.int (nI j), .int eb]) (rest := []) d_B_couple_12 v_B_49 rfl (hC.bus) rfl rfl (by decide) (by decide) (Nat.le_of_ble_eq_true rfl) (by decide) (by decide) rfl (m_B_endOf hC hb hy) (fun X w1 h => by cases h.1) (fun v w1 hq9 => ?_)
  obtain ⟨hv, hw9⟩ := hq9
  cases hv
  subst hw9
  refine kx_stk (st1 := [.ref (ad y)]) rfl ?_
  refine kx_astore d_B_couple_15 (by decide) (by first | rfl | exact kx_rf _) ?_
  refine kx_aload d_B_couple_17 rfl (by first | rfl | exact kx_rf _) ?_
  refine kx_get _ d_B_couple_19 f_B_53 (hC.endAt hxn) (by rfl) ?_
  rw [hpx]
  refine kx_ifnonnull (o := none) 49 d_B_couple_22 (by decide) (fun a h => by cases h) (fun _ => ?_)
  refine kx_aload d_B_couple_25 rfl (by first | rfl | exact kx_rf _) ?_
  refine kx_get _ d_B_couple_27 f_B_53 (hC.endAt hyn) (by rfl) ?_
  rw [hpy]
  refine kx_ifnonnull (o := none) 49 d_B_couple_30 (by decide) (fun a h => by cases h) (fun _ => ?_)
  refine kx_aload_n d_B_couple_33 rfl (by first | rfl | exact kx_rf _) ?_
  refine kx_aload_n d_B_couple_34 rfl (by first | rfl | exact kx_rf _) ?_
  refine kx_iload_n d_B_couple_35 rfl ?_
  refine kx_callV (as := [.int a]) (rest := [.ref (ad 0)]) d_B_couple_36 v_B_59 rfl (hC.bus) rfl rfl (by decide) (by decide) (Nat.le_of_ble_eq_true rfl) (by decide) (by decide) rfl (m_B_carOf hC hc0) (fun X w1 h => by cases h.1) (fun v w1 hq9 => ?_)
  obtain ⟨hv, hw9⟩ := hq9
  cases hv
  subst hw9
  refine kx_stk (st1 := [.ref (ad (carB c)), .ref (ad 0)]) rfl ?_
  refine kx_callV (as := [.ref (ad (carB c))]) (rest := []) d_B_couple_39 v_B_63 rfl (hC.bus) rfl rfl (by decide) (by decide) (Nat.le_of_ble_eq_true rfl) (by decide) (by decide) rfl (m_B_trueRun hC hp hI hc) (fun X w1 h => by cases h.1) (fun v w hq9 => ?_)
  obtain ⟨hv, hC, hO9⟩ := hq9
  cases hv
  have hO := hO.tr hO9 (fun _ h => h) (fun _ h => h)
  refine kx_stk (st1 := [.ref (ad 4)]) rfl ?_
  refine kx_iload_n d_B_couple_42 rfl ?_
  refine cR_numberOf d_B_couple_43 v_B_67 hC (rowN_4 n) (by omega) (by decide) (Nat.le_of_ble_eq_true rfl) (by decide) (by decide) ?_
  rw [up1_s]
  first | refine kx_if_eq_n 59 d_B_couple_46 (by decide) (by omega) ?_ ?_ | refine kx_if_eq 59 d_B_couple_46 (by decide) ?_ ?_
  · intro h46
    exact absurd h46 ht
  · intro h46
    exact kx_throw d_B_couple_49 d_B_couple_52 d_B_couple_53 d_B_couple_55 d_B_couple_58 t_B_71 rfl (by decide) (Nat.le_of_ble_eq_true rfl) (by decide) (by decide) ⟨rfl, hC, hO⟩
def couS (S : Nat → Nat → Int32) (x y : Nat) : Nat → Nat → Int32 :=
  up2 (up2 (up2 (up2 S 0 6 (S 0 6 ||| (nI 1) <<< (nI (freeI (S 0 6) 24 0) &&& 31))) 0 5 (S 0 5 + nI 1)) x 6 (nI (freeI (S 0 6) 24 0))) y 6 (nI (freeI (S 0 6) 24 0))
def couP (pe : Nat → Option Nat) (x y : Nat) : Nat → Option Nat := up1 (up1 pe x (some y)) y (some x)
set_option maxRecDepth 20000 in
set_option maxHeartbeats 4000000 in
theorem m_B_couple {E : kx_E} {w : va_W} {n : Nat} {ad : Nat → Nat} {L : Nat → List Nat} {V S : Nat → Nat → Int32} {pe bi : Nat → Option Nat} (hC : Cls E w n ad L V S pe bi) (hb : biOk n bi) {a ea b eb : Int32} {x y : Nat} (hx : endQ bi a ea = some x) (hy : endQ bi b eb = some y) (hp : peOk n pe) (hI : InvS n S) (hpx : pe x = none) (hpy : pe y = none) {c j : Nat} (hc0 : carI bi a = some c) (hj : b = nI j) (hj2 : j ≤ 255) (ht : rowNo j (truL pe S c) 0 = 0) : kx_S E Y_B_couple [.ref (ad 0), .int a, .int ea, .int b, .int eb] w (CQ E w n ad (up1 L 4 (truL pe S c)) V (couS S x y) (couP pe x y) bi (some (.int (nI (freeI (S 0 6) 24 0))))) := by
  refine kx_go (by decide) rfl rfl (Nat.le_of_ble_eq_true rfl) (kx_cc rfl (kx_cc rfl (kx_cc rfl (kx_cc rfl (kx_cc rfl kx_c0))))) (fun z => ?_)
  have hO : kx_off w w clsN := kx_off.rf
  have hxn := endQ_N hb hx
  have hyn := endQ_N hb hy
  have hc := carI_c hb hc0
  subst hj
  have hle := rowNo_le j (truL pe S c) 0
  have hl24 := runL_len pe S 24 (some (truX pe S c))
  have e9 : truL pe S c = runL pe S 24 (some (truX pe S c)) := rfl
  rw [← e9] at hl24
  refine kx_aload_n d_B_couple_0 rfl (by first | rfl | exact kx_rf _) ?_
  refine kx_iload_n d_B_couple_1 rfl ?_
  refine kx_iload_n d_B_couple_2 rfl ?_
  refine kx_callV (as := [.int a, .int ea]) (rest := []) d_B_couple_3 v_B_49 rfl (hC.bus) rfl rfl (by decide) (by decide) (Nat.le_of_ble_eq_true rfl) (by decide) (by decide) rfl (m_B_endOf hC hb hx) (fun X w1 h => by cases h.1) (fun v w1 hq9 => ?_)
  obtain ⟨hv, hw9⟩ := hq9
  cases hv
  subst hw9
  refine kx_stk (st1 := [.ref (ad x)]) rfl ?_
  refine kx_astore d_B_couple_6 (by decide) (by first | rfl | exact kx_rf _) ?_
  refine kx_aload_n d_B_couple_8 rfl (by first | rfl | exact kx_rf _) ?_
  refine kx_iload_n d_B_couple_9 rfl ?_
  refine kx_iload d_B_couple_10 rfl ?_
  refine kx_callV (as := [.int (nI j), .int eb]) (rest := []) d_B_couple_12 v_B_49 rfl (hC.bus) rfl rfl (by decide) (by decide) (Nat.le_of_ble_eq_true rfl) (by decide) (by decide) rfl (m_B_endOf hC hb hy) (fun X w1 h => by cases h.1) (fun v w1 hq9 => ?_)
  obtain ⟨hv, hw9⟩ := hq9
  cases hv
  subst hw9
  refine kx_stk (st1 := [.ref (ad y)]) rfl ?_
  refine kx_astore d_B_couple_15 (by decide) (by first | rfl | exact kx_rf _) ?_
  refine kx_aload d_B_couple_17 rfl (by first | rfl | exact kx_rf _) ?_
  refine kx_get _ d_B_couple_19 f_B_53 (hC.endAt hxn) (by rfl) ?_
  rw [hpx]
  refine kx_ifnonnull (o := none) 49 d_B_couple_22 (by decide) (fun a h => by cases h) (fun _ => ?_)
  refine kx_aload d_B_couple_25 rfl (by first | rfl | exact kx_rf _) ?_
  refine kx_get _ d_B_couple_27 f_B_53 (hC.endAt hyn) (by rfl) ?_
  rw [hpy]
  refine kx_ifnonnull (o := none) 49 d_B_couple_30 (by decide) (fun a h => by cases h) (fun _ => ?_)
  refine kx_aload_n d_B_couple_33 rfl (by first | rfl | exact kx_rf _) ?_
  refine kx_aload_n d_B_couple_34 rfl (by first | rfl | exact kx_rf _) ?_
  refine kx_iload_n d_B_couple_35 rfl ?_
  refine kx_callV (as := [.int a]) (rest := [.ref (ad 0)]) d_B_couple_36 v_B_59 rfl (hC.bus) rfl rfl (by decide) (by decide) (Nat.le_of_ble_eq_true rfl) (by decide) (by decide) rfl (m_B_carOf hC hc0) (fun X w1 h => by cases h.1) (fun v w1 hq9 => ?_)
  obtain ⟨hv, hw9⟩ := hq9
  cases hv
  subst hw9
  refine kx_stk (st1 := [.ref (ad (carB c)), .ref (ad 0)]) rfl ?_
  refine kx_callV (as := [.ref (ad (carB c))]) (rest := []) d_B_couple_39 v_B_63 rfl (hC.bus) rfl rfl (by decide) (by decide) (Nat.le_of_ble_eq_true rfl) (by decide) (by decide) rfl (m_B_trueRun hC hp hI hc) (fun X w1 h => by cases h.1) (fun v w hq9 => ?_)
  obtain ⟨hv, hC, hO9⟩ := hq9
  cases hv
  have hO := hO.tr hO9 (fun _ h => h) (fun _ h => h)
  refine kx_stk (st1 := [.ref (ad 4)]) rfl ?_
  refine kx_iload_n d_B_couple_42 rfl ?_
  refine cR_numberOf d_B_couple_43 v_B_67 hC (rowN_4 n) (by omega) (by decide) (Nat.le_of_ble_eq_true rfl) (by decide) (by decide) ?_
  rw [up1_s]
  first | refine kx_if_eq_n 59 d_B_couple_46 (by decide) (by omega) ?_ ?_ | refine kx_if_eq 59 d_B_couple_46 (by decide) ?_ ?_
  · intro h46
    refine kx_aload_n d_B_couple_59 rfl (by first | rfl | exact kx_rf _) ?_
    refine kx_callV (as := []) (rest := []) d_B_couple_60 v_B_73 rfl (hC.bus) rfl rfl (by decide) (by decide) (Nat.le_of_ble_eq_true rfl) (by decide) (by decide) rfl (m_B_freeNumber hC) (fun X w1 h => by cases h.1) (fun v w1 hq9 => ?_)
    obtain ⟨hv, hw9⟩ := hq9
    cases hv
    subst hw9
    refine kx_stk (st1 := [.int (nI (freeI (S 0 6) 24 0))]) rfl ?_
    refine kx_istore d_B_couple_63 (by decide) ?_
    refine kx_aload_n d_B_couple_65 rfl (by first | rfl | exact kx_rf _) ?_
    refine kx_dup d_B_couple_66 (by first | rfl | exact kx_rfc _) ?_
    refine kx_get _ d_B_couple_67 f_B_77 hC.bus (by rfl) ?_
    refine kx_iconst (nI 1) d_B_couple_70 (by decide) ?_
    refine kx_iload d_B_couple_71 rfl ?_
    refine kx_ishl _ d_B_couple_73 rfl ?_
    refine kx_ior _ d_B_couple_74 rfl ?_
    refine cB_put6 d_B_couple_75 f_B_77 hC hO (fun w hC hO => ?_)
    refine kx_aload_n d_B_couple_78 rfl (by first | rfl | exact kx_rf _) ?_
    refine kx_dup d_B_couple_79 (by first | rfl | exact kx_rfc _) ?_
    refine kx_get _ d_B_couple_80 f_B_80 hC.bus (by rfl) ?_
    rw [up2_k (by decide)]
    refine kx_iconst (nI 1) d_B_couple_83 (by decide) ?_
    refine kx_iadd _ d_B_couple_84 rfl ?_
    refine cB_put5 d_B_couple_85 f_B_80 hC hO (fun w hC hO => ?_)
    refine kx_aload d_B_couple_88 rfl (by first | rfl | exact kx_rf _) ?_
    refine kx_aload d_B_couple_90 rfl (by first | rfl | exact kx_rf _) ?_
    refine kx_iload d_B_couple_92 rfl ?_
    refine kx_callV (as := [.ref (ad y), .int (nI (freeI (S 0 6) 24 0))]) (rest := []) d_B_couple_94 v_B_83 rfl (hC.endAt hxn) rfl rfl (by decide) (by decide) (Nat.le_of_ble_eq_true rfl) (by decide) (by decide) rfl (m_N_join hC hxn) (fun X w1 h => by cases h.1) (fun v w hq9 => ?_)
    obtain ⟨hv, hC, hO9⟩ := hq9
    cases hv
    have hO := hO.tr hO9 (fun _ h => h) (fun _ h => h)
    refine kx_stk (st1 := []) rfl ?_
    refine kx_aload d_B_couple_97 rfl (by first | rfl | exact kx_rf _) ?_
    refine kx_aload d_B_couple_99 rfl (by first | rfl | exact kx_rf _) ?_
    refine kx_iload d_B_couple_101 rfl ?_
    refine kx_callV (as := [.ref (ad x), .int (nI (freeI (S 0 6) 24 0))]) (rest := []) d_B_couple_103 v_B_83 rfl (hC.endAt hyn) rfl rfl (by decide) (by decide) (Nat.le_of_ble_eq_true rfl) (by decide) (by decide) rfl (m_N_join hC hyn) (fun X w1 h => by cases h.1) (fun v w hq9 => ?_)
    obtain ⟨hv, hC, hO9⟩ := hq9
    cases hv
    have hO := hO.tr hO9 (fun _ h => h) (fun _ h => h)
    refine kx_stk (st1 := []) rfl ?_
    refine kx_iload d_B_couple_106 rfl ?_
    refine kx_iret d_B_couple_108 rfl (by decide) (by decide) ?_
    exact ⟨rfl, hC, hO⟩
  · intro h46
    exact absurd ht h46
theorem d_B_uncouple_0 : decode c_B_uncouple 0 = .ok (.aload_n 0, 1) := by decide +kernel
theorem d_B_uncouple_1 : decode c_B_uncouple 1 = .ok (.iload_n 1, 1) := by decide +kernel
theorem d_B_uncouple_2 : decode c_B_uncouple 2 = .ok (.iload_n 2, 1) := by decide +kernel
theorem d_B_uncouple_3 : decode c_B_uncouple 3 = .ok (.invokevirtual 49, 3) := by decide +kernel
theorem d_B_uncouple_6 : decode c_B_uncouple 6 = .ok (.astore_n 3, 1) := by decide +kernel
theorem d_B_uncouple_7 : decode c_B_uncouple 7 = .ok (.aload_n 3, 1) := by decide +kernel
theorem d_B_uncouple_8 : decode c_B_uncouple 8 = .ok (.getfield 53, 3) := by decide +kernel
theorem d_B_uncouple_11 : decode c_B_uncouple 11 = .ok (.astore 4, 2) := by decide +kernel
theorem d_B_uncouple_13 : decode c_B_uncouple 13 = .ok (.aload 4, 2) := by decide +kernel
theorem d_B_uncouple_15 : decode c_B_uncouple 15 = .ok (.ifnonnull 13, 3) := by decide +kernel
theorem d_B_uncouple_18 : decode c_B_uncouple 18 = .ok (.new 41, 3) := by decide +kernel
theorem d_B_uncouple_21 : decode c_B_uncouple 21 = .ok (.dup, 1) := by decide +kernel
theorem d_B_uncouple_22 : decode c_B_uncouple 22 = .ok (.ldc 87, 2) := by decide +kernel
theorem d_B_uncouple_24 : decode c_B_uncouple 24 = .ok (.invokespecial 45, 3) := by decide +kernel
theorem d_B_uncouple_27 : decode c_B_uncouple 27 = .ok (.athrow, 1) := by decide +kernel
theorem d_B_uncouple_28 : decode c_B_uncouple 28 = .ok (.aload_n 3, 1) := by decide +kernel
theorem d_B_uncouple_29 : decode c_B_uncouple 29 = .ok (.getfield 89, 3) := by decide +kernel
theorem d_B_uncouple_32 : decode c_B_uncouple 32 = .ok (.istore 5, 2) := by decide +kernel
theorem d_B_uncouple_34 : decode c_B_uncouple 34 = .ok (.aload_n 0, 1) := by decide +kernel
theorem d_B_uncouple_35 : decode c_B_uncouple 35 = .ok (.dup, 1) := by decide +kernel
theorem d_B_uncouple_36 : decode c_B_uncouple 36 = .ok (.getfield 77, 3) := by decide +kernel
theorem d_B_uncouple_39 : decode c_B_uncouple 39 = .ok (.iconst 1, 1) := by decide +kernel
theorem d_B_uncouple_40 : decode c_B_uncouple 40 = .ok (.iload 5, 2) := by decide +kernel
theorem d_B_uncouple_42 : decode c_B_uncouple 42 = .ok (.ishl, 1) := by decide +kernel
theorem d_B_uncouple_43 : decode c_B_uncouple 43 = .ok (.iconst (-1), 1) := by decide +kernel
theorem d_B_uncouple_44 : decode c_B_uncouple 44 = .ok (.ixor, 1) := by decide +kernel
theorem d_B_uncouple_45 : decode c_B_uncouple 45 = .ok (.iand, 1) := by decide +kernel
theorem d_B_uncouple_46 : decode c_B_uncouple 46 = .ok (.putfield 77, 3) := by decide +kernel
theorem d_B_uncouple_49 : decode c_B_uncouple 49 = .ok (.aload_n 0, 1) := by decide +kernel
theorem d_B_uncouple_50 : decode c_B_uncouple 50 = .ok (.dup, 1) := by decide +kernel
theorem d_B_uncouple_51 : decode c_B_uncouple 51 = .ok (.getfield 80, 3) := by decide +kernel
theorem d_B_uncouple_54 : decode c_B_uncouple 54 = .ok (.iconst 1, 1) := by decide +kernel
theorem d_B_uncouple_55 : decode c_B_uncouple 55 = .ok (.isub, 1) := by decide +kernel
theorem d_B_uncouple_56 : decode c_B_uncouple 56 = .ok (.putfield 80, 3) := by decide +kernel
theorem d_B_uncouple_59 : decode c_B_uncouple 59 = .ok (.aload_n 3, 1) := by decide +kernel
theorem d_B_uncouple_60 : decode c_B_uncouple 60 = .ok (.invokevirtual 92, 3) := by decide +kernel
theorem d_B_uncouple_63 : decode c_B_uncouple 63 = .ok (.aload 4, 2) := by decide +kernel
theorem d_B_uncouple_65 : decode c_B_uncouple 65 = .ok (.invokevirtual 92, 3) := by decide +kernel
theorem d_B_uncouple_68 : decode c_B_uncouple 68 = .ok (.iload 5, 2) := by decide +kernel
theorem d_B_uncouple_70 : decode c_B_uncouple 70 = .ok (.ireturn, 1) := by decide +kernel
set_option maxRecDepth 20000 in
set_option maxHeartbeats 4000000 in
theorem m_B_uncouple_no {E : kx_E} {w : va_W} {n : Nat} {ad : Nat → Nat} {L : Nat → List Nat} {V S : Nat → Nat → Int32} {pe bi : Nat → Option Nat} (hC : Cls E w n ad L V S pe bi) (hb : biOk n bi) {a ea : Int32} (hx : endQ bi a ea = none) : kx_S E Y_B_uncouple [.ref (ad 0), .int a, .int ea] w (fun o w1 => o = .inr kx_nse ∧ w1 = w) := by
  refine kx_go (by decide) rfl rfl (Nat.le_of_ble_eq_true rfl) (kx_cc rfl (kx_cc rfl (kx_cc rfl kx_c0))) (fun z => ?_)
  have hO : kx_off w w clsN := kx_off.rf
  refine kx_aload_n d_B_uncouple_0 rfl (by first | rfl | exact kx_rf _) ?_
  refine kx_iload_n d_B_uncouple_1 rfl ?_
  refine kx_iload_n d_B_uncouple_2 rfl ?_
  refine kx_callV (as := [.int a, .int ea]) (rest := []) d_B_uncouple_3 v_B_49 rfl (hC.bus) rfl rfl (by decide) (by decide) (Nat.le_of_ble_eq_true rfl) (by decide) (by decide) rfl (m_B_endOf_no hC hb hx) (fun X w1 hq => ⟨rfl, by cases hq.1; exact ⟨rfl, hq.2⟩⟩) (fun v w1 hq => by cases hq.1)
set_option maxRecDepth 20000 in
set_option maxHeartbeats 4000000 in
theorem m_B_uncouple_fre {E : kx_E} {w : va_W} {n : Nat} {ad : Nat → Nat} {L : Nat → List Nat} {V S : Nat → Nat → Int32} {pe bi : Nat → Option Nat} (hC : Cls E w n ad L V S pe bi) (hb : biOk n bi) {a ea : Int32} {x : Nat} (hx : endQ bi a ea = some x) (hpx : pe x = none) : kx_S E Y_B_uncouple [.ref (ad 0), .int a, .int ea] w (fun o w1 => o = .inr kx_ise ∧ w1 = w) := by
  refine kx_go (by decide) rfl rfl (Nat.le_of_ble_eq_true rfl) (kx_cc rfl (kx_cc rfl (kx_cc rfl kx_c0))) (fun z => ?_)
  have hO : kx_off w w clsN := kx_off.rf
  have hxn := endQ_N hb hx
  refine kx_aload_n d_B_uncouple_0 rfl (by first | rfl | exact kx_rf _) ?_
  refine kx_iload_n d_B_uncouple_1 rfl ?_
  refine kx_iload_n d_B_uncouple_2 rfl ?_
  refine kx_callV (as := [.int a, .int ea]) (rest := []) d_B_uncouple_3 v_B_49 rfl (hC.bus) rfl rfl (by decide) (by decide) (Nat.le_of_ble_eq_true rfl) (by decide) (by decide) rfl (m_B_endOf hC hb hx) (fun X w1 h => by cases h.1) (fun v w1 hq9 => ?_)
  obtain ⟨hv, hw9⟩ := hq9
  cases hv
  subst hw9
  refine kx_stk (st1 := [.ref (ad x)]) rfl ?_
  refine kx_astore_n d_B_uncouple_6 (by decide) (by first | rfl | exact kx_rf _) ?_
  refine kx_aload_n d_B_uncouple_7 rfl (by first | rfl | exact kx_rf _) ?_
  refine kx_get _ d_B_uncouple_8 f_B_53 (hC.endAt hxn) (by rfl) ?_
  rw [hpx]
  refine kx_stk (st1 := [va_rf none]) rfl ?_
  refine kx_astore d_B_uncouple_11 (by decide) (by first | rfl | exact kx_rf _) ?_
  refine kx_aload d_B_uncouple_13 rfl (by first | rfl | exact kx_rf _) ?_
  refine kx_ifnonnull (o := none) 28 d_B_uncouple_15 (by decide) (fun a h => by cases h) (fun _ => ?_)
  exact kx_throw d_B_uncouple_18 d_B_uncouple_21 d_B_uncouple_22 d_B_uncouple_24 d_B_uncouple_27 t_B_87 rfl (by decide) (Nat.le_of_ble_eq_true rfl) (by decide) (by decide) ⟨rfl, rfl⟩
def uncS (S : Nat → Nat → Int32) (x y : Nat) : Nat → Nat → Int32 :=
  up2 (up2 (up2 (up2 S 0 6 (S 0 6 &&& ((nI 1) <<< (S x 6 &&& 31) ^^^ -1))) 0 5 (S 0 5 - nI 1)) x 6 (-1)) y 6 (-1)
def uncP (pe : Nat → Option Nat) (x y : Nat) : Nat → Option Nat := up1 (up1 pe x none) y none
set_option maxRecDepth 20000 in
set_option maxHeartbeats 4000000 in
theorem m_B_uncouple {E : kx_E} {w : va_W} {n : Nat} {ad : Nat → Nat} {L : Nat → List Nat} {V S : Nat → Nat → Int32} {pe bi : Nat → Option Nat} (hC : Cls E w n ad L V S pe bi) (hb : biOk n bi) {a ea : Int32} {x : Nat} (hx : endQ bi a ea = some x) (hp : peOk n pe) {y : Nat} (hpx : pe x = some y) : kx_S E Y_B_uncouple [.ref (ad 0), .int a, .int ea] w (CQ E w n ad L V (uncS S x y) (uncP pe x y) bi (some (.int (S x 6)))) := by
  refine kx_go (by decide) rfl rfl (Nat.le_of_ble_eq_true rfl) (kx_cc rfl (kx_cc rfl (kx_cc rfl kx_c0))) (fun z => ?_)
  have hO : kx_off w w clsN := kx_off.rf
  have hxn := endQ_N hb hx
  have hyn := hp x y hxn hpx
  refine kx_aload_n d_B_uncouple_0 rfl (by first | rfl | exact kx_rf _) ?_
  refine kx_iload_n d_B_uncouple_1 rfl ?_
  refine kx_iload_n d_B_uncouple_2 rfl ?_
  refine kx_callV (as := [.int a, .int ea]) (rest := []) d_B_uncouple_3 v_B_49 rfl (hC.bus) rfl rfl (by decide) (by decide) (Nat.le_of_ble_eq_true rfl) (by decide) (by decide) rfl (m_B_endOf hC hb hx) (fun X w1 h => by cases h.1) (fun v w1 hq9 => ?_)
  obtain ⟨hv, hw9⟩ := hq9
  cases hv
  subst hw9
  refine kx_stk (st1 := [.ref (ad x)]) rfl ?_
  refine kx_astore_n d_B_uncouple_6 (by decide) (by first | rfl | exact kx_rf _) ?_
  refine kx_aload_n d_B_uncouple_7 rfl (by first | rfl | exact kx_rf _) ?_
  refine kx_get _ d_B_uncouple_8 f_B_53 (hC.endAt hxn) (by rfl) ?_
  rw [hpx]
  refine kx_stk (st1 := [.ref (ad y)]) rfl ?_
  refine kx_astore d_B_uncouple_11 (by decide) (by first | rfl | exact kx_rf _) ?_
  refine kx_aload d_B_uncouple_13 rfl (by first | rfl | exact kx_rf _) ?_
  refine kx_ifnonnull (o := some (ad y)) 28 d_B_uncouple_15 (by decide) (fun _ _ => ?_) (fun h => by cases h)
  refine kx_aload_n d_B_uncouple_28 rfl (by first | rfl | exact kx_rf _) ?_
  refine kx_get _ d_B_uncouple_29 f_B_89 (hC.endAt hxn) (by rfl) ?_
  refine kx_istore d_B_uncouple_32 (by decide) ?_
  refine kx_aload_n d_B_uncouple_34 rfl (by first | rfl | exact kx_rf _) ?_
  refine kx_dup d_B_uncouple_35 (by first | rfl | exact kx_rfc _) ?_
  refine kx_get _ d_B_uncouple_36 f_B_77 hC.bus (by rfl) ?_
  refine kx_iconst (nI 1) d_B_uncouple_39 (by decide) ?_
  refine kx_iload d_B_uncouple_40 rfl ?_
  refine kx_ishl _ d_B_uncouple_42 rfl ?_
  refine kx_iconst (-1) d_B_uncouple_43 (by decide) ?_
  refine kx_ixor _ d_B_uncouple_44 rfl ?_
  refine kx_iand _ d_B_uncouple_45 rfl ?_
  refine cB_put6 d_B_uncouple_46 f_B_77 hC hO (fun w hC hO => ?_)
  refine kx_aload_n d_B_uncouple_49 rfl (by first | rfl | exact kx_rf _) ?_
  refine kx_dup d_B_uncouple_50 (by first | rfl | exact kx_rfc _) ?_
  refine kx_get _ d_B_uncouple_51 f_B_80 hC.bus (by rfl) ?_
  rw [up2_k (by decide)]
  refine kx_iconst (nI 1) d_B_uncouple_54 (by decide) ?_
  refine kx_isub _ d_B_uncouple_55 rfl ?_
  refine cB_put5 d_B_uncouple_56 f_B_80 hC hO (fun w hC hO => ?_)
  refine kx_aload_n d_B_uncouple_59 rfl (by first | rfl | exact kx_rf _) ?_
  refine kx_callV (as := []) (rest := []) d_B_uncouple_60 v_B_92 rfl (hC.endAt hxn) rfl rfl (by decide) (by decide) (Nat.le_of_ble_eq_true rfl) (by decide) (by decide) rfl (m_N_part hC hxn) (fun X w1 h => by cases h.1) (fun v w hq9 => ?_)
  obtain ⟨hv, hC, hO9⟩ := hq9
  cases hv
  have hO := hO.tr hO9 (fun _ h => h) (fun _ h => h)
  refine kx_stk (st1 := []) rfl ?_
  refine kx_aload d_B_uncouple_63 rfl (by first | rfl | exact kx_rf _) ?_
  refine kx_callV (as := []) (rest := []) d_B_uncouple_65 v_B_92 rfl (hC.endAt hyn) rfl rfl (by decide) (by decide) (Nat.le_of_ble_eq_true rfl) (by decide) (by decide) rfl (m_N_part hC hyn) (fun X w1 h => by cases h.1) (fun v w hq9 => ?_)
  obtain ⟨hv, hC, hO9⟩ := hq9
  cases hv
  have hO := hO.tr hO9 (fun _ h => h) (fun _ h => h)
  refine kx_stk (st1 := []) rfl ?_
  refine kx_iload d_B_uncouple_68 rfl ?_
  refine kx_iret d_B_uncouple_70 rfl (by decide) (by decide) ?_
  exact ⟨rfl, hC, hO⟩
theorem d_B_side_0 : decode c_B_side 0 = .ok (.aload_n 0, 1) := by decide +kernel
theorem d_B_side_1 : decode c_B_side 1 = .ok (.iload_n 1, 1) := by decide +kernel
theorem d_B_side_2 : decode c_B_side 2 = .ok (.invokevirtual 59, 3) := by decide +kernel
theorem d_B_side_5 : decode c_B_side 5 = .ok (.getfield 114, 3) := by decide +kernel
theorem d_B_side_8 : decode c_B_side 8 = .ok (.astore 4, 2) := by decide +kernel
theorem d_B_side_10 : decode c_B_side 10 = .ok (.iload_n 3, 1) := by decide +kernel
theorem d_B_side_11 : decode c_B_side 11 = .ok (.ifCond .lt 9, 3) := by decide +kernel
theorem d_B_side_14 : decode c_B_side 14 = .ok (.iload_n 3, 1) := by decide +kernel
theorem d_B_side_15 : decode c_B_side 15 = .ok (.bipush 16, 2) := by decide +kernel
theorem d_B_side_17 : decode c_B_side 17 = .ok (.if_icmp .lt 13, 3) := by decide +kernel
theorem d_B_side_20 : decode c_B_side 20 = .ok (.new 30, 3) := by decide +kernel
theorem d_B_side_23 : decode c_B_side 23 = .ok (.dup, 1) := by decide +kernel
theorem d_B_side_24 : decode c_B_side 24 = .ok (.ldc 137, 2) := by decide +kernel
theorem d_B_side_26 : decode c_B_side 26 = .ok (.invokespecial 34, 3) := by decide +kernel
theorem d_B_side_29 : decode c_B_side 29 = .ok (.athrow, 1) := by decide +kernel
theorem d_B_side_30 : decode c_B_side 30 = .ok (.aload_n 0, 1) := by decide +kernel
theorem d_B_side_31 : decode c_B_side 31 = .ok (.aload 4, 2) := by decide +kernel
theorem d_B_side_33 : decode c_B_side 33 = .ok (.iload_n 2, 1) := by decide +kernel
theorem d_B_side_34 : decode c_B_side 34 = .ok (.invokevirtual 117, 3) := by decide +kernel
theorem d_B_side_37 : decode c_B_side 37 = .ok (.invokevirtual 139, 3) := by decide +kernel
theorem d_B_side_40 : decode c_B_side 40 = .ok (.astore 5, 2) := by decide +kernel
theorem d_B_side_42 : decode c_B_side 42 = .ok (.aload 5, 2) := by decide +kernel
theorem d_B_side_44 : decode c_B_side 44 = .ok (.ifnonnull 5, 3) := by decide +kernel
theorem d_B_side_47 : decode c_B_side 47 = .ok (.iconst (-1), 1) := by decide +kernel
theorem d_B_side_48 : decode c_B_side 48 = .ok (.ireturn, 1) := by decide +kernel
theorem d_B_side_49 : decode c_B_side 49 = .ok (.iload_n 3, 1) := by decide +kernel
theorem d_B_side_50 : decode c_B_side 50 = .ok (.bipush 8, 2) := by decide +kernel
theorem d_B_side_52 : decode c_B_side 52 = .ok (.if_icmp .ge 17, 3) := by decide +kernel
theorem d_B_side_55 : decode c_B_side 55 = .ok (.aload 4, 2) := by decide +kernel
theorem d_B_side_57 : decode c_B_side 57 = .ok (.iload_n 2, 1) := by decide +kernel
theorem d_B_side_58 : decode c_B_side 58 = .ok (.invokevirtual 142, 3) := by decide +kernel
theorem d_B_side_61 : decode c_B_side 61 = .ok (.iconst 1, 1) := by decide +kernel
theorem d_B_side_62 : decode c_B_side 62 = .ok (.if_icmp .ne 7, 3) := by decide +kernel
theorem d_B_side_65 : decode c_B_side 65 = .ok (.iconst 1, 1) := by decide +kernel
theorem d_B_side_66 : decode c_B_side 66 = .ok (.goto 4, 3) := by decide +kernel
theorem d_B_side_69 : decode c_B_side 69 = .ok (.iconst 0, 1) := by decide +kernel
theorem d_B_side_70 : decode c_B_side 70 = .ok (.istore 6, 2) := by decide +kernel
theorem d_B_side_72 : decode c_B_side 72 = .ok (.iload 6, 2) := by decide +kernel
theorem d_B_side_74 : decode c_B_side 74 = .ok (.ifCond .eq 9, 3) := by decide +kernel
theorem d_B_side_77 : decode c_B_side 77 = .ok (.iload_n 3, 1) := by decide +kernel
theorem d_B_side_78 : decode c_B_side 78 = .ok (.iconst 1, 1) := by decide +kernel
theorem d_B_side_79 : decode c_B_side 79 = .ok (.ixor, 1) := by decide +kernel
theorem d_B_side_80 : decode c_B_side 80 = .ok (.goto 4, 3) := by decide +kernel
theorem d_B_side_83 : decode c_B_side 83 = .ok (.iload_n 3, 1) := by decide +kernel
theorem d_B_side_84 : decode c_B_side 84 = .ok (.istore 7, 2) := by decide +kernel
theorem d_B_side_86 : decode c_B_side 86 = .ok (.aload 5, 2) := by decide +kernel
theorem d_B_side_88 : decode c_B_side 88 = .ok (.iload 7, 2) := by decide +kernel
theorem d_B_side_90 : decode c_B_side 90 = .ok (.invokevirtual 145, 3) := by decide +kernel
theorem d_B_side_93 : decode c_B_side 93 = .ok (.ifCond .eq 8, 3) := by decide +kernel
theorem d_B_side_96 : decode c_B_side 96 = .ok (.iload 7, 2) := by decide +kernel
theorem d_B_side_98 : decode c_B_side 98 = .ok (.goto 4, 3) := by decide +kernel
theorem d_B_side_101 : decode c_B_side 101 = .ok (.iconst (-1), 1) := by decide +kernel
theorem d_B_side_102 : decode c_B_side 102 = .ok (.ireturn, 1) := by decide +kernel
set_option maxRecDepth 20000 in
set_option maxHeartbeats 4000000 in
theorem m_B_side_no {E : kx_E} {w : va_W} {n : Nat} {ad : Nat → Nat} {L : Nat → List Nat} {V S : Nat → Nat → Int32} {pe bi : Nat → Option Nat} (hC : Cls E w n ad L V S pe bi) {car v f : Int32} (hc0 : carI bi car = none) : kx_S E Y_B_side [.ref (ad 0), .int car, .int v, .int f] w (fun o w1 => o = .inr kx_nse ∧ w1 = w) := by
  refine kx_go (by decide) rfl rfl (Nat.le_of_ble_eq_true rfl) (kx_cc rfl (kx_cc rfl (kx_cc rfl (kx_cc rfl kx_c0)))) (fun z => ?_)
  have hO : kx_off w w clsN := kx_off.rf
  refine kx_aload_n d_B_side_0 rfl (by first | rfl | exact kx_rf _) ?_
  refine kx_iload_n d_B_side_1 rfl ?_
  refine kx_callV (as := [.int car]) (rest := []) d_B_side_2 v_B_59 rfl (hC.bus) rfl rfl (by decide) (by decide) (Nat.le_of_ble_eq_true rfl) (by decide) (by decide) rfl (m_B_carOf_no hC hc0) (fun X w1 hq => ⟨rfl, by cases hq.1; exact ⟨rfl, hq.2⟩⟩) (fun v w1 hq => by cases hq.1)
set_option maxRecDepth 20000 in
set_option maxHeartbeats 4000000 in
theorem m_B_side_bad {E : kx_E} {w : va_W} {n : Nat} {ad : Nat → Nat} {L : Nat → List Nat} {V S : Nat → Nat → Int32} {pe bi : Nat → Option Nat} (hC : Cls E w n ad L V S pe bi) (hb : biOk n bi) {car v f : Int32} {c : Nat} (hc0 : carI bi car = some c) (hv : f < 0 ∨ ¬ f < nI 16) : kx_S E Y_B_side [.ref (ad 0), .int car, .int v, .int f] w (fun o w1 => o = .inr kx_iae ∧ w1 = w) := by
  refine kx_go (by decide) rfl rfl (Nat.le_of_ble_eq_true rfl) (kx_cc rfl (kx_cc rfl (kx_cc rfl (kx_cc rfl kx_c0)))) (fun z => ?_)
  have hO : kx_off w w clsN := kx_off.rf
  have hc := carI_c hb hc0
  refine kx_aload_n d_B_side_0 rfl (by first | rfl | exact kx_rf _) ?_
  refine kx_iload_n d_B_side_1 rfl ?_
  refine kx_callV (as := [.int car]) (rest := []) d_B_side_2 v_B_59 rfl (hC.bus) rfl rfl (by decide) (by decide) (Nat.le_of_ble_eq_true rfl) (by decide) (by decide) rfl (m_B_carOf hC hc0) (fun X w1 h => by cases h.1) (fun v w1 hq9 => ?_)
  obtain ⟨hv, hw9⟩ := hq9
  cases hv
  subst hw9
  refine kx_stk (st1 := [.ref (ad (carB c))]) rfl ?_
  refine kx_get _ d_B_side_5 f_B_114 (hC.car c hc) (by rfl) ?_
  refine kx_astore d_B_side_8 (by decide) (by first | rfl | exact kx_rf _) ?_
  refine kx_iload_n d_B_side_10 rfl ?_
  refine kx_if_lt 20 d_B_side_11 (by decide) ?_ ?_
  · intro h11
    exact kx_throw d_B_side_20 d_B_side_23 d_B_side_24 d_B_side_26 d_B_side_29 t_B_137 rfl (by decide) (Nat.le_of_ble_eq_true rfl) (by decide) (by decide) ⟨rfl, rfl⟩
  · intro h11
    refine kx_iload_n d_B_side_14 rfl ?_
    refine kx_bipush (nI 16) d_B_side_15 (by decide) ?_
    refine kx_icmp_lt 30 d_B_side_17 (by decide) ?_ ?_
    · intro h17
      exact absurd hv (by rintro (h | h); exact h11 h; exact h h17)
    · intro h17
      exact kx_throw d_B_side_20 d_B_side_23 d_B_side_24 d_B_side_26 d_B_side_29 t_B_137 rfl (by decide) (Nat.le_of_ble_eq_true rfl) (by decide) (by decide) ⟨rfl, rfl⟩
set_option maxRecDepth 20000 in
set_option maxHeartbeats 4000000 in
theorem m_B_side_out {E : kx_E} {w : va_W} {n : Nat} {ad : Nat → Nat} {L : Nat → List Nat} {V S : Nat → Nat → Int32} {pe bi : Nat → Option Nat} (hC : Cls E w n ad L V S pe bi) (hb : biOk n bi) {car v : Int32} {c f : Nat} (hc0 : carI bi car = some c) (hf : f < 16) (hj : v < nI 1 ∨ nI (L (carB c + 26)).length < v) : kx_S E Y_B_side [.ref (ad 0), .int car, .int v, .int (nI f)] w (kx_Qi w (-1)) := by
  refine kx_go (by decide) rfl rfl (Nat.le_of_ble_eq_true rfl) (kx_cc rfl (kx_cc rfl (kx_cc rfl (kx_cc rfl kx_c0)))) (fun z => ?_)
  have hO : kx_off w w clsN := kx_off.rf
  have hc := carI_c hb hc0
  have hm1 : carI bi (-1) = none := by unfold carI; rw [if_pos (Or.inl (by decide))]
  refine kx_aload_n d_B_side_0 rfl (by first | rfl | exact kx_rf _) ?_
  refine kx_iload_n d_B_side_1 rfl ?_
  refine kx_callV (as := [.int car]) (rest := []) d_B_side_2 v_B_59 rfl (hC.bus) rfl rfl (by decide) (by decide) (Nat.le_of_ble_eq_true rfl) (by decide) (by decide) rfl (m_B_carOf hC hc0) (fun X w1 h => by cases h.1) (fun v w1 hq9 => ?_)
  obtain ⟨hv, hw9⟩ := hq9
  cases hv
  subst hw9
  refine kx_stk (st1 := [.ref (ad (carB c))]) rfl ?_
  refine kx_get _ d_B_side_5 f_B_114 (hC.car c hc) (by rfl) ?_
  refine kx_astore d_B_side_8 (by decide) (by first | rfl | exact kx_rf _) ?_
  refine kx_iload_n d_B_side_10 rfl ?_
  refine kx_if_lt_n 20 d_B_side_11 (by decide) (by omega) ?_
  refine kx_iload_n d_B_side_14 rfl ?_
  refine kx_bipush (nI 16) d_B_side_15 (by decide) ?_
  first | refine kx_icmp_lt_n 30 d_B_side_17 (by decide) (by omega) (by omega) ?_ ?_ | refine kx_icmp_lt 30 d_B_side_17 (by decide) ?_ ?_
  · intro h17
    refine kx_aload_n d_B_side_30 rfl (by first | rfl | exact kx_rf _) ?_
    refine kx_aload d_B_side_31 rfl (by first | rfl | exact kx_rf _) ?_
    refine kx_iload_n d_B_side_33 rfl ?_
    refine cR_idAt_no d_B_side_34 v_B_117 hC (rowN_26 hc) hj (by decide) (Nat.le_of_ble_eq_true rfl) (by decide) (by decide) ?_
    refine kx_callV (as := [.int (-1)]) (rest := []) d_B_side_37 v_B_139 rfl (hC.bus) rfl rfl (by decide) (by decide) (Nat.le_of_ble_eq_true rfl) (by decide) (by decide) rfl (m_B_carWithId hC (-1)) (fun X w1 h => by cases h.1) (fun v w1 hq9 => ?_)
    obtain ⟨hv, hw9⟩ := hq9
    cases hv
    subst hw9
    rw [hm1]
    refine kx_stk (st1 := [va_rf none]) rfl ?_
    refine kx_astore d_B_side_40 (by decide) (by first | rfl | exact kx_rf _) ?_
    refine kx_aload d_B_side_42 rfl (by first | rfl | exact kx_rf _) ?_
    refine kx_ifnonnull (o := none) 49 d_B_side_44 (by decide) (fun a h => by cases h) (fun _ => ?_)
    refine kx_iconst (-1) d_B_side_47 (by decide) ?_
    refine kx_iret d_B_side_48 rfl (by decide) (by decide) ?_
    exact ⟨rfl, rfl⟩
  · intro h17
    exact absurd h17 (by omega)
def sidF (it f : Nat) : Nat := if f < 8 ∧ it % 2 = 1 then f ^^^ 1 else f
def sidI (mask : Int32) (it f : Nat) : Int32 := if hasI mask (nI (sidF it f)) = 0 then -1 else nI (sidF it f)
theorem hasI_01 (m f : Int32) : hasI m f < 2 ^ 31 := by unfold hasI; split <;> decide
set_option maxRecDepth 20000 in
set_option maxHeartbeats 4000000 in
theorem m_B_side {E : kx_E} {w : va_W} {n : Nat} {ad : Nat → Nat} {L : Nat → List Nat} {V S : Nat → Nat → Int32} {pe bi : Nat → Option Nat} (hC : Cls E w n ad L V S pe bi) (hb : biOk n bi) {car : Int32} {c c2 j f : Nat} (hc0 : carI bi car = some c) (hf : f < 16) (hj : j < (L (carB c + 26)).length) (h2 : carI bi (nI ((L (carB c + 26)).getD j 0 / 2)) = some c2) : kx_S E Y_B_side [.ref (ad 0), .int car, .int (nI (j + 1)), .int (nI f)] w (kx_Qi w (sidI (S (carB c2) 1) ((L (carB c + 26)).getD j 0) f)) := by
  refine kx_go (by decide) rfl rfl (Nat.le_of_ble_eq_true rfl) (kx_cc rfl (kx_cc rfl (kx_cc rfl (kx_cc rfl kx_c0)))) (fun z => ?_)
  have hO : kx_off w w clsN := kx_off.rf
  have hc := carI_c hb hc0
  have hc2 := carI_c hb h2
  have hm := Nat.mod_lt ((L (carB c + 26)).getD j 0) (show 2 > 0 by decide)
  have k1 : (f < 8 ∧ (L (carB c + 26)).getD j 0 % 2 = 1) → kx_R E Y_B_side z 65 [(0, .ref (ad 0)), (3, .int (nI f)), (5, .ref (ad (carB c2)))] [] w 1 6 (kx_Qi w (sidI (S (carB c2) 1) ((L (carB c + 26)).getD j 0) f)) := by
    intro hq
    have hs : sidF ((L (carB c + 26)).getD j 0) f = f ^^^ 1 := by unfold sidF; rw [if_pos hq]
    refine kx_iconst (nI 1) d_B_side_65 (by decide) ?_
    refine kx_goto 70 d_B_side_66 (by decide) ?_
    refine kx_istore d_B_side_70 (by decide) ?_
    refine kx_iload d_B_side_72 rfl ?_
    refine kx_if_eq_n 83 d_B_side_74 (by decide) (by decide) (fun h => absurd h (by decide)) (fun _ => ?_)
    refine kx_iload_n d_B_side_77 rfl ?_
    refine kx_iconst (nI 1) d_B_side_78 (by decide) ?_
    first | refine kx_ixor _ d_B_side_79 (kx_xor _ _) ?_ | refine kx_ixor _ d_B_side_79 rfl ?_
    refine kx_goto 84 d_B_side_80 (by decide) ?_
    refine kx_istore d_B_side_84 (by decide) ?_
    refine kx_aload d_B_side_86 rfl (by first | rfl | exact kx_rf _) ?_
    refine kx_iload d_B_side_88 rfl ?_
    refine kx_callV (as := [.int (nI (f ^^^ 1))]) (rest := []) d_B_side_90 v_B_145 rfl (hC.car c2 hc2) rfl rfl (by decide) (by decide) (Nat.le_of_ble_eq_true rfl) (by decide) (by decide) rfl (m_C_hasFunction hC hc2 (nI (f ^^^ 1))) (fun X w1 h => by cases h.1) (fun v w1 hq9 => ?_)
    obtain ⟨hv, hw9⟩ := hq9
    cases hv
    subst hw9
    refine kx_stk (st1 := [.int (nI (hasI (S (carB c2) 1) (nI (f ^^^ 1))))]) rfl ?_
    refine kx_if_eq_n 101 d_B_side_93 (by decide) (hasI_01 _ _) ?_ ?_
    · intro h93
      refine kx_iconst (-1) d_B_side_101 (by decide) ?_
      refine kx_iret d_B_side_102 rfl (by decide) (by decide) ?_
      unfold sidI
      rw [hs]
      first
        | (rw [if_pos h93]; exact ⟨rfl, rfl⟩)
        | (rw [if_neg h93]; exact ⟨rfl, rfl⟩)
    · intro h93
      refine kx_iload d_B_side_96 rfl ?_
      refine kx_goto 102 d_B_side_98 (by decide) ?_
      refine kx_iret d_B_side_102 rfl (by decide) (by decide) ?_
      unfold sidI
      rw [hs]
      first
        | (rw [if_pos h93]; exact ⟨rfl, rfl⟩)
        | (rw [if_neg h93]; exact ⟨rfl, rfl⟩)
  have k0 : (¬ (f < 8 ∧ (L (carB c + 26)).getD j 0 % 2 = 1)) → kx_R E Y_B_side z 69 [(0, .ref (ad 0)), (3, .int (nI f)), (5, .ref (ad (carB c2)))] [] w 1 6 (kx_Qi w (sidI (S (carB c2) 1) ((L (carB c + 26)).getD j 0) f)) := by
    intro hq
    have hs : sidF ((L (carB c + 26)).getD j 0) f = f := by unfold sidF; rw [if_neg hq]
    refine kx_iconst (nI 0) d_B_side_69 (by decide) ?_
    refine kx_istore d_B_side_70 (by decide) ?_
    refine kx_iload d_B_side_72 rfl ?_
    refine kx_if_eq_n 83 d_B_side_74 (by decide) (by decide) (fun _ => ?_) (fun h => absurd rfl h)
    refine kx_iload_n d_B_side_83 rfl ?_
    refine kx_istore d_B_side_84 (by decide) ?_
    refine kx_aload d_B_side_86 rfl (by first | rfl | exact kx_rf _) ?_
    refine kx_iload d_B_side_88 rfl ?_
    refine kx_callV (as := [.int (nI f)]) (rest := []) d_B_side_90 v_B_145 rfl (hC.car c2 hc2) rfl rfl (by decide) (by decide) (Nat.le_of_ble_eq_true rfl) (by decide) (by decide) rfl (m_C_hasFunction hC hc2 (nI f)) (fun X w1 h => by cases h.1) (fun v w1 hq9 => ?_)
    obtain ⟨hv, hw9⟩ := hq9
    cases hv
    subst hw9
    refine kx_stk (st1 := [.int (nI (hasI (S (carB c2) 1) (nI f)))]) rfl ?_
    refine kx_if_eq_n 101 d_B_side_93 (by decide) (hasI_01 _ _) ?_ ?_
    · intro h93
      refine kx_iconst (-1) d_B_side_101 (by decide) ?_
      refine kx_iret d_B_side_102 rfl (by decide) (by decide) ?_
      unfold sidI
      rw [hs]
      first
        | (rw [if_pos h93]; exact ⟨rfl, rfl⟩)
        | (rw [if_neg h93]; exact ⟨rfl, rfl⟩)
    · intro h93
      refine kx_iload d_B_side_96 rfl ?_
      refine kx_goto 102 d_B_side_98 (by decide) ?_
      refine kx_iret d_B_side_102 rfl (by decide) (by decide) ?_
      unfold sidI
      rw [hs]
      first
        | (rw [if_pos h93]; exact ⟨rfl, rfl⟩)
        | (rw [if_neg h93]; exact ⟨rfl, rfl⟩)
  refine kx_aload_n d_B_side_0 rfl (by first | rfl | exact kx_rf _) ?_
  refine kx_iload_n d_B_side_1 rfl ?_
  refine kx_callV (as := [.int car]) (rest := []) d_B_side_2 v_B_59 rfl (hC.bus) rfl rfl (by decide) (by decide) (Nat.le_of_ble_eq_true rfl) (by decide) (by decide) rfl (m_B_carOf hC hc0) (fun X w1 h => by cases h.1) (fun v w1 hq9 => ?_)
  obtain ⟨hv, hw9⟩ := hq9
  cases hv
  subst hw9
  refine kx_stk (st1 := [.ref (ad (carB c))]) rfl ?_
  refine kx_get _ d_B_side_5 f_B_114 (hC.car c hc) (by rfl) ?_
  refine kx_astore d_B_side_8 (by decide) (by first | rfl | exact kx_rf _) ?_
  refine kx_iload_n d_B_side_10 rfl ?_
  refine kx_if_lt_n 20 d_B_side_11 (by decide) (by omega) ?_
  refine kx_iload_n d_B_side_14 rfl ?_
  refine kx_bipush (nI 16) d_B_side_15 (by decide) ?_
  first | refine kx_icmp_lt_n 30 d_B_side_17 (by decide) (by omega) (by omega) ?_ ?_ | refine kx_icmp_lt 30 d_B_side_17 (by decide) ?_ ?_
  · intro h17
    refine kx_aload_n d_B_side_30 rfl (by first | rfl | exact kx_rf _) ?_
    refine kx_aload d_B_side_31 rfl (by first | rfl | exact kx_rf _) ?_
    refine kx_iload_n d_B_side_33 rfl ?_
    refine cR_idAt d_B_side_34 v_B_117 hC (rowN_26 hc) hj (by decide) (Nat.le_of_ble_eq_true rfl) (by decide) (by decide) ?_
    refine kx_callV (as := [.int (nI ((L (carB c + 26)).getD j 0 / 2))]) (rest := []) d_B_side_37 v_B_139 rfl (hC.bus) rfl rfl (by decide) (by decide) (Nat.le_of_ble_eq_true rfl) (by decide) (by decide) rfl (m_B_carWithId hC _) (fun X w1 h => by cases h.1) (fun v w1 hq9 => ?_)
    obtain ⟨hv, hw9⟩ := hq9
    cases hv
    subst hw9
    rw [h2]
    refine kx_stk (st1 := [.ref (ad (carB c2))]) rfl ?_
    refine kx_astore d_B_side_40 (by decide) (by first | rfl | exact kx_rf _) ?_
    refine kx_aload d_B_side_42 rfl (by first | rfl | exact kx_rf _) ?_
    refine kx_ifnonnull (o := some (ad (carB c2))) 49 d_B_side_44 (by decide) (fun _ _ => ?_) (fun h => by cases h)
    refine kx_iload_n d_B_side_49 rfl ?_
    refine kx_bipush (nI 8) d_B_side_50 (by decide) ?_
    first | refine kx_icmp_ge_n 69 d_B_side_52 (by decide) (by omega) (by omega) ?_ ?_ | refine kx_icmp_ge 69 d_B_side_52 (by decide) ?_ ?_
    · intro h52
      refine kx_loc (L1 := [(0, .ref (ad 0)), (3, .int (nI f)), (5, .ref (ad (carB c2)))]) ⟨rfl, rfl, rfl, trivial⟩ (k0 ?_)
      rintro ⟨g1, g2⟩
      omega
    · intro h52
      refine kx_aload d_B_side_55 rfl (by first | rfl | exact kx_rf _) ?_
      refine kx_iload_n d_B_side_57 rfl ?_
      refine cR_endAt d_B_side_58 v_B_142 hC (rowN_26 hc) hj (by decide) (Nat.le_of_ble_eq_true rfl) (by decide) (by decide) ?_
      refine kx_iconst (nI 1) d_B_side_61 (by decide) ?_
      first | refine kx_icmp_ne_n 69 d_B_side_62 (by decide) (by omega) (by omega) ?_ ?_ | refine kx_icmp_ne 69 d_B_side_62 (by decide) ?_ ?_
      · intro h62
        refine kx_loc (L1 := [(0, .ref (ad 0)), (3, .int (nI f)), (5, .ref (ad (carB c2)))]) ⟨rfl, rfl, rfl, trivial⟩ (k0 ?_)
        rintro ⟨g1, g2⟩
        omega
      · intro h62
        refine kx_loc (L1 := [(0, .ref (ad 0)), (3, .int (nI f)), (5, .ref (ad (carB c2)))]) ⟨rfl, rfl, rfl, trivial⟩ (k1 ?_)
        exact ⟨h52, h62⟩
  · intro h17
    exact absurd h17 (by omega)
def setB (pe : Nat → Option Nat) (L : Nat → List Nat) (S : Nat → Nat → Int32) (c : Nat) : Nat := if staI L c (clN (S (carE c 0) 8)) (clN (S (carE c 1) 8)) = 2 ∧ L (carB c + 26) = truL pe S c then 1 else 0
def setN (pe : Nat → Option Nat) (L : Nat → List Nat) (S : Nat → Nat → Int32) : Nat → Nat
  | 0 => 0
  | k + 1 => setN pe L S k + setB pe L S k
theorem setN_le (pe : Nat → Option Nat) (L : Nat → List Nat) (S : Nat → Nat → Int32) : ∀ k, setN pe L S k ≤ k
  | 0 => Nat.le_refl _
  | k + 1 => by
    have h := setN_le pe L S k
    show setN pe L S k + setB pe L S k ≤ k + 1
    have : setB pe L S k ≤ 1 := by unfold setB; split <;> decide
    omega
theorem staI_4 (L : Nat → List Nat) (l : List Nat) (c s0 s1 : Nat) : staI (up1 L 4 l) c s0 s1 = staI L c s0 s1 := by
  have a : up1 L 4 l (carB c + 26) = L (carB c + 26) := up1_n (by simp only [carB]; omega)
  have b : ∀ i, up1 L 4 l (carE c i + 3) = L (carE c i + 3) := fun i => up1_n (by unfold carE; simp only [carB]; split <;> omega)
  unfold staI agrI
  rw [a, b, b]
theorem up1_self {α : Type} (f : Nat → α) (x : Nat) : up1 f x (f x) = f := by
  funext y
  unfold up1
  split
  · rename_i h; rw [h]
  · rfl
theorem d_B_settled_0 : decode c_B_settled 0 = .ok (.iconst 0, 1) := by decide +kernel
theorem d_B_settled_1 : decode c_B_settled 1 = .ok (.istore_n 1, 1) := by decide +kernel
theorem d_B_settled_2 : decode c_B_settled 2 = .ok (.iconst 0, 1) := by decide +kernel
theorem d_B_settled_3 : decode c_B_settled 3 = .ok (.istore_n 2, 1) := by decide +kernel
theorem d_B_settled_4 : decode c_B_settled 4 = .ok (.iload_n 2, 1) := by decide +kernel
theorem d_B_settled_5 : decode c_B_settled 5 = .ok (.aload_n 0, 1) := by decide +kernel
theorem d_B_settled_6 : decode c_B_settled 6 = .ok (.getfield 37, 3) := by decide +kernel
theorem d_B_settled_9 : decode c_B_settled 9 = .ok (.if_icmp .ge 42, 3) := by decide +kernel
theorem d_B_settled_12 : decode c_B_settled 12 = .ok (.aload_n 0, 1) := by decide +kernel
theorem d_B_settled_13 : decode c_B_settled 13 = .ok (.getfield 11, 3) := by decide +kernel
theorem d_B_settled_16 : decode c_B_settled 16 = .ok (.iload_n 2, 1) := by decide +kernel
theorem d_B_settled_17 : decode c_B_settled 17 = .ok (.aaload, 1) := by decide +kernel
theorem d_B_settled_18 : decode c_B_settled 18 = .ok (.astore_n 3, 1) := by decide +kernel
theorem d_B_settled_19 : decode c_B_settled 19 = .ok (.aload_n 3, 1) := by decide +kernel
theorem d_B_settled_20 : decode c_B_settled 20 = .ok (.invokevirtual 149, 3) := by decide +kernel
theorem d_B_settled_23 : decode c_B_settled 23 = .ok (.iconst 2, 1) := by decide +kernel
theorem d_B_settled_24 : decode c_B_settled 24 = .ok (.if_icmp .ne 21, 3) := by decide +kernel
theorem d_B_settled_27 : decode c_B_settled 27 = .ok (.aload_n 3, 1) := by decide +kernel
theorem d_B_settled_28 : decode c_B_settled 28 = .ok (.getfield 114, 3) := by decide +kernel
theorem d_B_settled_31 : decode c_B_settled 31 = .ok (.aload_n 0, 1) := by decide +kernel
theorem d_B_settled_32 : decode c_B_settled 32 = .ok (.aload_n 3, 1) := by decide +kernel
theorem d_B_settled_33 : decode c_B_settled 33 = .ok (.invokevirtual 63, 3) := by decide +kernel
theorem d_B_settled_36 : decode c_B_settled 36 = .ok (.invokevirtual 152, 3) := by decide +kernel
theorem d_B_settled_39 : decode c_B_settled 39 = .ok (.ifCond .eq 6, 3) := by decide +kernel
theorem d_B_settled_42 : decode c_B_settled 42 = .ok (.iinc 1 1, 3) := by decide +kernel
theorem d_B_settled_45 : decode c_B_settled 45 = .ok (.iinc 2 1, 3) := by decide +kernel
theorem d_B_settled_48 : decode c_B_settled 48 = .ok (.goto (-44), 3) := by decide +kernel
theorem d_B_settled_51 : decode c_B_settled 51 = .ok (.iload_n 1, 1) := by decide +kernel
theorem d_B_settled_52 : decode c_B_settled 52 = .ok (.ireturn, 1) := by decide +kernel
set_option maxRecDepth 20000 in
set_option maxHeartbeats 4000000 in
theorem l_B_settled {E : kx_E} {n : Nat} {ad : Nat → Nat} {w0 : va_W} {L : Nat → List Nat} {V S : Nat → Nat → Int32} {pe bi : Nat → Option Nat} (hp : peOk n pe) (hI : InvS n S) (h24 : n ≤ 24) (hn : S 0 4 = nI n) {z : kx_Z} {Q : kx_O → va_W → Prop} (hQ : ∀ w l, Cls E w n ad (up1 L 4 l) V S pe bi → kx_off w0 w clsN → Q (.inl (some (.int (nI (setN pe L S n))))) w) :
    ∀ (m k : Nat) (l : List Nat) (w : va_W), m + k = n → Cls E w n ad (up1 L 4 l) V S pe bi → kx_off w0 w clsN → kx_R E Y_B_settled z 4 [(0, .ref (ad 0)), (1, .int (nI (setN pe L S k))), (2, .int (nI k))] [] w 0 0 Q := by
  intro m
  induction m with
  | zero =>
    intro k l w hk hC hO
    have hk : k = n := by omega
    subst hk
    refine kx_iload_n d_B_settled_4 rfl ?_
    refine kx_aload_n d_B_settled_5 rfl (by first | rfl | exact kx_rf _) ?_
    refine kx_get _ d_B_settled_6 f_B_37 hC.bus (by rfl) ?_
    rw [hn]
    first | refine kx_icmp_ge_n 51 d_B_settled_9 (by decide) (by omega) (by omega) ?_ ?_ | refine kx_icmp_ge 51 d_B_settled_9 (by decide) ?_ ?_
    · intro h9
      refine kx_iload_n d_B_settled_51 rfl ?_
      refine kx_iret d_B_settled_52 rfl (by decide) (by decide) ?_
      exact hQ w l hC hO
    · intro h9
      exact absurd h9 (by omega)
  | succ m ih =>
    intro k l w hk hC hO
    have hkn : k < n := by omega
    obtain ⟨s0, h40, hs0⟩ := hI.sil (carE_N (i := 0) hkn)
    obtain ⟨s1, h41, hs1⟩ := hI.sil (carE_N (i := 1) hkn)
    have hsl := setN_le pe L S k
    have hB : setB pe L S k = if staI L k s0 s1 = 2 ∧ L (carB k + 26) = truL pe S k then 1 else 0 := by unfold setB; rw [hs0, hs1, clN_nI (by omega), clN_nI (by omega)]
    have hs3 : staI L k s0 s1 < 3 := by unfold staI; split; decide; split <;> decide
    have a26 : carB k + 26 ≠ 4 := by simp only [carB]; omega
    refine kx_iload_n d_B_settled_4 rfl ?_
    refine kx_aload_n d_B_settled_5 rfl (by first | rfl | exact kx_rf _) ?_
    refine kx_get _ d_B_settled_6 f_B_37 hC.bus (by rfl) ?_
    rw [hn]
    first | refine kx_icmp_ge_n 51 d_B_settled_9 (by decide) (by omega) (by omega) ?_ ?_ | refine kx_icmp_ge 51 d_B_settled_9 (by decide) ?_ ?_
    · intro h9
      exact absurd h9 (by omega)
    · intro h9
      refine kx_aload_n d_B_settled_12 rfl (by first | rfl | exact kx_rf _) ?_
      refine kx_get _ d_B_settled_13 f_B_11 hC.bus (by rfl) ?_
      refine kx_iload_n d_B_settled_16 rfl ?_
      obtain ⟨f9, hf1, hf2⟩ := hC.cars
      refine kx_aald d_B_settled_17 hf1 rfl (by omega) (by decide) ?_
      rw [hf2 k (by omega)]
      refine kx_stk (st1 := [.ref (ad (carB k))]) rfl ?_
      refine kx_astore_n d_B_settled_18 (by decide) (by first | rfl | exact kx_rf _) ?_
      refine kx_aload_n d_B_settled_19 rfl (by first | rfl | exact kx_rf _) ?_
      refine kx_callV (as := []) (rest := []) d_B_settled_20 v_B_149 rfl (hC.car k hkn) rfl rfl (by decide) (by decide) (Nat.le_of_ble_eq_true rfl) (by decide) (by decide) rfl (m_C_state hC hkn hs0 hs1 h40 h41) (fun X w1 h => by cases h.1) (fun v w1 hq9 => ?_)
      obtain ⟨hv, hw9⟩ := hq9
      cases hv
      subst hw9
      refine kx_stk (st1 := [.int (nI (staI (up1 L 4 l) k s0 s1))]) rfl ?_
      rw [staI_4]
      refine kx_iconst (nI 2) d_B_settled_23 (by decide) ?_
      refine kx_icmp_ne_n 45 d_B_settled_24 (by decide) (by omega) (by decide) ?_ ?_
      · intro h24b
        have hb0 : setB pe L S k = 0 := by rw [hB, if_neg (fun q => h24b q.1)]
        have hN : setN pe L S (k + 1) = setN pe L S k := by show setN pe L S k + setB pe L S k = _; rw [hb0]; rfl
        rw [← hN]
        refine kx_iinc _ d_B_settled_45 rfl (by decide) (nI_1 _) ?_
        refine kx_goto 4 d_B_settled_48 (by decide) ?_
        refine kx_loc (L1 := [(0, .ref (ad 0)), (1, .int (nI (setN pe L S (k + 1)))), (2, .int (nI (k + 1)))]) ⟨rfl, rfl, rfl, trivial⟩ ?_
        exact ih (k + 1) _ _ (by omega) hC hO
      · intro h24b
        refine kx_aload_n d_B_settled_27 rfl (by first | rfl | exact kx_rf _) ?_
        refine kx_get _ d_B_settled_28 f_B_114 (hC.car k hkn) (by rfl) ?_
        refine kx_aload_n d_B_settled_31 rfl (by first | rfl | exact kx_rf _) ?_
        refine kx_aload_n d_B_settled_32 rfl (by first | rfl | exact kx_rf _) ?_
        refine kx_callV (as := [.ref (ad (carB k))]) (rest := [.ref (ad (carB k + 26))]) d_B_settled_33 v_B_63 rfl (hC.bus) rfl rfl (by decide) (by decide) (Nat.le_of_ble_eq_true rfl) (by decide) (by decide) rfl (m_B_trueRun hC hp hI hkn) (fun X w1 h => by cases h.1) (fun v w hq9 => ?_)
        obtain ⟨hv, hC, hO9⟩ := hq9
        cases hv
        have hO := hO.tr hO9 (fun _ h => h) (fun _ h => h)
        refine kx_stk (st1 := [.ref (ad 4), .ref (ad (carB k + 26))]) rfl ?_
        rw [up1_up1] at hC
        refine cR_isSameAs d_B_settled_36 v_B_152 hC (rowN_26 hkn) (rowN_4 n) (by decide) (Nat.le_of_ble_eq_true rfl) (by decide) (by decide) ?_
        rw [up1_s, up1_n a26]
        refine kx_if_eq_n 45 d_B_settled_39 (by decide) (by split <;> decide) ?_ ?_
        · intro h39
          have hne : ¬ L (carB k + 26) = truL pe S k := fun e => by rw [if_pos e] at h39; cases h39
          have hb0 : setB pe L S k = 0 := by rw [hB, if_neg (fun q => hne q.2)]
          have hN : setN pe L S (k + 1) = setN pe L S k := by show setN pe L S k + setB pe L S k = _; rw [hb0]; rfl
          rw [← hN]
          refine kx_iinc _ d_B_settled_45 rfl (by decide) (nI_1 _) ?_
          refine kx_goto 4 d_B_settled_48 (by decide) ?_
          refine kx_loc (L1 := [(0, .ref (ad 0)), (1, .int (nI (setN pe L S (k + 1)))), (2, .int (nI (k + 1)))]) ⟨rfl, rfl, rfl, trivial⟩ ?_
          exact ih (k + 1) _ _ (by omega) hC hO
        · intro h39
          have he : L (carB k + 26) = truL pe S k := Decidable.byContradiction (fun e => h39 (by rw [if_neg e]))
          have hb1 : setB pe L S k = 1 := by rw [hB, if_pos ⟨h24b, he⟩]
          have hN : setN pe L S (k + 1) = setN pe L S k + 1 := by show setN pe L S k + setB pe L S k = _; rw [hb1]
          refine kx_iinc (nI (setN pe L S (k + 1))) d_B_settled_42 rfl (by decide) (by rw [hN]; exact nI_1 _) ?_
          refine kx_iinc _ d_B_settled_45 rfl (by decide) (nI_1 _) ?_
          refine kx_goto 4 d_B_settled_48 (by decide) ?_
          refine kx_loc (L1 := [(0, .ref (ad 0)), (1, .int (nI (setN pe L S (k + 1)))), (2, .int (nI (k + 1)))]) ⟨rfl, rfl, rfl, trivial⟩ ?_
          exact ih (k + 1) _ _ (by omega) hC hO
set_option maxRecDepth 20000 in
set_option maxHeartbeats 4000000 in
theorem m_B_settled {E : kx_E} {w : va_W} {n : Nat} {ad : Nat → Nat} {L : Nat → List Nat} {V S : Nat → Nat → Int32} {pe bi : Nat → Option Nat} (hC : Cls E w n ad L V S pe bi) (hp : peOk n pe) (hI : InvS n S) (h24 : n ≤ 24) (hn : S 0 4 = nI n) : kx_S E Y_B_settled [.ref (ad 0)] w (fun o w1 => o = .inl (some (.int (nI (setN pe L S n)))) ∧ ∃ l, Cls E w1 n ad (up1 L 4 l) V S pe bi ∧ kx_off w w1 clsN) := by
  refine kx_go (by decide) rfl rfl (Nat.le_of_ble_eq_true rfl) (kx_cc rfl kx_c0) (fun z => ?_)
  have hO : kx_off w w clsN := kx_off.rf
  refine kx_iconst (nI 0) d_B_settled_0 (by decide) ?_
  refine kx_istore_n d_B_settled_1 (by decide) ?_
  refine kx_iconst (nI 0) d_B_settled_2 (by decide) ?_
  refine kx_istore_n d_B_settled_3 (by decide) ?_
  refine kx_loc (L1 := [(0, .ref (ad 0)), (1, .int (nI (setN pe L S 0))), (2, .int (nI 0))]) ⟨rfl, rfl, rfl, trivial⟩ ?_
  exact l_B_settled hp hI h24 hn (fun w l h1 h2 => ⟨rfl, l, h1, h2⟩) n 0 (L 4) w rfl (by rw [up1_self]; exact hC) hO
