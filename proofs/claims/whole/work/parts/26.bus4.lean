/-! ConsistBus: its other calls but add -/
theorem carI_in {bi : Nat → Option Nat} {id : Int32} {c : Nat} (h : carI bi id = some c) : ∃ j, 1 ≤ j ∧ j ≤ 255 ∧ id = nI j ∧ bi j = some c := by
  have h0 := h
  unfold carI at h
  split at h
  · cases h
  · rename_i hn
    obtain ⟨j, h1, h2, rfl⟩ := i32_in (a := 1) (b := 255) (by decide) (by decide) (fun q => hn (Or.inl q)) (fun q => hn (Or.inr q))
    rw [clN_nI (by omega)] at h
    exact ⟨j, h1, h2, rfl, h⟩
theorem endQ_c {bi : Nat → Option Nat} {id e : Int32} {x : Nat} (h : endQ bi id e = some x) : ∃ c, carI bi id = some c ∧ (x = carE c 0 ∨ x = carE c 1) := by
  unfold endQ at h
  cases hc : carI bi id with
  | none => rw [hc] at h; cases h
  | some c =>
    rw [hc] at h
    dsimp only at h
    refine ⟨c, rfl, ?_⟩
    split at h
    · cases h; exact Or.inl rfl
    · split at h
      · cases h; exact Or.inr rfl
      · cases h
theorem d_B_reset_0 : decode c_B_reset 0 = .ok (.aload_n 0, 1) := by decide +kernel
theorem d_B_reset_1 : decode c_B_reset 1 = .ok (.iload_n 1, 1) := by decide +kernel
theorem d_B_reset_2 : decode c_B_reset 2 = .ok (.invokevirtual 59, 3) := by decide +kernel
theorem d_B_reset_5 : decode c_B_reset 5 = .ok (.invokevirtual 95, 3) := by decide +kernel
theorem d_B_reset_8 : decode c_B_reset 8 = .ok (.return_, 1) := by decide +kernel
set_option maxRecDepth 20000 in
set_option maxHeartbeats 4000000 in
theorem m_B_reset_no {E : kx_E} {w : va_W} {n : Nat} {ad : Nat → Nat} {L : Nat → List Nat} {V S : Nat → Nat → Int32} {pe bi : Nat → Option Nat} (hC : Cls E w n ad L V S pe bi) {car : Int32} (hc0 : carI bi car = none) : kx_S E Y_B_reset [.ref (ad 0), .int car] w (fun o w1 => o = .inr kx_nse ∧ w1 = w) := by
  refine kx_go (by decide) rfl rfl (Nat.le_of_ble_eq_true rfl) (kx_cc rfl (kx_cc rfl kx_c0)) (fun z => ?_)
  have hO : kx_off w w clsN := kx_off.rf
  refine kx_aload_n d_B_reset_0 rfl (by first | rfl | exact kx_rf _) ?_
  refine kx_iload_n d_B_reset_1 rfl ?_
  refine kx_callV (as := [.int car]) (rest := []) d_B_reset_2 v_B_59 rfl (hC.bus) rfl rfl (by decide) (by decide) (Nat.le_of_ble_eq_true rfl) (by decide) (by decide) rfl (m_B_carOf_no hC hc0) (fun X w1 hq => ⟨rfl, by cases hq.1; exact ⟨rfl, hq.2⟩⟩) (fun v w1 hq => by cases hq.1)
set_option maxRecDepth 20000 in
set_option maxHeartbeats 4000000 in
theorem m_B_reset {E : kx_E} {w : va_W} {n : Nat} {ad : Nat → Nat} {L : Nat → List Nat} {V S : Nat → Nat → Int32} {pe bi : Nat → Option Nat} (hC : Cls E w n ad L V S pe bi) (hb : biOk n bi) {car : Int32} {c : Nat} (hc0 : carI bi car = some c) : kx_S E Y_B_reset [.ref (ad 0), .int car] w (CQ E w n ad (forL L c) (up1 V (carB c + 30) (fun _ => -1)) (forS S c) pe bi none) := by
  refine kx_go (by decide) rfl rfl (Nat.le_of_ble_eq_true rfl) (kx_cc rfl (kx_cc rfl kx_c0)) (fun z => ?_)
  have hO : kx_off w w clsN := kx_off.rf
  have hc := carI_c hb hc0
  refine kx_aload_n d_B_reset_0 rfl (by first | rfl | exact kx_rf _) ?_
  refine kx_iload_n d_B_reset_1 rfl ?_
  refine kx_callV (as := [.int car]) (rest := []) d_B_reset_2 v_B_59 rfl (hC.bus) rfl rfl (by decide) (by decide) (Nat.le_of_ble_eq_true rfl) (by decide) (by decide) rfl (m_B_carOf hC hc0) (fun X w1 h => by cases h.1) (fun v w1 hq9 => ?_)
  obtain ⟨hv, hw9⟩ := hq9
  cases hv
  subst hw9
  refine kx_stk (st1 := [.ref (ad (carB c))]) rfl ?_
  refine kx_callV (as := []) (rest := []) d_B_reset_5 v_B_95 rfl (hC.car c hc) rfl rfl (by decide) (by decide) (Nat.le_of_ble_eq_true rfl) (by decide) (by decide) rfl (m_C_forget hC hc) (fun X w1 h => by cases h.1) (fun v w hq9 => ?_)
  obtain ⟨hv, hC, hO9⟩ := hq9
  cases hv
  have hO := hO.tr hO9 (fun _ h => h) (fun _ h => h)
  refine kx_stk (st1 := []) rfl ?_
  refine kx_vret d_B_reset_8 rfl (by decide) (by decide) ?_
  exact ⟨rfl, hC, hO⟩
theorem d_B_coupling_0 : decode c_B_coupling 0 = .ok (.aload_n 0, 1) := by decide +kernel
theorem d_B_coupling_1 : decode c_B_coupling 1 = .ok (.iload_n 1, 1) := by decide +kernel
theorem d_B_coupling_2 : decode c_B_coupling 2 = .ok (.iload_n 2, 1) := by decide +kernel
theorem d_B_coupling_3 : decode c_B_coupling 3 = .ok (.invokevirtual 49, 3) := by decide +kernel
theorem d_B_coupling_6 : decode c_B_coupling 6 = .ok (.getfield 89, 3) := by decide +kernel
theorem d_B_coupling_9 : decode c_B_coupling 9 = .ok (.ireturn, 1) := by decide +kernel
set_option maxRecDepth 20000 in
set_option maxHeartbeats 4000000 in
theorem m_B_coupling_no {E : kx_E} {w : va_W} {n : Nat} {ad : Nat → Nat} {L : Nat → List Nat} {V S : Nat → Nat → Int32} {pe bi : Nat → Option Nat} (hC : Cls E w n ad L V S pe bi) (hb : biOk n bi) {car e : Int32} (hx : endQ bi car e = none) : kx_S E Y_B_coupling [.ref (ad 0), .int car, .int e] w (fun o w1 => o = .inr kx_nse ∧ w1 = w) := by
  refine kx_go (by decide) rfl rfl (Nat.le_of_ble_eq_true rfl) (kx_cc rfl (kx_cc rfl (kx_cc rfl kx_c0))) (fun z => ?_)
  have hO : kx_off w w clsN := kx_off.rf
  refine kx_aload_n d_B_coupling_0 rfl (by first | rfl | exact kx_rf _) ?_
  refine kx_iload_n d_B_coupling_1 rfl ?_
  refine kx_iload_n d_B_coupling_2 rfl ?_
  refine kx_callV (as := [.int car, .int e]) (rest := []) d_B_coupling_3 v_B_49 rfl (hC.bus) rfl rfl (by decide) (by decide) (Nat.le_of_ble_eq_true rfl) (by decide) (by decide) rfl (m_B_endOf_no hC hb hx) (fun X w1 hq => ⟨rfl, by cases hq.1; exact ⟨rfl, hq.2⟩⟩) (fun v w1 hq => by cases hq.1)
set_option maxRecDepth 20000 in
set_option maxHeartbeats 4000000 in
theorem m_B_coupling {E : kx_E} {w : va_W} {n : Nat} {ad : Nat → Nat} {L : Nat → List Nat} {V S : Nat → Nat → Int32} {pe bi : Nat → Option Nat} (hC : Cls E w n ad L V S pe bi) (hb : biOk n bi) {car e : Int32} {x : Nat} (hx : endQ bi car e = some x) : kx_S E Y_B_coupling [.ref (ad 0), .int car, .int e] w (kx_Qi w (S x 6)) := by
  refine kx_go (by decide) rfl rfl (Nat.le_of_ble_eq_true rfl) (kx_cc rfl (kx_cc rfl (kx_cc rfl kx_c0))) (fun z => ?_)
  have hO : kx_off w w clsN := kx_off.rf
  have hxn := endQ_N hb hx
  refine kx_aload_n d_B_coupling_0 rfl (by first | rfl | exact kx_rf _) ?_
  refine kx_iload_n d_B_coupling_1 rfl ?_
  refine kx_iload_n d_B_coupling_2 rfl ?_
  refine kx_callV (as := [.int car, .int e]) (rest := []) d_B_coupling_3 v_B_49 rfl (hC.bus) rfl rfl (by decide) (by decide) (Nat.le_of_ble_eq_true rfl) (by decide) (by decide) rfl (m_B_endOf hC hb hx) (fun X w1 h => by cases h.1) (fun v w1 hq9 => ?_)
  obtain ⟨hv, hw9⟩ := hq9
  cases hv
  subst hw9
  refine kx_stk (st1 := [.ref (ad x)]) rfl ?_
  refine kx_get _ d_B_coupling_6 f_B_89 (hC.endAt hxn) (by rfl) ?_
  refine kx_iret d_B_coupling_9 rfl (by decide) (by decide) ?_
  exact ⟨rfl, rfl⟩
def facI (T : LVS) (c k : Nat) : Int32 :=
  if k = 0 then nI (staI T.1 c (clN (T.2.2 (carE c 0) 8)) (clN (T.2.2 (carE c 1) 8))) else if k = 1 then T.2.2 (carB c) 7 else if k = 2 then nI (flipI (T.1 (carB c + 26)) (clN (T.2.2 (carB c) 7))) else if k = 3 then nI (T.1 (carB c + 26)).length
  else if k = 4 then T.2.2 (carB c) 10 else if k = 5 then T.2.2 (carB c) 9 else if k = 6 then T.2.2 (carE c 0) 8 else if k = 7 then T.2.2 (carE c 1) 8 else if k = 8 then nI (T.1 (carE c 0 + 1)).length else if k = 9 then nI (T.1 (carE c 1 + 1)).length
  else if k = 10 then nI (boolI (T.2.2 (carE c 0) 7)) else nI (boolI (T.2.2 (carE c 1) 7))
theorem m_C_fact {E : kx_E} {w : va_W} {n : Nat} {ad : Nat → Nat} {pe bi : Nat → Option Nat} {T : LVS} (hC : Cls E w n ad T.1 T.2.1 T.2.2 pe bi) {c : Nat} (hc : c < n) (hI : InvS n T.2.2) {k : Nat} (hk : k < 12) : kx_S E Y_C_fact [.ref (ad (carB c)), .int (nI k)] w (kx_Qi w (facI T c k)) := by
  have h : k = 0 ∨ k = 1 ∨ k = 2 ∨ k = 3 ∨ k = 4 ∨ k = 5 ∨ k = 6 ∨ k = 7 ∨ k = 8 ∨ k = 9 ∨ k = 10 ∨ k = 11 := by omega
  rcases h with rfl | rfl | rfl | rfl | rfl | rfl | rfl | rfl | rfl | rfl | rfl | rfl
  · exact m_C_fact_0 hC hc hI
  · exact m_C_fact_1 hC hc hI
  · exact m_C_fact_2 hC hc hI
  · exact m_C_fact_3 hC hc hI
  · exact m_C_fact_4 hC hc hI
  · exact m_C_fact_5 hC hc hI
  · exact m_C_fact_6 hC hc hI
  · exact m_C_fact_7 hC hc hI
  · exact m_C_fact_8 hC hc hI
  · exact m_C_fact_9 hC hc hI
  · exact m_C_fact_10 hC hc hI
  · exact m_C_fact_11 hC hc hI
theorem d_B_about_0 : decode c_B_about 0 = .ok (.aload_n 0, 1) := by decide +kernel
theorem d_B_about_1 : decode c_B_about 1 = .ok (.iload_n 1, 1) := by decide +kernel
theorem d_B_about_2 : decode c_B_about 2 = .ok (.invokevirtual 59, 3) := by decide +kernel
theorem d_B_about_5 : decode c_B_about 5 = .ok (.astore_n 3, 1) := by decide +kernel
theorem d_B_about_6 : decode c_B_about 6 = .ok (.iload_n 2, 1) := by decide +kernel
theorem d_B_about_7 : decode c_B_about 7 = .ok (.ifCond .lt 9, 3) := by decide +kernel
theorem d_B_about_10 : decode c_B_about 10 = .ok (.iload_n 2, 1) := by decide +kernel
theorem d_B_about_11 : decode c_B_about 11 = .ok (.bipush 12, 2) := by decide +kernel
theorem d_B_about_13 : decode c_B_about 13 = .ok (.if_icmp .lt 13, 3) := by decide +kernel
theorem d_B_about_16 : decode c_B_about 16 = .ok (.new 30, 3) := by decide +kernel
theorem d_B_about_19 : decode c_B_about 19 = .ok (.dup, 1) := by decide +kernel
theorem d_B_about_20 : decode c_B_about 20 = .ok (.ldc 109, 2) := by decide +kernel
theorem d_B_about_22 : decode c_B_about 22 = .ok (.invokespecial 34, 3) := by decide +kernel
theorem d_B_about_25 : decode c_B_about 25 = .ok (.athrow, 1) := by decide +kernel
theorem d_B_about_26 : decode c_B_about 26 = .ok (.aload_n 3, 1) := by decide +kernel
theorem d_B_about_27 : decode c_B_about 27 = .ok (.iload_n 2, 1) := by decide +kernel
theorem d_B_about_28 : decode c_B_about 28 = .ok (.invokevirtual 111, 3) := by decide +kernel
theorem d_B_about_31 : decode c_B_about 31 = .ok (.ireturn, 1) := by decide +kernel
set_option maxRecDepth 20000 in
set_option maxHeartbeats 4000000 in
theorem m_B_about_no {E : kx_E} {w : va_W} {n : Nat} {ad : Nat → Nat} {L : Nat → List Nat} {V S : Nat → Nat → Int32} {pe bi : Nat → Option Nat} (hC : Cls E w n ad L V S pe bi) {car v : Int32} (hc0 : carI bi car = none) : kx_S E Y_B_about [.ref (ad 0), .int car, .int v] w (fun o w1 => o = .inr kx_nse ∧ w1 = w) := by
  refine kx_go (by decide) rfl rfl (Nat.le_of_ble_eq_true rfl) (kx_cc rfl (kx_cc rfl (kx_cc rfl kx_c0))) (fun z => ?_)
  have hO : kx_off w w clsN := kx_off.rf
  refine kx_aload_n d_B_about_0 rfl (by first | rfl | exact kx_rf _) ?_
  refine kx_iload_n d_B_about_1 rfl ?_
  refine kx_callV (as := [.int car]) (rest := []) d_B_about_2 v_B_59 rfl (hC.bus) rfl rfl (by decide) (by decide) (Nat.le_of_ble_eq_true rfl) (by decide) (by decide) rfl (m_B_carOf_no hC hc0) (fun X w1 hq => ⟨rfl, by cases hq.1; exact ⟨rfl, hq.2⟩⟩) (fun v w1 hq => by cases hq.1)
set_option maxRecDepth 20000 in
set_option maxHeartbeats 4000000 in
theorem m_B_about_bad {E : kx_E} {w : va_W} {n : Nat} {ad : Nat → Nat} {L : Nat → List Nat} {V S : Nat → Nat → Int32} {pe bi : Nat → Option Nat} (hC : Cls E w n ad L V S pe bi) {car v : Int32} {c : Nat} (hc0 : carI bi car = some c) (hv : v < 0 ∨ ¬ v < nI 12) : kx_S E Y_B_about [.ref (ad 0), .int car, .int v] w (fun o w1 => o = .inr kx_iae ∧ w1 = w) := by
  refine kx_go (by decide) rfl rfl (Nat.le_of_ble_eq_true rfl) (kx_cc rfl (kx_cc rfl (kx_cc rfl kx_c0))) (fun z => ?_)
  have hO : kx_off w w clsN := kx_off.rf
  refine kx_aload_n d_B_about_0 rfl (by first | rfl | exact kx_rf _) ?_
  refine kx_iload_n d_B_about_1 rfl ?_
  refine kx_callV (as := [.int car]) (rest := []) d_B_about_2 v_B_59 rfl (hC.bus) rfl rfl (by decide) (by decide) (Nat.le_of_ble_eq_true rfl) (by decide) (by decide) rfl (m_B_carOf hC hc0) (fun X w1 h => by cases h.1) (fun v w1 hq9 => ?_)
  obtain ⟨hv, hw9⟩ := hq9
  cases hv
  subst hw9
  refine kx_stk (st1 := [.ref (ad (carB c))]) rfl ?_
  refine kx_astore_n d_B_about_5 (by decide) (by first | rfl | exact kx_rf _) ?_
  refine kx_iload_n d_B_about_6 rfl ?_
  refine kx_if_lt 16 d_B_about_7 (by decide) ?_ ?_
  · intro h7
    exact kx_throw d_B_about_16 d_B_about_19 d_B_about_20 d_B_about_22 d_B_about_25 t_B_109 rfl (by decide) (Nat.le_of_ble_eq_true rfl) (by decide) (by decide) ⟨rfl, rfl⟩
  · intro h7
    refine kx_iload_n d_B_about_10 rfl ?_
    refine kx_bipush (nI 12) d_B_about_11 (by decide) ?_
    refine kx_icmp_lt 26 d_B_about_13 (by decide) ?_ ?_
    · intro h13
      exact absurd hv (by rintro (h | h); exact h7 h; exact h h13)
    · intro h13
      exact kx_throw d_B_about_16 d_B_about_19 d_B_about_20 d_B_about_22 d_B_about_25 t_B_109 rfl (by decide) (Nat.le_of_ble_eq_true rfl) (by decide) (by decide) ⟨rfl, rfl⟩
set_option maxRecDepth 20000 in
set_option maxHeartbeats 4000000 in
theorem m_B_about {E : kx_E} {w : va_W} {n : Nat} {ad : Nat → Nat} {pe bi : Nat → Option Nat} {T : LVS} (hC : Cls E w n ad T.1 T.2.1 T.2.2 pe bi) (hb : biOk n bi) (hI : InvS n T.2.2) {car : Int32} {c : Nat} (hc0 : carI bi car = some c) {k : Nat} (hk : k < 12) : kx_S E Y_B_about [.ref (ad 0), .int car, .int (nI k)] w (kx_Qi w (facI T c k)) := by
  refine kx_go (by decide) rfl rfl (Nat.le_of_ble_eq_true rfl) (kx_cc rfl (kx_cc rfl (kx_cc rfl kx_c0))) (fun z => ?_)
  have hO : kx_off w w clsN := kx_off.rf
  have hc := carI_c hb hc0
  refine kx_aload_n d_B_about_0 rfl (by first | rfl | exact kx_rf _) ?_
  refine kx_iload_n d_B_about_1 rfl ?_
  refine kx_callV (as := [.int car]) (rest := []) d_B_about_2 v_B_59 rfl (hC.bus) rfl rfl (by decide) (by decide) (Nat.le_of_ble_eq_true rfl) (by decide) (by decide) rfl (m_B_carOf hC hc0) (fun X w1 h => by cases h.1) (fun v w1 hq9 => ?_)
  obtain ⟨hv, hw9⟩ := hq9
  cases hv
  subst hw9
  refine kx_stk (st1 := [.ref (ad (carB c))]) rfl ?_
  refine kx_astore_n d_B_about_5 (by decide) (by first | rfl | exact kx_rf _) ?_
  refine kx_iload_n d_B_about_6 rfl ?_
  refine kx_if_lt_n 16 d_B_about_7 (by decide) (by omega) ?_
  refine kx_iload_n d_B_about_10 rfl ?_
  refine kx_bipush (nI 12) d_B_about_11 (by decide) ?_
  first | refine kx_icmp_lt_n 26 d_B_about_13 (by decide) (by omega) (by omega) ?_ ?_ | refine kx_icmp_lt 26 d_B_about_13 (by decide) ?_ ?_
  · intro h13
    refine kx_aload_n d_B_about_26 rfl (by first | rfl | exact kx_rf _) ?_
    refine kx_iload_n d_B_about_27 rfl ?_
    refine kx_callV (as := [.int (nI k)]) (rest := []) d_B_about_28 v_B_111 rfl (hC.car c hc) rfl rfl (by decide) (by decide) (Nat.le_of_ble_eq_true rfl) (by decide) (by decide) rfl (m_C_fact hC hc hI hk) (fun X w1 h => by cases h.1) (fun v w1 hq9 => ?_)
    obtain ⟨hv, hw9⟩ := hq9
    cases hv
    subst hw9
    refine kx_stk (st1 := [.int (facI T c k)]) rfl ?_
    refine kx_iret d_B_about_31 rfl (by decide) (by decide) ?_
    exact ⟨rfl, rfl⟩
  · intro h13
    exact absurd h13 (by omega)
theorem d_B_directory_0 : decode c_B_directory 0 = .ok (.aload_n 0, 1) := by decide +kernel
theorem d_B_directory_1 : decode c_B_directory 1 = .ok (.iload_n 1, 1) := by decide +kernel
theorem d_B_directory_2 : decode c_B_directory 2 = .ok (.invokevirtual 59, 3) := by decide +kernel
theorem d_B_directory_5 : decode c_B_directory 5 = .ok (.getfield 114, 3) := by decide +kernel
theorem d_B_directory_8 : decode c_B_directory 8 = .ok (.iload_n 2, 1) := by decide +kernel
theorem d_B_directory_9 : decode c_B_directory 9 = .ok (.invokevirtual 117, 3) := by decide +kernel
theorem d_B_directory_12 : decode c_B_directory 12 = .ok (.ireturn, 1) := by decide +kernel
set_option maxRecDepth 20000 in
set_option maxHeartbeats 4000000 in
theorem m_B_directory_no {E : kx_E} {w : va_W} {n : Nat} {ad : Nat → Nat} {L : Nat → List Nat} {V S : Nat → Nat → Int32} {pe bi : Nat → Option Nat} (hC : Cls E w n ad L V S pe bi) {car v : Int32} (hc0 : carI bi car = none) : kx_S E Y_B_directory [.ref (ad 0), .int car, .int v] w (fun o w1 => o = .inr kx_nse ∧ w1 = w) := by
  refine kx_go (by decide) rfl rfl (Nat.le_of_ble_eq_true rfl) (kx_cc rfl (kx_cc rfl (kx_cc rfl kx_c0))) (fun z => ?_)
  have hO : kx_off w w clsN := kx_off.rf
  refine kx_aload_n d_B_directory_0 rfl (by first | rfl | exact kx_rf _) ?_
  refine kx_iload_n d_B_directory_1 rfl ?_
  refine kx_callV (as := [.int car]) (rest := []) d_B_directory_2 v_B_59 rfl (hC.bus) rfl rfl (by decide) (by decide) (Nat.le_of_ble_eq_true rfl) (by decide) (by decide) rfl (m_B_carOf_no hC hc0) (fun X w1 hq => ⟨rfl, by cases hq.1; exact ⟨rfl, hq.2⟩⟩) (fun v w1 hq => by cases hq.1)
set_option maxRecDepth 20000 in
set_option maxHeartbeats 4000000 in
theorem m_B_directory {E : kx_E} {w : va_W} {n : Nat} {ad : Nat → Nat} {L : Nat → List Nat} {V S : Nat → Nat → Int32} {pe bi : Nat → Option Nat} (hC : Cls E w n ad L V S pe bi) (hb : biOk n bi) {car : Int32} {c j : Nat} (hc0 : carI bi car = some c) (hj : j < (L (carB c + 26)).length) : kx_S E Y_B_directory [.ref (ad 0), .int car, .int (nI (j + 1))] w (kx_Qi w (nI ((L (carB c + 26)).getD j 0 / 2))) := by
  refine kx_go (by decide) rfl rfl (Nat.le_of_ble_eq_true rfl) (kx_cc rfl (kx_cc rfl (kx_cc rfl kx_c0))) (fun z => ?_)
  have hO : kx_off w w clsN := kx_off.rf
  have hc := carI_c hb hc0
  refine kx_aload_n d_B_directory_0 rfl (by first | rfl | exact kx_rf _) ?_
  refine kx_iload_n d_B_directory_1 rfl ?_
  refine kx_callV (as := [.int car]) (rest := []) d_B_directory_2 v_B_59 rfl (hC.bus) rfl rfl (by decide) (by decide) (Nat.le_of_ble_eq_true rfl) (by decide) (by decide) rfl (m_B_carOf hC hc0) (fun X w1 h => by cases h.1) (fun v w1 hq9 => ?_)
  obtain ⟨hv, hw9⟩ := hq9
  cases hv
  subst hw9
  refine kx_stk (st1 := [.ref (ad (carB c))]) rfl ?_
  refine kx_get _ d_B_directory_5 f_B_114 (hC.car c hc) (by rfl) ?_
  refine kx_iload_n d_B_directory_8 rfl ?_
  refine cR_idAt d_B_directory_9 v_B_117 hC (rowN_26 hc) hj (by decide) (Nat.le_of_ble_eq_true rfl) (by decide) (by decide) ?_
  refine kx_iret d_B_directory_12 rfl (by decide) (by decide) ?_
  exact ⟨rfl, rfl⟩
set_option maxRecDepth 20000 in
set_option maxHeartbeats 4000000 in
theorem m_B_directory_out {E : kx_E} {w : va_W} {n : Nat} {ad : Nat → Nat} {L : Nat → List Nat} {V S : Nat → Nat → Int32} {pe bi : Nat → Option Nat} (hC : Cls E w n ad L V S pe bi) (hb : biOk n bi) {car v : Int32} {c : Nat} (hc0 : carI bi car = some c) (hj : v < nI 1 ∨ nI (L (carB c + 26)).length < v) : kx_S E Y_B_directory [.ref (ad 0), .int car, .int v] w (kx_Qi w (-1)) := by
  refine kx_go (by decide) rfl rfl (Nat.le_of_ble_eq_true rfl) (kx_cc rfl (kx_cc rfl (kx_cc rfl kx_c0))) (fun z => ?_)
  have hO : kx_off w w clsN := kx_off.rf
  have hc := carI_c hb hc0
  refine kx_aload_n d_B_directory_0 rfl (by first | rfl | exact kx_rf _) ?_
  refine kx_iload_n d_B_directory_1 rfl ?_
  refine kx_callV (as := [.int car]) (rest := []) d_B_directory_2 v_B_59 rfl (hC.bus) rfl rfl (by decide) (by decide) (Nat.le_of_ble_eq_true rfl) (by decide) (by decide) rfl (m_B_carOf hC hc0) (fun X w1 h => by cases h.1) (fun v w1 hq9 => ?_)
  obtain ⟨hv, hw9⟩ := hq9
  cases hv
  subst hw9
  refine kx_stk (st1 := [.ref (ad (carB c))]) rfl ?_
  refine kx_get _ d_B_directory_5 f_B_114 (hC.car c hc) (by rfl) ?_
  refine kx_iload_n d_B_directory_8 rfl ?_
  refine cR_idAt_no d_B_directory_9 v_B_117 hC (rowN_26 hc) hj (by decide) (Nat.le_of_ble_eq_true rfl) (by decide) (by decide) ?_
  refine kx_iret d_B_directory_12 rfl (by decide) (by decide) ?_
  exact ⟨rfl, rfl⟩
theorem d_B_view_0 : decode c_B_view 0 = .ok (.aload_n 0, 1) := by decide +kernel
theorem d_B_view_1 : decode c_B_view 1 = .ok (.iload_n 1, 1) := by decide +kernel
theorem d_B_view_2 : decode c_B_view 2 = .ok (.iload_n 2, 1) := by decide +kernel
theorem d_B_view_3 : decode c_B_view 3 = .ok (.invokevirtual 49, 3) := by decide +kernel
theorem d_B_view_6 : decode c_B_view 6 = .ok (.getfield 120, 3) := by decide +kernel
theorem d_B_view_9 : decode c_B_view 9 = .ok (.iload_n 3, 1) := by decide +kernel
theorem d_B_view_10 : decode c_B_view 10 = .ok (.invokevirtual 123, 3) := by decide +kernel
theorem d_B_view_13 : decode c_B_view 13 = .ok (.ireturn, 1) := by decide +kernel
set_option maxRecDepth 20000 in
set_option maxHeartbeats 4000000 in
theorem m_B_view_no {E : kx_E} {w : va_W} {n : Nat} {ad : Nat → Nat} {L : Nat → List Nat} {V S : Nat → Nat → Int32} {pe bi : Nat → Option Nat} (hC : Cls E w n ad L V S pe bi) (hb : biOk n bi) {car e v : Int32} (hx : endQ bi car e = none) : kx_S E Y_B_view [.ref (ad 0), .int car, .int e, .int v] w (fun o w1 => o = .inr kx_nse ∧ w1 = w) := by
  refine kx_go (by decide) rfl rfl (Nat.le_of_ble_eq_true rfl) (kx_cc rfl (kx_cc rfl (kx_cc rfl (kx_cc rfl kx_c0)))) (fun z => ?_)
  have hO : kx_off w w clsN := kx_off.rf
  refine kx_aload_n d_B_view_0 rfl (by first | rfl | exact kx_rf _) ?_
  refine kx_iload_n d_B_view_1 rfl ?_
  refine kx_iload_n d_B_view_2 rfl ?_
  refine kx_callV (as := [.int car, .int e]) (rest := []) d_B_view_3 v_B_49 rfl (hC.bus) rfl rfl (by decide) (by decide) (Nat.le_of_ble_eq_true rfl) (by decide) (by decide) rfl (m_B_endOf_no hC hb hx) (fun X w1 hq => ⟨rfl, by cases hq.1; exact ⟨rfl, hq.2⟩⟩) (fun v w1 hq => by cases hq.1)
set_option maxRecDepth 20000 in
set_option maxHeartbeats 4000000 in
theorem m_B_view {E : kx_E} {w : va_W} {n : Nat} {ad : Nat → Nat} {L : Nat → List Nat} {V S : Nat → Nat → Int32} {pe bi : Nat → Option Nat} (hC : Cls E w n ad L V S pe bi) (hb : biOk n bi) {car e : Int32} {x j : Nat} (hx : endQ bi car e = some x) (hj : j < (L (x + 1)).length) : kx_S E Y_B_view [.ref (ad 0), .int car, .int e, .int (nI j)] w (kx_Qi w (nI ((L (x + 1)).getD j 0))) := by
  refine kx_go (by decide) rfl rfl (Nat.le_of_ble_eq_true rfl) (kx_cc rfl (kx_cc rfl (kx_cc rfl (kx_cc rfl kx_c0)))) (fun z => ?_)
  have hO : kx_off w w clsN := kx_off.rf
  have hxn := endQ_N hb hx
  refine kx_aload_n d_B_view_0 rfl (by first | rfl | exact kx_rf _) ?_
  refine kx_iload_n d_B_view_1 rfl ?_
  refine kx_iload_n d_B_view_2 rfl ?_
  refine kx_callV (as := [.int car, .int e]) (rest := []) d_B_view_3 v_B_49 rfl (hC.bus) rfl rfl (by decide) (by decide) (Nat.le_of_ble_eq_true rfl) (by decide) (by decide) rfl (m_B_endOf hC hb hx) (fun X w1 h => by cases h.1) (fun v w1 hq9 => ?_)
  obtain ⟨hv, hw9⟩ := hq9
  cases hv
  subst hw9
  refine kx_stk (st1 := [.ref (ad x)]) rfl ?_
  refine kx_get _ d_B_view_6 f_B_120 (hC.endAt hxn) (by rfl) ?_
  refine kx_iload_n d_B_view_9 rfl ?_
  refine cR_itemAt d_B_view_10 v_B_123 hC (rowN_e1 hxn) hj (by decide) (Nat.le_of_ble_eq_true rfl) (by decide) (by decide) ?_
  refine kx_iret d_B_view_13 rfl (by decide) (by decide) ?_
  exact ⟨rfl, rfl⟩
set_option maxRecDepth 20000 in
set_option maxHeartbeats 4000000 in
theorem m_B_view_out {E : kx_E} {w : va_W} {n : Nat} {ad : Nat → Nat} {L : Nat → List Nat} {V S : Nat → Nat → Int32} {pe bi : Nat → Option Nat} (hC : Cls E w n ad L V S pe bi) (hb : biOk n bi) {car e v : Int32} {x : Nat} (hx : endQ bi car e = some x) (hj : v < 0 ∨ nI (L (x + 1)).length ≤ v) : kx_S E Y_B_view [.ref (ad 0), .int car, .int e, .int v] w (kx_Qi w (-1)) := by
  refine kx_go (by decide) rfl rfl (Nat.le_of_ble_eq_true rfl) (kx_cc rfl (kx_cc rfl (kx_cc rfl (kx_cc rfl kx_c0)))) (fun z => ?_)
  have hO : kx_off w w clsN := kx_off.rf
  have hxn := endQ_N hb hx
  refine kx_aload_n d_B_view_0 rfl (by first | rfl | exact kx_rf _) ?_
  refine kx_iload_n d_B_view_1 rfl ?_
  refine kx_iload_n d_B_view_2 rfl ?_
  refine kx_callV (as := [.int car, .int e]) (rest := []) d_B_view_3 v_B_49 rfl (hC.bus) rfl rfl (by decide) (by decide) (Nat.le_of_ble_eq_true rfl) (by decide) (by decide) rfl (m_B_endOf hC hb hx) (fun X w1 h => by cases h.1) (fun v w1 hq9 => ?_)
  obtain ⟨hv, hw9⟩ := hq9
  cases hv
  subst hw9
  refine kx_stk (st1 := [.ref (ad x)]) rfl ?_
  refine kx_get _ d_B_view_6 f_B_120 (hC.endAt hxn) (by rfl) ?_
  refine kx_iload_n d_B_view_9 rfl ?_
  refine cR_itemAt_no d_B_view_10 v_B_123 hC (rowN_e1 hxn) hj (by decide) (Nat.le_of_ble_eq_true rfl) (by decide) (by decide) ?_
  refine kx_iret d_B_view_13 rfl (by decide) (by decide) ?_
  exact ⟨rfl, rfl⟩
theorem d_B_put_0 : decode c_B_put 0 = .ok (.aload_n 0, 1) := by decide +kernel
theorem d_B_put_1 : decode c_B_put 1 = .ok (.iload_n 1, 1) := by decide +kernel
theorem d_B_put_2 : decode c_B_put 2 = .ok (.invokevirtual 59, 3) := by decide +kernel
theorem d_B_put_5 : decode c_B_put 5 = .ok (.astore 4, 2) := by decide +kernel
theorem d_B_put_7 : decode c_B_put 7 = .ok (.iload_n 2, 1) := by decide +kernel
theorem d_B_put_8 : decode c_B_put 8 = .ok (.ifCond .lt 19, 3) := by decide +kernel
theorem d_B_put_11 : decode c_B_put 11 = .ok (.iload_n 2, 1) := by decide +kernel
theorem d_B_put_12 : decode c_B_put 12 = .ok (.iconst 4, 1) := by decide +kernel
theorem d_B_put_13 : decode c_B_put 13 = .ok (.if_icmp .ge 14, 3) := by decide +kernel
theorem d_B_put_16 : decode c_B_put 16 = .ok (.iload_n 3, 1) := by decide +kernel
theorem d_B_put_17 : decode c_B_put 17 = .ok (.ifCond .lt 10, 3) := by decide +kernel
theorem d_B_put_20 : decode c_B_put 20 = .ok (.iload_n 3, 1) := by decide +kernel
theorem d_B_put_21 : decode c_B_put 21 = .ok (.sipush 255, 3) := by decide +kernel
theorem d_B_put_24 : decode c_B_put 24 = .ok (.if_icmp .le 13, 3) := by decide +kernel
theorem d_B_put_27 : decode c_B_put 27 = .ok (.new 30, 3) := by decide +kernel
theorem d_B_put_30 : decode c_B_put 30 = .ok (.dup, 1) := by decide +kernel
theorem d_B_put_31 : decode c_B_put 31 = .ok (.ldc 126, 2) := by decide +kernel
theorem d_B_put_33 : decode c_B_put 33 = .ok (.invokespecial 34, 3) := by decide +kernel
theorem d_B_put_36 : decode c_B_put 36 = .ok (.athrow, 1) := by decide +kernel
theorem d_B_put_37 : decode c_B_put 37 = .ok (.aload 4, 2) := by decide +kernel
theorem d_B_put_39 : decode c_B_put 39 = .ok (.iload_n 2, 1) := by decide +kernel
theorem d_B_put_40 : decode c_B_put 40 = .ok (.iload_n 3, 1) := by decide +kernel
theorem d_B_put_41 : decode c_B_put 41 = .ok (.invokevirtual 128, 3) := by decide +kernel
theorem d_B_put_44 : decode c_B_put 44 = .ok (.ireturn, 1) := by decide +kernel
set_option maxRecDepth 20000 in
set_option maxHeartbeats 4000000 in
theorem m_B_put_no {E : kx_E} {w : va_W} {n : Nat} {ad : Nat → Nat} {L : Nat → List Nat} {V S : Nat → Nat → Int32} {pe bi : Nat → Option Nat} (hC : Cls E w n ad L V S pe bi) {car i v : Int32} (hc0 : carI bi car = none) : kx_S E Y_B_put [.ref (ad 0), .int car, .int i, .int v] w (fun o w1 => o = .inr kx_nse ∧ w1 = w) := by
  refine kx_go (by decide) rfl rfl (Nat.le_of_ble_eq_true rfl) (kx_cc rfl (kx_cc rfl (kx_cc rfl (kx_cc rfl kx_c0)))) (fun z => ?_)
  have hO : kx_off w w clsN := kx_off.rf
  refine kx_aload_n d_B_put_0 rfl (by first | rfl | exact kx_rf _) ?_
  refine kx_iload_n d_B_put_1 rfl ?_
  refine kx_callV (as := [.int car]) (rest := []) d_B_put_2 v_B_59 rfl (hC.bus) rfl rfl (by decide) (by decide) (Nat.le_of_ble_eq_true rfl) (by decide) (by decide) rfl (m_B_carOf_no hC hc0) (fun X w1 hq => ⟨rfl, by cases hq.1; exact ⟨rfl, hq.2⟩⟩) (fun v w1 hq => by cases hq.1)
set_option maxRecDepth 20000 in
set_option maxHeartbeats 4000000 in
theorem m_B_put_bad {E : kx_E} {w : va_W} {n : Nat} {ad : Nat → Nat} {L : Nat → List Nat} {V S : Nat → Nat → Int32} {pe bi : Nat → Option Nat} (hC : Cls E w n ad L V S pe bi) {car i v : Int32} {c : Nat} (hc0 : carI bi car = some c) (hv : i < 0 ∨ nI 4 ≤ i ∨ v < 0 ∨ nI 255 < v) : kx_S E Y_B_put [.ref (ad 0), .int car, .int i, .int v] w (fun o w1 => o = .inr kx_iae ∧ w1 = w) := by
  refine kx_go (by decide) rfl rfl (Nat.le_of_ble_eq_true rfl) (kx_cc rfl (kx_cc rfl (kx_cc rfl (kx_cc rfl kx_c0)))) (fun z => ?_)
  have hO : kx_off w w clsN := kx_off.rf
  refine kx_aload_n d_B_put_0 rfl (by first | rfl | exact kx_rf _) ?_
  refine kx_iload_n d_B_put_1 rfl ?_
  refine kx_callV (as := [.int car]) (rest := []) d_B_put_2 v_B_59 rfl (hC.bus) rfl rfl (by decide) (by decide) (Nat.le_of_ble_eq_true rfl) (by decide) (by decide) rfl (m_B_carOf hC hc0) (fun X w1 h => by cases h.1) (fun v w1 hq9 => ?_)
  obtain ⟨hv, hw9⟩ := hq9
  cases hv
  subst hw9
  refine kx_stk (st1 := [.ref (ad (carB c))]) rfl ?_
  refine kx_astore d_B_put_5 (by decide) (by first | rfl | exact kx_rf _) ?_
  refine kx_iload_n d_B_put_7 rfl ?_
  refine kx_if_lt 27 d_B_put_8 (by decide) ?_ ?_
  · intro h8
    exact kx_throw d_B_put_27 d_B_put_30 d_B_put_31 d_B_put_33 d_B_put_36 t_B_126 rfl (by decide) (Nat.le_of_ble_eq_true rfl) (by decide) (by decide) ⟨rfl, rfl⟩
  · intro h8
    refine kx_iload_n d_B_put_11 rfl ?_
    refine kx_iconst (nI 4) d_B_put_12 (by decide) ?_
    refine kx_icmp_ge 27 d_B_put_13 (by decide) ?_ ?_
    · intro h13
      exact kx_throw d_B_put_27 d_B_put_30 d_B_put_31 d_B_put_33 d_B_put_36 t_B_126 rfl (by decide) (Nat.le_of_ble_eq_true rfl) (by decide) (by decide) ⟨rfl, rfl⟩
    · intro h13
      refine kx_iload_n d_B_put_16 rfl ?_
      refine kx_if_lt 27 d_B_put_17 (by decide) ?_ ?_
      · intro h17
        exact kx_throw d_B_put_27 d_B_put_30 d_B_put_31 d_B_put_33 d_B_put_36 t_B_126 rfl (by decide) (Nat.le_of_ble_eq_true rfl) (by decide) (by decide) ⟨rfl, rfl⟩
      · intro h17
        refine kx_iload_n d_B_put_20 rfl ?_
        refine kx_sipush (nI 255) d_B_put_21 (by decide) ?_
        refine kx_icmp_le 37 d_B_put_24 (by decide) ?_ ?_
        · intro h24
          exact absurd hv (by rintro (h | h | h | h); exact h8 h; exact h13 h; exact h17 h; exact absurd h24 (i32_nle.mpr h))
        · intro h24
          exact kx_throw d_B_put_27 d_B_put_30 d_B_put_31 d_B_put_33 d_B_put_36 t_B_126 rfl (by decide) (Nat.le_of_ble_eq_true rfl) (by decide) (by decide) ⟨rfl, rfl⟩
set_option maxRecDepth 20000 in
set_option maxHeartbeats 4000000 in
theorem m_B_put {E : kx_E} {w : va_W} {n : Nat} {ad : Nat → Nat} {L : Nat → List Nat} {V S : Nat → Nat → Int32} {pe bi : Nat → Option Nat} (hC : Cls E w n ad L V S pe bi) (hb : biOk n bi) {car i v : Int32} {c : Nat} (hc0 : carI bi car = some c) (hv : ¬ (i < 0 ∨ nI 4 ≤ i ∨ v < 0 ∨ nI 255 < v)) : kx_S E Y_B_put [.ref (ad 0), .int car, .int i, .int v] w (CQ E w n ad L V (up2 S (carB c) 8 (S (carB c) 8 &&& (nI 255 <<< (nI 8 * i &&& 31) ^^^ -1) ||| v <<< (nI 8 * i &&& 31))) pe bi (some (.int (byI (S (carB c) 8) i)))) := by
  refine kx_go (by decide) rfl rfl (Nat.le_of_ble_eq_true rfl) (kx_cc rfl (kx_cc rfl (kx_cc rfl (kx_cc rfl kx_c0)))) (fun z => ?_)
  have hO : kx_off w w clsN := kx_off.rf
  have hc := carI_c hb hc0
  refine kx_aload_n d_B_put_0 rfl (by first | rfl | exact kx_rf _) ?_
  refine kx_iload_n d_B_put_1 rfl ?_
  refine kx_callV (as := [.int car]) (rest := []) d_B_put_2 v_B_59 rfl (hC.bus) rfl rfl (by decide) (by decide) (Nat.le_of_ble_eq_true rfl) (by decide) (by decide) rfl (m_B_carOf hC hc0) (fun X w1 h => by cases h.1) (fun v w1 hq9 => ?_)
  obtain ⟨hv, hw9⟩ := hq9
  cases hv
  subst hw9
  refine kx_stk (st1 := [.ref (ad (carB c))]) rfl ?_
  refine kx_astore d_B_put_5 (by decide) (by first | rfl | exact kx_rf _) ?_
  refine kx_iload_n d_B_put_7 rfl ?_
  refine kx_if_lt 27 d_B_put_8 (by decide) ?_ ?_
  · intro h8
    first
      | exact absurd (Or.inl h8) hv
      | exact absurd (Or.inr (Or.inl h13)) hv
      | exact absurd (Or.inr (Or.inr (Or.inl h17))) hv
      | exact absurd (Or.inr (Or.inr (Or.inr (i32_nle.mp h24)))) hv
  · intro h8
    refine kx_iload_n d_B_put_11 rfl ?_
    refine kx_iconst (nI 4) d_B_put_12 (by decide) ?_
    refine kx_icmp_ge 27 d_B_put_13 (by decide) ?_ ?_
    · intro h13
      first
        | exact absurd (Or.inl h8) hv
        | exact absurd (Or.inr (Or.inl h13)) hv
        | exact absurd (Or.inr (Or.inr (Or.inl h17))) hv
        | exact absurd (Or.inr (Or.inr (Or.inr (i32_nle.mp h24)))) hv
    · intro h13
      refine kx_iload_n d_B_put_16 rfl ?_
      refine kx_if_lt 27 d_B_put_17 (by decide) ?_ ?_
      · intro h17
        first
          | exact absurd (Or.inl h8) hv
          | exact absurd (Or.inr (Or.inl h13)) hv
          | exact absurd (Or.inr (Or.inr (Or.inl h17))) hv
          | exact absurd (Or.inr (Or.inr (Or.inr (i32_nle.mp h24)))) hv
      · intro h17
        refine kx_iload_n d_B_put_20 rfl ?_
        refine kx_sipush (nI 255) d_B_put_21 (by decide) ?_
        refine kx_icmp_le 37 d_B_put_24 (by decide) ?_ ?_
        · intro h24
          refine kx_aload d_B_put_37 rfl (by first | rfl | exact kx_rf _) ?_
          refine kx_iload_n d_B_put_39 rfl ?_
          refine kx_iload_n d_B_put_40 rfl ?_
          refine kx_callV (as := [.int i, .int v]) (rest := []) d_B_put_41 v_B_128 rfl (hC.car c hc) rfl rfl (by decide) (by decide) (Nat.le_of_ble_eq_true rfl) (by decide) (by decide) rfl (m_C_replaceByte hC hc i v) (fun X w1 h => by cases h.1) (fun v w hq9 => ?_)
          obtain ⟨hv, hC, hO9⟩ := hq9
          cases hv
          have hO := hO.tr hO9 (fun _ h => h) (fun _ h => h)
          refine kx_stk (st1 := [.int (byI (S (carB c) 8) i)]) rfl ?_
          refine kx_iret d_B_put_44 rfl (by decide) (by decide) ?_
          exact ⟨rfl, hC, hO⟩
        · intro h24
          first
            | exact absurd (Or.inl h8) hv
            | exact absurd (Or.inr (Or.inl h13)) hv
            | exact absurd (Or.inr (Or.inr (Or.inl h17))) hv
            | exact absurd (Or.inr (Or.inr (Or.inr (i32_nle.mp h24)))) hv
theorem d_B_get_0 : decode c_B_get 0 = .ok (.aload_n 0, 1) := by decide +kernel
theorem d_B_get_1 : decode c_B_get 1 = .ok (.iload_n 1, 1) := by decide +kernel
theorem d_B_get_2 : decode c_B_get 2 = .ok (.invokevirtual 59, 3) := by decide +kernel
theorem d_B_get_5 : decode c_B_get 5 = .ok (.astore 4, 2) := by decide +kernel
theorem d_B_get_7 : decode c_B_get 7 = .ok (.iload_n 3, 1) := by decide +kernel
theorem d_B_get_8 : decode c_B_get 8 = .ok (.ifCond .lt 8, 3) := by decide +kernel
theorem d_B_get_11 : decode c_B_get 11 = .ok (.iload_n 3, 1) := by decide +kernel
theorem d_B_get_12 : decode c_B_get 12 = .ok (.iconst 4, 1) := by decide +kernel
theorem d_B_get_13 : decode c_B_get 13 = .ok (.if_icmp .le 13, 3) := by decide +kernel
theorem d_B_get_16 : decode c_B_get 16 = .ok (.new 30, 3) := by decide +kernel
theorem d_B_get_19 : decode c_B_get 19 = .ok (.dup, 1) := by decide +kernel
theorem d_B_get_20 : decode c_B_get 20 = .ok (.ldc 132, 2) := by decide +kernel
theorem d_B_get_22 : decode c_B_get 22 = .ok (.invokespecial 34, 3) := by decide +kernel
theorem d_B_get_25 : decode c_B_get 25 = .ok (.athrow, 1) := by decide +kernel
theorem d_B_get_26 : decode c_B_get 26 = .ok (.aload 4, 2) := by decide +kernel
theorem d_B_get_28 : decode c_B_get 28 = .ok (.iload_n 2, 1) := by decide +kernel
theorem d_B_get_29 : decode c_B_get 29 = .ok (.iload_n 3, 1) := by decide +kernel
theorem d_B_get_30 : decode c_B_get 30 = .ok (.invokevirtual 134, 3) := by decide +kernel
theorem d_B_get_33 : decode c_B_get 33 = .ok (.ireturn, 1) := by decide +kernel
set_option maxRecDepth 20000 in
set_option maxHeartbeats 4000000 in
theorem m_B_get_no {E : kx_E} {w : va_W} {n : Nat} {ad : Nat → Nat} {L : Nat → List Nat} {V S : Nat → Nat → Int32} {pe bi : Nat → Option Nat} (hC : Cls E w n ad L V S pe bi) {car v i : Int32} (hc0 : carI bi car = none) : kx_S E Y_B_get [.ref (ad 0), .int car, .int v, .int i] w (fun o w1 => o = .inr kx_nse ∧ w1 = w) := by
  refine kx_go (by decide) rfl rfl (Nat.le_of_ble_eq_true rfl) (kx_cc rfl (kx_cc rfl (kx_cc rfl (kx_cc rfl kx_c0)))) (fun z => ?_)
  have hO : kx_off w w clsN := kx_off.rf
  refine kx_aload_n d_B_get_0 rfl (by first | rfl | exact kx_rf _) ?_
  refine kx_iload_n d_B_get_1 rfl ?_
  refine kx_callV (as := [.int car]) (rest := []) d_B_get_2 v_B_59 rfl (hC.bus) rfl rfl (by decide) (by decide) (Nat.le_of_ble_eq_true rfl) (by decide) (by decide) rfl (m_B_carOf_no hC hc0) (fun X w1 hq => ⟨rfl, by cases hq.1; exact ⟨rfl, hq.2⟩⟩) (fun v w1 hq => by cases hq.1)
set_option maxRecDepth 20000 in
set_option maxHeartbeats 4000000 in
theorem m_B_get_bad {E : kx_E} {w : va_W} {n : Nat} {ad : Nat → Nat} {L : Nat → List Nat} {V S : Nat → Nat → Int32} {pe bi : Nat → Option Nat} (hC : Cls E w n ad L V S pe bi) {car v i : Int32} {c : Nat} (hc0 : carI bi car = some c) (hv : i < 0 ∨ nI 4 < i) : kx_S E Y_B_get [.ref (ad 0), .int car, .int v, .int i] w (fun o w1 => o = .inr kx_iae ∧ w1 = w) := by
  refine kx_go (by decide) rfl rfl (Nat.le_of_ble_eq_true rfl) (kx_cc rfl (kx_cc rfl (kx_cc rfl (kx_cc rfl kx_c0)))) (fun z => ?_)
  have hO : kx_off w w clsN := kx_off.rf
  refine kx_aload_n d_B_get_0 rfl (by first | rfl | exact kx_rf _) ?_
  refine kx_iload_n d_B_get_1 rfl ?_
  refine kx_callV (as := [.int car]) (rest := []) d_B_get_2 v_B_59 rfl (hC.bus) rfl rfl (by decide) (by decide) (Nat.le_of_ble_eq_true rfl) (by decide) (by decide) rfl (m_B_carOf hC hc0) (fun X w1 h => by cases h.1) (fun v w1 hq9 => ?_)
  obtain ⟨hv, hw9⟩ := hq9
  cases hv
  subst hw9
  refine kx_stk (st1 := [.ref (ad (carB c))]) rfl ?_
  refine kx_astore d_B_get_5 (by decide) (by first | rfl | exact kx_rf _) ?_
  refine kx_iload_n d_B_get_7 rfl ?_
  refine kx_if_lt 16 d_B_get_8 (by decide) ?_ ?_
  · intro h8
    exact kx_throw d_B_get_16 d_B_get_19 d_B_get_20 d_B_get_22 d_B_get_25 t_B_132 rfl (by decide) (Nat.le_of_ble_eq_true rfl) (by decide) (by decide) ⟨rfl, rfl⟩
  · intro h8
    refine kx_iload_n d_B_get_11 rfl ?_
    refine kx_iconst (nI 4) d_B_get_12 (by decide) ?_
    refine kx_icmp_le 26 d_B_get_13 (by decide) ?_ ?_
    · intro h13
      exact absurd hv (by rintro (h | h); exact h8 h; exact absurd h13 (i32_nle.mpr h))
    · intro h13
      exact kx_throw d_B_get_16 d_B_get_19 d_B_get_20 d_B_get_22 d_B_get_25 t_B_132 rfl (by decide) (Nat.le_of_ble_eq_true rfl) (by decide) (by decide) ⟨rfl, rfl⟩
set_option maxRecDepth 20000 in
set_option maxHeartbeats 4000000 in
theorem m_B_get {E : kx_E} {w : va_W} {n : Nat} {ad : Nat → Nat} {L : Nat → List Nat} {V S : Nat → Nat → Int32} {pe bi : Nat → Option Nat} (hC : Cls E w n ad L V S pe bi) (hb : biOk n bi) {car i : Int32} {c num j : Nat} (hc0 : carI bi car = some c) (hv : ¬ (i < 0 ∨ nI 4 < i)) (hn : S (carB c) 7 = nI num) (h24 : num ≤ 24) (hj : j < (L (carB c + 26)).length) : kx_S E Y_B_get [.ref (ad 0), .int car, .int (nI (j + 1)), .int i] w (kx_Qi w (knownI (V (carB c + 30)) (V (carB c + 31)) (S (carB c) 8) num j i)) := by
  refine kx_go (by decide) rfl rfl (Nat.le_of_ble_eq_true rfl) (kx_cc rfl (kx_cc rfl (kx_cc rfl (kx_cc rfl kx_c0)))) (fun z => ?_)
  have hO : kx_off w w clsN := kx_off.rf
  have hc := carI_c hb hc0
  refine kx_aload_n d_B_get_0 rfl (by first | rfl | exact kx_rf _) ?_
  refine kx_iload_n d_B_get_1 rfl ?_
  refine kx_callV (as := [.int car]) (rest := []) d_B_get_2 v_B_59 rfl (hC.bus) rfl rfl (by decide) (by decide) (Nat.le_of_ble_eq_true rfl) (by decide) (by decide) rfl (m_B_carOf hC hc0) (fun X w1 h => by cases h.1) (fun v w1 hq9 => ?_)
  obtain ⟨hv, hw9⟩ := hq9
  cases hv
  subst hw9
  refine kx_stk (st1 := [.ref (ad (carB c))]) rfl ?_
  refine kx_astore d_B_get_5 (by decide) (by first | rfl | exact kx_rf _) ?_
  refine kx_iload_n d_B_get_7 rfl ?_
  refine kx_if_lt 16 d_B_get_8 (by decide) ?_ ?_
  · intro h8
    first
      | exact absurd (Or.inl h8) hv
      | exact absurd (Or.inr (i32_nle.mp h13)) hv
  · intro h8
    refine kx_iload_n d_B_get_11 rfl ?_
    refine kx_iconst (nI 4) d_B_get_12 (by decide) ?_
    refine kx_icmp_le 26 d_B_get_13 (by decide) ?_ ?_
    · intro h13
      refine kx_aload d_B_get_26 rfl (by first | rfl | exact kx_rf _) ?_
      refine kx_iload_n d_B_get_28 rfl ?_
      refine kx_iload_n d_B_get_29 rfl ?_
      refine kx_callV (as := [.int (nI (j + 1)), .int i]) (rest := []) d_B_get_30 v_B_134 rfl (hC.car c hc) rfl rfl (by decide) (by decide) (Nat.le_of_ble_eq_true rfl) (by decide) (by decide) rfl (m_C_known hC hc hn h24 hj i) (fun X w1 h => by cases h.1) (fun v w1 hq9 => ?_)
      obtain ⟨hv, hw9⟩ := hq9
      cases hv
      subst hw9
      refine kx_stk (st1 := [.int (knownI (V (carB c + 30)) (V (carB c + 31)) (S (carB c) 8) num j i)]) rfl ?_
      refine kx_iret d_B_get_33 rfl (by decide) (by decide) ?_
      exact ⟨rfl, rfl⟩
    · intro h13
      first
        | exact absurd (Or.inl h8) hv
        | exact absurd (Or.inr (i32_nle.mp h13)) hv
set_option maxRecDepth 20000 in
set_option maxHeartbeats 4000000 in
theorem m_B_get_out {E : kx_E} {w : va_W} {n : Nat} {ad : Nat → Nat} {L : Nat → List Nat} {V S : Nat → Nat → Int32} {pe bi : Nat → Option Nat} (hC : Cls E w n ad L V S pe bi) (hb : biOk n bi) {car v i : Int32} {c : Nat} (hc0 : carI bi car = some c) (hv : ¬ (i < 0 ∨ nI 4 < i)) (hj : v < nI 1 ∨ nI (L (carB c + 26)).length < v) : kx_S E Y_B_get [.ref (ad 0), .int car, .int v, .int i] w (kx_Qi w (-1)) := by
  refine kx_go (by decide) rfl rfl (Nat.le_of_ble_eq_true rfl) (kx_cc rfl (kx_cc rfl (kx_cc rfl (kx_cc rfl kx_c0)))) (fun z => ?_)
  have hO : kx_off w w clsN := kx_off.rf
  have hc := carI_c hb hc0
  refine kx_aload_n d_B_get_0 rfl (by first | rfl | exact kx_rf _) ?_
  refine kx_iload_n d_B_get_1 rfl ?_
  refine kx_callV (as := [.int car]) (rest := []) d_B_get_2 v_B_59 rfl (hC.bus) rfl rfl (by decide) (by decide) (Nat.le_of_ble_eq_true rfl) (by decide) (by decide) rfl (m_B_carOf hC hc0) (fun X w1 h => by cases h.1) (fun v w1 hq9 => ?_)
  obtain ⟨hv, hw9⟩ := hq9
  cases hv
  subst hw9
  refine kx_stk (st1 := [.ref (ad (carB c))]) rfl ?_
  refine kx_astore d_B_get_5 (by decide) (by first | rfl | exact kx_rf _) ?_
  refine kx_iload_n d_B_get_7 rfl ?_
  refine kx_if_lt 16 d_B_get_8 (by decide) ?_ ?_
  · intro h8
    first
      | exact absurd (Or.inl h8) hv
      | exact absurd (Or.inr (i32_nle.mp h13)) hv
  · intro h8
    refine kx_iload_n d_B_get_11 rfl ?_
    refine kx_iconst (nI 4) d_B_get_12 (by decide) ?_
    refine kx_icmp_le 26 d_B_get_13 (by decide) ?_ ?_
    · intro h13
      refine kx_aload d_B_get_26 rfl (by first | rfl | exact kx_rf _) ?_
      refine kx_iload_n d_B_get_28 rfl ?_
      refine kx_iload_n d_B_get_29 rfl ?_
      refine kx_callV (as := [.int v, .int i]) (rest := []) d_B_get_30 v_B_134 rfl (hC.car c hc) rfl rfl (by decide) (by decide) (Nat.le_of_ble_eq_true rfl) (by decide) (by decide) rfl (m_C_known_no hC hc hj i) (fun X w1 h => by cases h.1) (fun v w1 hq9 => ?_)
      obtain ⟨hv, hw9⟩ := hq9
      cases hv
      subst hw9
      refine kx_stk (st1 := [.int (-1)]) rfl ?_
      refine kx_iret d_B_get_33 rfl (by decide) (by decide) ?_
      exact ⟨rfl, rfl⟩
    · intro h13
      first
        | exact absurd (Or.inl h8) hv
        | exact absurd (Or.inr (i32_nle.mp h13)) hv
theorem d_B_order_0 : decode c_B_order 0 = .ok (.aload_n 0, 1) := by decide +kernel
theorem d_B_order_1 : decode c_B_order 1 = .ok (.aload_n 0, 1) := by decide +kernel
theorem d_B_order_2 : decode c_B_order 2 = .ok (.iload_n 1, 1) := by decide +kernel
theorem d_B_order_3 : decode c_B_order 3 = .ok (.invokevirtual 59, 3) := by decide +kernel
theorem d_B_order_6 : decode c_B_order 6 = .ok (.invokevirtual 63, 3) := by decide +kernel
theorem d_B_order_9 : decode c_B_order 9 = .ok (.iload_n 2, 1) := by decide +kernel
theorem d_B_order_10 : decode c_B_order 10 = .ok (.invokevirtual 117, 3) := by decide +kernel
theorem d_B_order_13 : decode c_B_order 13 = .ok (.ireturn, 1) := by decide +kernel
set_option maxRecDepth 20000 in
set_option maxHeartbeats 4000000 in
theorem m_B_order_no {E : kx_E} {w : va_W} {n : Nat} {ad : Nat → Nat} {L : Nat → List Nat} {V S : Nat → Nat → Int32} {pe bi : Nat → Option Nat} (hC : Cls E w n ad L V S pe bi) {car v : Int32} (hc0 : carI bi car = none) : kx_S E Y_B_order [.ref (ad 0), .int car, .int v] w (fun o w1 => o = .inr kx_nse ∧ w1 = w) := by
  refine kx_go (by decide) rfl rfl (Nat.le_of_ble_eq_true rfl) (kx_cc rfl (kx_cc rfl (kx_cc rfl kx_c0))) (fun z => ?_)
  have hO : kx_off w w clsN := kx_off.rf
  refine kx_aload_n d_B_order_0 rfl (by first | rfl | exact kx_rf _) ?_
  refine kx_aload_n d_B_order_1 rfl (by first | rfl | exact kx_rf _) ?_
  refine kx_iload_n d_B_order_2 rfl ?_
  refine kx_callV (as := [.int car]) (rest := [.ref (ad 0)]) d_B_order_3 v_B_59 rfl (hC.bus) rfl rfl (by decide) (by decide) (Nat.le_of_ble_eq_true rfl) (by decide) (by decide) rfl (m_B_carOf_no hC hc0) (fun X w1 hq => ⟨rfl, by cases hq.1; exact ⟨rfl, hq.2⟩⟩) (fun v w1 hq => by cases hq.1)
set_option maxRecDepth 20000 in
set_option maxHeartbeats 4000000 in
theorem m_B_order {E : kx_E} {w : va_W} {n : Nat} {ad : Nat → Nat} {L : Nat → List Nat} {V S : Nat → Nat → Int32} {pe bi : Nat → Option Nat} (hC : Cls E w n ad L V S pe bi) (hb : biOk n bi) (hp : peOk n pe) (hI : InvS n S) {car : Int32} {c j : Nat} (hc0 : carI bi car = some c) (hj : j < (truL pe S c).length) : kx_S E Y_B_order [.ref (ad 0), .int car, .int (nI (j + 1))] w (CQ E w n ad (up1 L 4 (truL pe S c)) V S pe bi (some (.int (nI ((truL pe S c).getD j 0 / 2))))) := by
  refine kx_go (by decide) rfl rfl (Nat.le_of_ble_eq_true rfl) (kx_cc rfl (kx_cc rfl (kx_cc rfl kx_c0))) (fun z => ?_)
  have hO : kx_off w w clsN := kx_off.rf
  have hc := carI_c hb hc0
  refine kx_aload_n d_B_order_0 rfl (by first | rfl | exact kx_rf _) ?_
  refine kx_aload_n d_B_order_1 rfl (by first | rfl | exact kx_rf _) ?_
  refine kx_iload_n d_B_order_2 rfl ?_
  refine kx_callV (as := [.int car]) (rest := [.ref (ad 0)]) d_B_order_3 v_B_59 rfl (hC.bus) rfl rfl (by decide) (by decide) (Nat.le_of_ble_eq_true rfl) (by decide) (by decide) rfl (m_B_carOf hC hc0) (fun X w1 h => by cases h.1) (fun v w1 hq9 => ?_)
  obtain ⟨hv, hw9⟩ := hq9
  cases hv
  subst hw9
  refine kx_stk (st1 := [.ref (ad (carB c)), .ref (ad 0)]) rfl ?_
  refine kx_callV (as := [.ref (ad (carB c))]) (rest := []) d_B_order_6 v_B_63 rfl (hC.bus) rfl rfl (by decide) (by decide) (Nat.le_of_ble_eq_true rfl) (by decide) (by decide) rfl (m_B_trueRun hC hp hI hc) (fun X w1 h => by cases h.1) (fun v w hq9 => ?_)
  obtain ⟨hv, hC, hO9⟩ := hq9
  cases hv
  have hO := hO.tr hO9 (fun _ h => h) (fun _ h => h)
  refine kx_stk (st1 := [.ref (ad 4)]) rfl ?_
  refine kx_iload_n d_B_order_9 rfl ?_
  refine cR_idAt d_B_order_10 v_B_117 hC (rowN_4 n) (by rw [up1_s]; exact hj) (by decide) (Nat.le_of_ble_eq_true rfl) (by decide) (by decide) ?_
  rw [up1_s]
  refine kx_iret d_B_order_13 rfl (by decide) (by decide) ?_
  exact ⟨rfl, hC, hO⟩
set_option maxRecDepth 20000 in
set_option maxHeartbeats 4000000 in
theorem m_B_order_out {E : kx_E} {w : va_W} {n : Nat} {ad : Nat → Nat} {L : Nat → List Nat} {V S : Nat → Nat → Int32} {pe bi : Nat → Option Nat} (hC : Cls E w n ad L V S pe bi) (hb : biOk n bi) (hp : peOk n pe) (hI : InvS n S) {car v : Int32} {c : Nat} (hc0 : carI bi car = some c) (hj : v < nI 1 ∨ nI (truL pe S c).length < v) : kx_S E Y_B_order [.ref (ad 0), .int car, .int v] w (CQ E w n ad (up1 L 4 (truL pe S c)) V S pe bi (some (.int (-1)))) := by
  refine kx_go (by decide) rfl rfl (Nat.le_of_ble_eq_true rfl) (kx_cc rfl (kx_cc rfl (kx_cc rfl kx_c0))) (fun z => ?_)
  have hO : kx_off w w clsN := kx_off.rf
  have hc := carI_c hb hc0
  refine kx_aload_n d_B_order_0 rfl (by first | rfl | exact kx_rf _) ?_
  refine kx_aload_n d_B_order_1 rfl (by first | rfl | exact kx_rf _) ?_
  refine kx_iload_n d_B_order_2 rfl ?_
  refine kx_callV (as := [.int car]) (rest := [.ref (ad 0)]) d_B_order_3 v_B_59 rfl (hC.bus) rfl rfl (by decide) (by decide) (Nat.le_of_ble_eq_true rfl) (by decide) (by decide) rfl (m_B_carOf hC hc0) (fun X w1 h => by cases h.1) (fun v w1 hq9 => ?_)
  obtain ⟨hv, hw9⟩ := hq9
  cases hv
  subst hw9
  refine kx_stk (st1 := [.ref (ad (carB c)), .ref (ad 0)]) rfl ?_
  refine kx_callV (as := [.ref (ad (carB c))]) (rest := []) d_B_order_6 v_B_63 rfl (hC.bus) rfl rfl (by decide) (by decide) (Nat.le_of_ble_eq_true rfl) (by decide) (by decide) rfl (m_B_trueRun hC hp hI hc) (fun X w1 h => by cases h.1) (fun v w hq9 => ?_)
  obtain ⟨hv, hC, hO9⟩ := hq9
  cases hv
  have hO := hO.tr hO9 (fun _ h => h) (fun _ h => h)
  refine kx_stk (st1 := [.ref (ad 4)]) rfl ?_
  refine kx_iload_n d_B_order_9 rfl ?_
  refine cR_idAt_no d_B_order_10 v_B_117 hC (rowN_4 n) (by rw [up1_s]; exact hj) (by decide) (Nat.le_of_ble_eq_true rfl) (by decide) (by decide) ?_
  refine kx_iret d_B_order_13 rfl (by decide) (by decide) ?_
  exact ⟨rfl, hC, hO⟩
theorem d_B_count_0 : decode c_B_count 0 = .ok (.iload_n 1, 1) := by decide +kernel
theorem d_B_count_1 : decode c_B_count 1 = .ok (.ifCond .lt 8, 3) := by decide +kernel
theorem d_B_count_4 : decode c_B_count 4 = .ok (.iload_n 1, 1) := by decide +kernel
theorem d_B_count_5 : decode c_B_count 5 = .ok (.iconst 5, 1) := by decide +kernel
theorem d_B_count_6 : decode c_B_count 6 = .ok (.if_icmp .lt 13, 3) := by decide +kernel
theorem d_B_count_9 : decode c_B_count 9 = .ok (.new 30, 3) := by decide +kernel
theorem d_B_count_12 : decode c_B_count 12 = .ok (.dup, 1) := by decide +kernel
theorem d_B_count_13 : decode c_B_count 13 = .ok (.ldc 156, 2) := by decide +kernel
theorem d_B_count_15 : decode c_B_count 15 = .ok (.invokespecial 34, 3) := by decide +kernel
theorem d_B_count_18 : decode c_B_count 18 = .ok (.athrow, 1) := by decide +kernel
theorem d_B_count_19 : decode c_B_count 19 = .ok (.iload_n 1, 1) := by decide +kernel
theorem d_B_count_20 : decode c_B_count 20 = .ok (.tableswitch 57 0 3 #[32, 37, 42, 47], 32) := by decide +kernel
theorem d_B_count_52 : decode c_B_count 52 = .ok (.aload_n 0, 1) := by decide +kernel
theorem d_B_count_53 : decode c_B_count 53 = .ok (.getfield 37, 3) := by decide +kernel
theorem d_B_count_56 : decode c_B_count 56 = .ok (.ireturn, 1) := by decide +kernel
theorem d_B_count_57 : decode c_B_count 57 = .ok (.aload_n 0, 1) := by decide +kernel
theorem d_B_count_58 : decode c_B_count 58 = .ok (.getfield 80, 3) := by decide +kernel
theorem d_B_count_61 : decode c_B_count 61 = .ok (.ireturn, 1) := by decide +kernel
theorem d_B_count_62 : decode c_B_count 62 = .ok (.aload_n 0, 1) := by decide +kernel
theorem d_B_count_63 : decode c_B_count 63 = .ok (.getfield 103, 3) := by decide +kernel
theorem d_B_count_66 : decode c_B_count 66 = .ok (.ireturn, 1) := by decide +kernel
theorem d_B_count_67 : decode c_B_count 67 = .ok (.aload_n 0, 1) := by decide +kernel
theorem d_B_count_68 : decode c_B_count 68 = .ok (.getfield 37, 3) := by decide +kernel
theorem d_B_count_71 : decode c_B_count 71 = .ok (.aload_n 0, 1) := by decide +kernel
theorem d_B_count_72 : decode c_B_count 72 = .ok (.getfield 80, 3) := by decide +kernel
theorem d_B_count_75 : decode c_B_count 75 = .ok (.isub, 1) := by decide +kernel
theorem d_B_count_76 : decode c_B_count 76 = .ok (.ireturn, 1) := by decide +kernel
theorem d_B_count_77 : decode c_B_count 77 = .ok (.aload_n 0, 1) := by decide +kernel
theorem d_B_count_78 : decode c_B_count 78 = .ok (.getfield 106, 3) := by decide +kernel
theorem d_B_count_81 : decode c_B_count 81 = .ok (.ireturn, 1) := by decide +kernel
def cntI (S : Nat → Nat → Int32) (k : Nat) : Int32 := if k = 0 then S 0 4 else if k = 1 then S 0 5 else if k = 2 then S 0 7 else if k = 3 then S 0 4 - S 0 5 else S 0 8
set_option maxRecDepth 20000 in
set_option maxHeartbeats 4000000 in
theorem m_B_count_bad {E : kx_E} {w : va_W} {n : Nat} {ad : Nat → Nat} {L : Nat → List Nat} {V S : Nat → Nat → Int32} {pe bi : Nat → Option Nat} (hC : Cls E w n ad L V S pe bi) {v : Int32} (hv : v < 0 ∨ ¬ v < nI 5) : kx_S E Y_B_count [.ref (ad 0), .int v] w (fun o w1 => o = .inr kx_iae ∧ w1 = w) := by
  refine kx_go (by decide) rfl rfl (Nat.le_of_ble_eq_true rfl) (kx_cc rfl (kx_cc rfl kx_c0)) (fun z => ?_)
  have hO : kx_off w w clsN := kx_off.rf
  refine kx_iload_n d_B_count_0 rfl ?_
  refine kx_if_lt 9 d_B_count_1 (by decide) ?_ ?_
  · intro h1
    exact kx_throw d_B_count_9 d_B_count_12 d_B_count_13 d_B_count_15 d_B_count_18 t_B_156 rfl (by decide) (Nat.le_of_ble_eq_true rfl) (by decide) (by decide) ⟨rfl, rfl⟩
  · intro h1
    refine kx_iload_n d_B_count_4 rfl ?_
    refine kx_iconst (nI 5) d_B_count_5 (by decide) ?_
    refine kx_icmp_lt 19 d_B_count_6 (by decide) ?_ ?_
    · intro h6
      exact absurd hv (by rintro (h | h); exact h1 h; exact h h6)
    · intro h6
      exact kx_throw d_B_count_9 d_B_count_12 d_B_count_13 d_B_count_15 d_B_count_18 t_B_156 rfl (by decide) (Nat.le_of_ble_eq_true rfl) (by decide) (by decide) ⟨rfl, rfl⟩
set_option maxRecDepth 20000 in
set_option maxHeartbeats 4000000 in
theorem m_B_count_0 {E : kx_E} {w : va_W} {n : Nat} {ad : Nat → Nat} {L : Nat → List Nat} {V S : Nat → Nat → Int32} {pe bi : Nat → Option Nat} (hC : Cls E w n ad L V S pe bi)  : kx_S E Y_B_count [.ref (ad 0), .int (nI 0)] w (kx_Qi w (cntI S 0)) := by
  refine kx_go (by decide) rfl rfl (Nat.le_of_ble_eq_true rfl) (kx_cc rfl (kx_cc rfl kx_c0)) (fun z => ?_)
  have hO : kx_off w w clsN := kx_off.rf
  refine kx_iload_n d_B_count_0 rfl ?_
  refine kx_if_lt_n 9 d_B_count_1 (by decide) (by decide) ?_
  refine kx_iload_n d_B_count_4 rfl ?_
  refine kx_iconst (nI 5) d_B_count_5 (by decide) ?_
  first | refine kx_icmp_lt_n 19 d_B_count_6 (by decide) (by omega) (by omega) ?_ ?_ | refine kx_icmp_lt 19 d_B_count_6 (by decide) ?_ ?_
  · intro h6
    refine kx_iload_n d_B_count_19 rfl ?_
    refine kx_tabIn (off := 32) 52 d_B_count_20 (by decide) (by decide) (by decide) (by decide) ?_
    refine kx_aload_n d_B_count_52 rfl (by first | rfl | exact kx_rf _) ?_
    refine kx_get _ d_B_count_53 f_B_37 hC.bus (by rfl) ?_
    refine kx_iret d_B_count_56 rfl (by decide) (by decide) ?_
    exact ⟨rfl, rfl⟩
  · intro h6
    exact absurd h6 (by decide)
set_option maxRecDepth 20000 in
set_option maxHeartbeats 4000000 in
theorem m_B_count_1 {E : kx_E} {w : va_W} {n : Nat} {ad : Nat → Nat} {L : Nat → List Nat} {V S : Nat → Nat → Int32} {pe bi : Nat → Option Nat} (hC : Cls E w n ad L V S pe bi)  : kx_S E Y_B_count [.ref (ad 0), .int (nI 1)] w (kx_Qi w (cntI S 1)) := by
  refine kx_go (by decide) rfl rfl (Nat.le_of_ble_eq_true rfl) (kx_cc rfl (kx_cc rfl kx_c0)) (fun z => ?_)
  have hO : kx_off w w clsN := kx_off.rf
  refine kx_iload_n d_B_count_0 rfl ?_
  refine kx_if_lt_n 9 d_B_count_1 (by decide) (by decide) ?_
  refine kx_iload_n d_B_count_4 rfl ?_
  refine kx_iconst (nI 5) d_B_count_5 (by decide) ?_
  first | refine kx_icmp_lt_n 19 d_B_count_6 (by decide) (by omega) (by omega) ?_ ?_ | refine kx_icmp_lt 19 d_B_count_6 (by decide) ?_ ?_
  · intro h6
    refine kx_iload_n d_B_count_19 rfl ?_
    refine kx_tabIn (off := 37) 57 d_B_count_20 (by decide) (by decide) (by decide) (by decide) ?_
    refine kx_aload_n d_B_count_57 rfl (by first | rfl | exact kx_rf _) ?_
    refine kx_get _ d_B_count_58 f_B_80 hC.bus (by rfl) ?_
    refine kx_iret d_B_count_61 rfl (by decide) (by decide) ?_
    exact ⟨rfl, rfl⟩
  · intro h6
    exact absurd h6 (by decide)
set_option maxRecDepth 20000 in
set_option maxHeartbeats 4000000 in
theorem m_B_count_2 {E : kx_E} {w : va_W} {n : Nat} {ad : Nat → Nat} {L : Nat → List Nat} {V S : Nat → Nat → Int32} {pe bi : Nat → Option Nat} (hC : Cls E w n ad L V S pe bi)  : kx_S E Y_B_count [.ref (ad 0), .int (nI 2)] w (kx_Qi w (cntI S 2)) := by
  refine kx_go (by decide) rfl rfl (Nat.le_of_ble_eq_true rfl) (kx_cc rfl (kx_cc rfl kx_c0)) (fun z => ?_)
  have hO : kx_off w w clsN := kx_off.rf
  refine kx_iload_n d_B_count_0 rfl ?_
  refine kx_if_lt_n 9 d_B_count_1 (by decide) (by decide) ?_
  refine kx_iload_n d_B_count_4 rfl ?_
  refine kx_iconst (nI 5) d_B_count_5 (by decide) ?_
  first | refine kx_icmp_lt_n 19 d_B_count_6 (by decide) (by omega) (by omega) ?_ ?_ | refine kx_icmp_lt 19 d_B_count_6 (by decide) ?_ ?_
  · intro h6
    refine kx_iload_n d_B_count_19 rfl ?_
    refine kx_tabIn (off := 42) 62 d_B_count_20 (by decide) (by decide) (by decide) (by decide) ?_
    refine kx_aload_n d_B_count_62 rfl (by first | rfl | exact kx_rf _) ?_
    refine kx_get _ d_B_count_63 f_B_103 hC.bus (by rfl) ?_
    refine kx_iret d_B_count_66 rfl (by decide) (by decide) ?_
    exact ⟨rfl, rfl⟩
  · intro h6
    exact absurd h6 (by decide)
set_option maxRecDepth 20000 in
set_option maxHeartbeats 4000000 in
theorem m_B_count_3 {E : kx_E} {w : va_W} {n : Nat} {ad : Nat → Nat} {L : Nat → List Nat} {V S : Nat → Nat → Int32} {pe bi : Nat → Option Nat} (hC : Cls E w n ad L V S pe bi)  : kx_S E Y_B_count [.ref (ad 0), .int (nI 3)] w (kx_Qi w (cntI S 3)) := by
  refine kx_go (by decide) rfl rfl (Nat.le_of_ble_eq_true rfl) (kx_cc rfl (kx_cc rfl kx_c0)) (fun z => ?_)
  have hO : kx_off w w clsN := kx_off.rf
  refine kx_iload_n d_B_count_0 rfl ?_
  refine kx_if_lt_n 9 d_B_count_1 (by decide) (by decide) ?_
  refine kx_iload_n d_B_count_4 rfl ?_
  refine kx_iconst (nI 5) d_B_count_5 (by decide) ?_
  first | refine kx_icmp_lt_n 19 d_B_count_6 (by decide) (by omega) (by omega) ?_ ?_ | refine kx_icmp_lt 19 d_B_count_6 (by decide) ?_ ?_
  · intro h6
    refine kx_iload_n d_B_count_19 rfl ?_
    refine kx_tabIn (off := 47) 67 d_B_count_20 (by decide) (by decide) (by decide) (by decide) ?_
    refine kx_aload_n d_B_count_67 rfl (by first | rfl | exact kx_rf _) ?_
    refine kx_get _ d_B_count_68 f_B_37 hC.bus (by rfl) ?_
    refine kx_aload_n d_B_count_71 rfl (by first | rfl | exact kx_rf _) ?_
    refine kx_get _ d_B_count_72 f_B_80 hC.bus (by rfl) ?_
    refine kx_isub _ d_B_count_75 rfl ?_
    refine kx_iret d_B_count_76 rfl (by decide) (by decide) ?_
    exact ⟨rfl, rfl⟩
  · intro h6
    exact absurd h6 (by decide)
set_option maxRecDepth 20000 in
set_option maxHeartbeats 4000000 in
theorem m_B_count_4 {E : kx_E} {w : va_W} {n : Nat} {ad : Nat → Nat} {L : Nat → List Nat} {V S : Nat → Nat → Int32} {pe bi : Nat → Option Nat} (hC : Cls E w n ad L V S pe bi)  : kx_S E Y_B_count [.ref (ad 0), .int (nI 4)] w (kx_Qi w (cntI S 4)) := by
  refine kx_go (by decide) rfl rfl (Nat.le_of_ble_eq_true rfl) (kx_cc rfl (kx_cc rfl kx_c0)) (fun z => ?_)
  have hO : kx_off w w clsN := kx_off.rf
  refine kx_iload_n d_B_count_0 rfl ?_
  refine kx_if_lt_n 9 d_B_count_1 (by decide) (by decide) ?_
  refine kx_iload_n d_B_count_4 rfl ?_
  refine kx_iconst (nI 5) d_B_count_5 (by decide) ?_
  first | refine kx_icmp_lt_n 19 d_B_count_6 (by decide) (by omega) (by omega) ?_ ?_ | refine kx_icmp_lt 19 d_B_count_6 (by decide) ?_ ?_
  · intro h6
    refine kx_iload_n d_B_count_19 rfl ?_
    refine kx_tabOut 77 d_B_count_20 (by decide) (by decide) ?_
    refine kx_aload_n d_B_count_77 rfl (by first | rfl | exact kx_rf _) ?_
    refine kx_get _ d_B_count_78 f_B_106 hC.bus (by rfl) ?_
    refine kx_iret d_B_count_81 rfl (by decide) (by decide) ?_
    exact ⟨rfl, rfl⟩
  · intro h6
    exact absurd h6 (by decide)
theorem m_B_count {E : kx_E} {w : va_W} {n : Nat} {ad : Nat → Nat} {L : Nat → List Nat} {V S : Nat → Nat → Int32} {pe bi : Nat → Option Nat} (hC : Cls E w n ad L V S pe bi) {k : Nat} (hk : k < 5) : kx_S E Y_B_count [.ref (ad 0), .int (nI k)] w (kx_Qi w (cntI S k)) := by
  have h : k = 0 ∨ k = 1 ∨ k = 2 ∨ k = 3 ∨ k = 4 := by omega
  rcases h with rfl | rfl | rfl | rfl | rfl
  · exact m_B_count_0 hC
  · exact m_B_count_1 hC
  · exact m_B_count_2 hC
  · exact m_B_count_3 hC
  · exact m_B_count_4 hC
