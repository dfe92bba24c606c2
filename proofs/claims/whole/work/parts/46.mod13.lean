/-! The reference: its calls that ask -/
def MX (E : kx_E) (w0 : va_W) (ma : Nat → Nat) (F : Nat → Int32) (A : Nat → Nat → Int32) (r : Option Value) : kx_O → va_W → Prop := fun o w1 => o = .inl r ∧ Mdl E w1 ma F A ∧ kx_off w0 w1 mdlN
def BiR (n : Nat) (X : Fx) (bi : Nat → Option Nat) : Prop := (∀ i c, bi i = some c → c < n ∧ xId X c = i) ∧ ∀ c, c < n → bi (xId X c) = some c
theorem BiR.ok {n : Nat} {X : Fx} {bi : Nat → Option Nat} (h : BiR n X bi) : biOk n bi := fun i c e => (h.1 i c e).1
theorem BiR.c {n : Nat} {X : Fx} {bi : Nat → Option Nat} (h : BiR n X bi) {x : Int32} {c : Nat} (hx : carI bi x = some c) : c < n := carI_c h.ok hx
theorem m_M_findC {E : kx_E} {w : va_W} {ma : Nat → Nat} {F : Nat → Int32} {A : Nat → Nat → Int32} (hM : Mdl E w ma F A) {n : Nat} {X : Fx} {D : Dy} (hR : ModR n X D A) (hX : WfX n X) (hD : WfD n D) (hn : F 1 = nI n) {bi : Nat → Option Nat} (hB : BiR n X bi) {x : Int32} {c : Nat} (hx : carI bi x = some c) : kx_S E Y_M_find [.ref (ma 0), .int x] w (kx_Qi w (nI c)) := by
  have h24 := hX.1
  obtain ⟨j, h1, h2, rfl, hj⟩ := carI_in hx
  obtain ⟨hc, hid⟩ := hB.1 j c hj
  refine m_M_find hM hn h24 hc ?_ (fun i hi e => ?_)
  · rw [hR.ids c hc, hid]
  · rw [hR.ids i (by omega)] at e
    have hb := (hX.2.1 i (by omega)).2
    have e2 : xId X i = j := (nI_eq (by omega) (by omega)).mp e
    have := hX.2.2.1 i c (by omega) hc (by rw [e2, hid])
    omega
theorem m_M_findN {E : kx_E} {w : va_W} {ma : Nat → Nat} {F : Nat → Int32} {A : Nat → Nat → Int32} (hM : Mdl E w ma F A) {n : Nat} {X : Fx} {D : Dy} (hR : ModR n X D A) (hX : WfX n X) (hD : WfD n D) (hn : F 1 = nI n) {bi : Nat → Option Nat} (hB : BiR n X bi) {x : Int32} (hx : carI bi x = none) : kx_S E Y_M_find [.ref (ma 0), .int x] w (kx_Qi w (-1)) := by
  refine m_M_find_no hM hn hX.1 (fun i hi e => ?_)
  rw [hR.ids i hi] at e
  have hb := hX.2.1 i hi
  rw [← e, carI_j bi hb.1 hb.2, hB.2 i hi] at hx
  cases hx
theorem plI_1 (x : Nat) (l : List Nat) (h : l.length ≤ 24) : plI x l + nI 1 = nI (rowNo x l 0) := by
  have hle := rowNo_le x l 0
  unfold plI
  by_cases e : rowNo x l 0 = 0
  · rw [if_pos e, e]; rfl
  · rw [if_neg e, nI_add]
    congr 1
    omega
theorem d_M_reset_0 : decode c_M_reset 0 = .ok (.aload_n 0, 1) := by decide +kernel
theorem d_M_reset_1 : decode c_M_reset 1 = .ok (.iload_n 1, 1) := by decide +kernel
theorem d_M_reset_2 : decode c_M_reset 2 = .ok (.invokevirtual 97, 3) := by decide +kernel
theorem d_M_reset_5 : decode c_M_reset 5 = .ok (.istore_n 2, 1) := by decide +kernel
theorem d_M_reset_6 : decode c_M_reset 6 = .ok (.aload_n 0, 1) := by decide +kernel
theorem d_M_reset_7 : decode c_M_reset 7 = .ok (.iload_n 2, 1) := by decide +kernel
theorem d_M_reset_8 : decode c_M_reset 8 = .ok (.iconst (-1), 1) := by decide +kernel
theorem d_M_reset_9 : decode c_M_reset 9 = .ok (.if_icmp .eq 7, 3) := by decide +kernel
theorem d_M_reset_12 : decode c_M_reset 12 = .ok (.iconst 1, 1) := by decide +kernel
theorem d_M_reset_13 : decode c_M_reset 13 = .ok (.goto 4, 3) := by decide +kernel
theorem d_M_reset_16 : decode c_M_reset 16 = .ok (.iconst 0, 1) := by decide +kernel
theorem d_M_reset_17 : decode c_M_reset 17 = .ok (.iconst 1, 1) := by decide +kernel
theorem d_M_reset_18 : decode c_M_reset 18 = .ok (.iconst 1, 1) := by decide +kernel
theorem d_M_reset_19 : decode c_M_reset 19 = .ok (.invokevirtual 101, 3) := by decide +kernel
theorem d_M_reset_22 : decode c_M_reset 22 = .ok (.ifCond .eq 8, 3) := by decide +kernel
theorem d_M_reset_25 : decode c_M_reset 25 = .ok (.aload_n 0, 1) := by decide +kernel
theorem d_M_reset_26 : decode c_M_reset 26 = .ok (.iload_n 2, 1) := by decide +kernel
theorem d_M_reset_27 : decode c_M_reset 27 = .ok (.invokevirtual 105, 3) := by decide +kernel
theorem d_M_reset_30 : decode c_M_reset 30 = .ok (.return_, 1) := by decide +kernel
set_option maxRecDepth 20000 in
set_option maxHeartbeats 4000000 in
theorem m_M_reset_no {E : kx_E} {w : va_W} {ma : Nat → Nat} {F : Nat → Int32} {A : Nat → Nat → Int32} (hM : Mdl E w ma F A) {n : Nat} {X : Fx} {D : Dy} (hR : ModR n X D A) (hX : WfX n X) (hD : WfD n D) (hn : F 1 = nI n) {bi : Nat → Option Nat} (hB : BiR n X bi) {car : Int32} (hc0 : carI bi car = none) : kx_S E Y_M_reset [.ref (ma 0), .int car] w (MX E w ma (up1 F 0 (nI 1)) A none) := by
  refine kx_go (by decide) rfl rfl (Nat.le_of_ble_eq_true rfl) (kx_cc rfl (kx_cc rfl kx_c0)) (fun z => ?_)
  have hO : kx_off w w mdlN := kx_off.rf
  have h24 := hX.1
  refine kx_aload_n d_M_reset_0 rfl (by first | rfl | exact kx_rf _) ?_
  refine kx_iload_n d_M_reset_1 rfl ?_
  refine kx_callV (as := [.int car]) (rest := []) d_M_reset_2 v_M_97 rfl hM.1 rfl rfl (by decide) (by decide) (Nat.le_of_ble_eq_true rfl) (by decide) (by decide) rfl (m_M_findN hM hR hX hD hn hB hc0) (fun X w1 h => by cases h.1) (fun v w1 hq9 => ?_)
  obtain ⟨hv, hw9⟩ := hq9
  cases hv
  subst hw9
  refine kx_stk (st1 := [.int (-1)]) rfl ?_
  refine kx_istore_n d_M_reset_5 (by decide) ?_
  refine kx_aload_n d_M_reset_6 rfl (by first | rfl | exact kx_rf _) ?_
  refine kx_iload_n d_M_reset_7 rfl ?_
  refine kx_iconst (-1) d_M_reset_8 (by decide) ?_
  refine kx_icmp_eq 16 d_M_reset_9 (by decide) (fun _ => ?_) (fun h => absurd rfl h)
  refine kx_iconst (nI 0) d_M_reset_16 (by decide) ?_
  refine kx_iconst (nI 1) d_M_reset_17 (by decide) ?_
  refine kx_iconst (nI 1) d_M_reset_18 (by decide) ?_
  refine kx_callV (as := [.int (nI _), .int (nI _), .int (nI _)]) (rest := []) d_M_reset_19 v_M_101 rfl hM.1 rfl rfl (by decide) (by decide) (Nat.le_of_ble_eq_true rfl) (by decide) (by decide) rfl (m_M_goes hM (by decide) (by decide) (by decide)) (fun X w1 h => by cases h.1) (fun v w hq9 => ?_)
  obtain ⟨hv, hM, hO9⟩ := hq9
  cases hv
  have hO := hO.tr hO9 (fun _ h => h) (fun _ h => h)
  refine kx_stk (st1 := [.int (nI 0)]) rfl ?_
  refine kx_if_eq_n 30 d_M_reset_22 (by decide) (by decide) (fun _ => ?_) (fun h => absurd rfl h)
  refine kx_vret d_M_reset_30 rfl (by decide) (by decide) ?_
  exact ⟨rfl, hM, hO⟩
set_option maxRecDepth 20000 in
set_option maxHeartbeats 4000000 in
theorem m_M_reset {E : kx_E} {w : va_W} {ma : Nat → Nat} {F : Nat → Int32} {A : Nat → Nat → Int32} (hM : Mdl E w ma F A) {n : Nat} {X : Fx} {D : Dy} (hR : ModR n X D A) (hX : WfX n X) (hD : WfD n D) (hn : F 1 = nI n) {bi : Nat → Option Nat} (hB : BiR n X bi) {car : Int32} {c : Nat} (hc0 : carI bi car = some c) : kx_S E Y_M_reset [.ref (ma 0), .int car] w (MX E w ma (up1 F 0 (nI 0)) (mFor c A) none) := by
  refine kx_go (by decide) rfl rfl (Nat.le_of_ble_eq_true rfl) (kx_cc rfl (kx_cc rfl kx_c0)) (fun z => ?_)
  have hO : kx_off w w mdlN := kx_off.rf
  have h24 := hX.1
  have hc := hB.c hc0
  refine kx_aload_n d_M_reset_0 rfl (by first | rfl | exact kx_rf _) ?_
  refine kx_iload_n d_M_reset_1 rfl ?_
  refine kx_callV (as := [.int car]) (rest := []) d_M_reset_2 v_M_97 rfl hM.1 rfl rfl (by decide) (by decide) (Nat.le_of_ble_eq_true rfl) (by decide) (by decide) rfl (m_M_findC hM hR hX hD hn hB hc0) (fun X w1 h => by cases h.1) (fun v w1 hq9 => ?_)
  obtain ⟨hv, hw9⟩ := hq9
  cases hv
  subst hw9
  refine kx_stk (st1 := [.int (nI c)]) rfl ?_
  refine kx_istore_n d_M_reset_5 (by decide) ?_
  refine kx_aload_n d_M_reset_6 rfl (by first | rfl | exact kx_rf _) ?_
  refine kx_iload_n d_M_reset_7 rfl ?_
  refine kx_iconst (-1) d_M_reset_8 (by decide) ?_
  refine kx_icmp_eq 16 d_M_reset_9 (by decide) (fun h => absurd h (nI_m1 (by omega))) (fun _ => ?_)
  refine kx_iconst (nI 1) d_M_reset_12 (by decide) ?_
  refine kx_goto 17 d_M_reset_13 (by decide) ?_
  refine kx_iconst (nI 1) d_M_reset_17 (by decide) ?_
  refine kx_iconst (nI 1) d_M_reset_18 (by decide) ?_
  refine kx_callV (as := [.int (nI _), .int (nI _), .int (nI _)]) (rest := []) d_M_reset_19 v_M_101 rfl hM.1 rfl rfl (by decide) (by decide) (Nat.le_of_ble_eq_true rfl) (by decide) (by decide) rfl (m_M_goes hM (by decide) (by decide) (by decide)) (fun X w1 h => by cases h.1) (fun v w hq9 => ?_)
  obtain ⟨hv, hM, hO9⟩ := hq9
  cases hv
  have hO := hO.tr hO9 (fun _ h => h) (fun _ h => h)
  refine kx_stk (st1 := [.int (nI 1)]) rfl ?_
  refine kx_if_eq_n 30 d_M_reset_22 (by decide) (by decide) (fun h => absurd h (by decide)) (fun _ => ?_)
  refine kx_aload_n d_M_reset_25 rfl (by first | rfl | exact kx_rf _) ?_
  refine kx_iload_n d_M_reset_26 rfl ?_
  refine kx_callV (as := [.int (nI c)]) (rest := []) d_M_reset_27 v_M_105 rfl hM.1 rfl rfl (by decide) (by decide) (Nat.le_of_ble_eq_true rfl) (by decide) (by decide) rfl (m_M_forget hM (by omega)) (fun X w1 h => by cases h.1) (fun v w hq9 => ?_)
  obtain ⟨hv, A1, hM, hP9, hO9⟩ := hq9
  cases hv
  have hO := hO.tr hO9 (fun _ h => h) (fun _ h => h)
  refine kx_stk (st1 := []) rfl ?_
  subst hP9
  refine kx_vret d_M_reset_30 rfl (by decide) (by decide) ?_
  exact ⟨rfl, hM, hO⟩
theorem d_M_coupling_0 : decode c_M_coupling 0 = .ok (.aload_n 0, 1) := by decide +kernel
theorem d_M_coupling_1 : decode c_M_coupling 1 = .ok (.iload_n 1, 1) := by decide +kernel
theorem d_M_coupling_2 : decode c_M_coupling 2 = .ok (.invokevirtual 97, 3) := by decide +kernel
theorem d_M_coupling_5 : decode c_M_coupling 5 = .ok (.istore_n 3, 1) := by decide +kernel
theorem d_M_coupling_6 : decode c_M_coupling 6 = .ok (.aload_n 0, 1) := by decide +kernel
theorem d_M_coupling_7 : decode c_M_coupling 7 = .ok (.iload_n 3, 1) := by decide +kernel
theorem d_M_coupling_8 : decode c_M_coupling 8 = .ok (.iconst (-1), 1) := by decide +kernel
theorem d_M_coupling_9 : decode c_M_coupling 9 = .ok (.if_icmp .eq 14, 3) := by decide +kernel
theorem d_M_coupling_12 : decode c_M_coupling 12 = .ok (.iload_n 2, 1) := by decide +kernel
theorem d_M_coupling_13 : decode c_M_coupling 13 = .ok (.invokestatic 115, 3) := by decide +kernel
theorem d_M_coupling_16 : decode c_M_coupling 16 = .ok (.ifCond .eq 7, 3) := by decide +kernel
theorem d_M_coupling_19 : decode c_M_coupling 19 = .ok (.iconst 1, 1) := by decide +kernel
theorem d_M_coupling_20 : decode c_M_coupling 20 = .ok (.goto 4, 3) := by decide +kernel
theorem d_M_coupling_23 : decode c_M_coupling 23 = .ok (.iconst 0, 1) := by decide +kernel
theorem d_M_coupling_24 : decode c_M_coupling 24 = .ok (.iconst 1, 1) := by decide +kernel
theorem d_M_coupling_25 : decode c_M_coupling 25 = .ok (.iconst 1, 1) := by decide +kernel
theorem d_M_coupling_26 : decode c_M_coupling 26 = .ok (.invokevirtual 101, 3) := by decide +kernel
theorem d_M_coupling_29 : decode c_M_coupling 29 = .ok (.ifCond .ne 5, 3) := by decide +kernel
theorem d_M_coupling_32 : decode c_M_coupling 32 = .ok (.iconst 0, 1) := by decide +kernel
theorem d_M_coupling_33 : decode c_M_coupling 33 = .ok (.ireturn, 1) := by decide +kernel
theorem d_M_coupling_34 : decode c_M_coupling 34 = .ok (.aload_n 0, 1) := by decide +kernel
theorem d_M_coupling_35 : decode c_M_coupling 35 = .ok (.getfield 16, 3) := by decide +kernel
theorem d_M_coupling_38 : decode c_M_coupling 38 = .ok (.iconst 2, 1) := by decide +kernel
theorem d_M_coupling_39 : decode c_M_coupling 39 = .ok (.iload_n 3, 1) := by decide +kernel
theorem d_M_coupling_40 : decode c_M_coupling 40 = .ok (.imul, 1) := by decide +kernel
theorem d_M_coupling_41 : decode c_M_coupling 41 = .ok (.iload_n 2, 1) := by decide +kernel
theorem d_M_coupling_42 : decode c_M_coupling 42 = .ok (.iadd, 1) := by decide +kernel
theorem d_M_coupling_43 : decode c_M_coupling 43 = .ok (.iaload, 1) := by decide +kernel
theorem d_M_coupling_44 : decode c_M_coupling 44 = .ok (.iconst (-1), 1) := by decide +kernel
theorem d_M_coupling_45 : decode c_M_coupling 45 = .ok (.if_icmp .ne 7, 3) := by decide +kernel
theorem d_M_coupling_48 : decode c_M_coupling 48 = .ok (.iconst (-1), 1) := by decide +kernel
theorem d_M_coupling_49 : decode c_M_coupling 49 = .ok (.goto 13, 3) := by decide +kernel
theorem d_M_coupling_52 : decode c_M_coupling 52 = .ok (.aload_n 0, 1) := by decide +kernel
theorem d_M_coupling_53 : decode c_M_coupling 53 = .ok (.getfield 19, 3) := by decide +kernel
theorem d_M_coupling_56 : decode c_M_coupling 56 = .ok (.iconst 2, 1) := by decide +kernel
theorem d_M_coupling_57 : decode c_M_coupling 57 = .ok (.iload_n 3, 1) := by decide +kernel
theorem d_M_coupling_58 : decode c_M_coupling 58 = .ok (.imul, 1) := by decide +kernel
theorem d_M_coupling_59 : decode c_M_coupling 59 = .ok (.iload_n 2, 1) := by decide +kernel
theorem d_M_coupling_60 : decode c_M_coupling 60 = .ok (.iadd, 1) := by decide +kernel
theorem d_M_coupling_61 : decode c_M_coupling 61 = .ok (.iaload, 1) := by decide +kernel
theorem d_M_coupling_62 : decode c_M_coupling 62 = .ok (.ireturn, 1) := by decide +kernel
set_option maxRecDepth 20000 in
set_option maxHeartbeats 4000000 in
theorem m_M_coupling_no {E : kx_E} {w : va_W} {ma : Nat → Nat} {F : Nat → Int32} {A : Nat → Nat → Int32} (hM : Mdl E w ma F A) {n : Nat} {X : Fx} {D : Dy} (hR : ModR n X D A) (hX : WfX n X) (hD : WfD n D) (hn : F 1 = nI n) {bi : Nat → Option Nat} (hB : BiR n X bi) {car e : Int32} (hc0 : carI bi car = none) : kx_S E Y_M_coupling [.ref (ma 0), .int car, .int e] w (MX E w ma (up1 F 0 (nI 1)) A (some (.int (nI 0)))) := by
  refine kx_go (by decide) rfl rfl (Nat.le_of_ble_eq_true rfl) (kx_cc rfl (kx_cc rfl (kx_cc rfl kx_c0))) (fun z => ?_)
  have hO : kx_off w w mdlN := kx_off.rf
  have h24 := hX.1
  refine kx_aload_n d_M_coupling_0 rfl (by first | rfl | exact kx_rf _) ?_
  refine kx_iload_n d_M_coupling_1 rfl ?_
  refine kx_callV (as := [.int car]) (rest := []) d_M_coupling_2 v_M_97 rfl hM.1 rfl rfl (by decide) (by decide) (Nat.le_of_ble_eq_true rfl) (by decide) (by decide) rfl (m_M_findN hM hR hX hD hn hB hc0) (fun X w1 h => by cases h.1) (fun v w1 hq9 => ?_)
  obtain ⟨hv, hw9⟩ := hq9
  cases hv
  subst hw9
  refine kx_stk (st1 := [.int (-1)]) rfl ?_
  refine kx_istore_n d_M_coupling_5 (by decide) ?_
  refine kx_aload_n d_M_coupling_6 rfl (by first | rfl | exact kx_rf _) ?_
  refine kx_iload_n d_M_coupling_7 rfl ?_
  refine kx_iconst (-1) d_M_coupling_8 (by decide) ?_
  refine kx_icmp_eq 23 d_M_coupling_9 (by decide) (fun _ => ?_) (fun h => absurd rfl h)
  refine kx_iconst (nI 0) d_M_coupling_23 (by decide) ?_
  refine kx_iconst (nI 1) d_M_coupling_24 (by decide) ?_
  refine kx_iconst (nI 1) d_M_coupling_25 (by decide) ?_
  refine kx_callV (as := [.int (nI _), .int (nI _), .int (nI _)]) (rest := []) d_M_coupling_26 v_M_101 rfl hM.1 rfl rfl (by decide) (by decide) (Nat.le_of_ble_eq_true rfl) (by decide) (by decide) rfl (m_M_goes hM (by decide) (by decide) (by decide)) (fun X w1 h => by cases h.1) (fun v w hq9 => ?_)
  obtain ⟨hv, hM, hO9⟩ := hq9
  cases hv
  have hO := hO.tr hO9 (fun _ h => h) (fun _ h => h)
  refine kx_stk (st1 := [.int (nI 0)]) rfl ?_
  refine kx_if_ne_n 34 d_M_coupling_29 (by decide) (by decide) (fun h => absurd rfl h) (fun _ => ?_)
  refine kx_iconst (nI 0) d_M_coupling_32 (by decide) ?_
  refine kx_iret d_M_coupling_33 rfl (by decide) (by decide) ?_
  exact ⟨rfl, hM, hO⟩
set_option maxRecDepth 20000 in
set_option maxHeartbeats 4000000 in
theorem m_M_coupling_ne {E : kx_E} {w : va_W} {ma : Nat → Nat} {F : Nat → Int32} {A : Nat → Nat → Int32} (hM : Mdl E w ma F A) {n : Nat} {X : Fx} {D : Dy} (hR : ModR n X D A) (hX : WfX n X) (hD : WfD n D) (hn : F 1 = nI n) {bi : Nat → Option Nat} (hB : BiR n X bi) {car e : Int32} {c : Nat} (hc0 : carI bi car = some c) (he : isE e = 0) : kx_S E Y_M_coupling [.ref (ma 0), .int car, .int e] w (MX E w ma (up1 F 0 (nI 1)) A (some (.int (nI 0)))) := by
  refine kx_go (by decide) rfl rfl (Nat.le_of_ble_eq_true rfl) (kx_cc rfl (kx_cc rfl (kx_cc rfl kx_c0))) (fun z => ?_)
  have hO : kx_off w w mdlN := kx_off.rf
  have h24 := hX.1
  have hc := hB.c hc0
  refine kx_aload_n d_M_coupling_0 rfl (by first | rfl | exact kx_rf _) ?_
  refine kx_iload_n d_M_coupling_1 rfl ?_
  refine kx_callV (as := [.int car]) (rest := []) d_M_coupling_2 v_M_97 rfl hM.1 rfl rfl (by decide) (by decide) (Nat.le_of_ble_eq_true rfl) (by decide) (by decide) rfl (m_M_findC hM hR hX hD hn hB hc0) (fun X w1 h => by cases h.1) (fun v w1 hq9 => ?_)
  obtain ⟨hv, hw9⟩ := hq9
  cases hv
  subst hw9
  refine kx_stk (st1 := [.int (nI c)]) rfl ?_
  refine kx_istore_n d_M_coupling_5 (by decide) ?_
  refine kx_aload_n d_M_coupling_6 rfl (by first | rfl | exact kx_rf _) ?_
  refine kx_iload_n d_M_coupling_7 rfl ?_
  refine kx_iconst (-1) d_M_coupling_8 (by decide) ?_
  refine kx_icmp_eq 23 d_M_coupling_9 (by decide) (fun h => absurd h (nI_m1 (by omega))) (fun _ => ?_)
  refine kx_iload_n d_M_coupling_12 rfl ?_
  refine kx_callS (as := [.int e]) (rest := [.ref (ma 0)]) d_M_coupling_13 s_M_115 rfl (by decide) (by decide) (Nat.le_of_ble_eq_true rfl) (by decide) (by decide) rfl (m_M_isEnd e) (fun X w1 h => by cases h.1) (fun v w1 hq9 => ?_)
  obtain ⟨hv, hw9⟩ := hq9
  cases hv
  subst hw9
  rw [he]
  refine kx_stk (st1 := [.int (nI 0), .ref (ma 0)]) rfl ?_
  refine kx_if_eq_n 23 d_M_coupling_16 (by decide) (by decide) (fun _ => ?_) (fun h => absurd rfl h)
  refine kx_iconst (nI 0) d_M_coupling_23 (by decide) ?_
  refine kx_iconst (nI 1) d_M_coupling_24 (by decide) ?_
  refine kx_iconst (nI 1) d_M_coupling_25 (by decide) ?_
  refine kx_callV (as := [.int (nI _), .int (nI _), .int (nI _)]) (rest := []) d_M_coupling_26 v_M_101 rfl hM.1 rfl rfl (by decide) (by decide) (Nat.le_of_ble_eq_true rfl) (by decide) (by decide) rfl (m_M_goes hM (by decide) (by decide) (by decide)) (fun X w1 h => by cases h.1) (fun v w hq9 => ?_)
  obtain ⟨hv, hM, hO9⟩ := hq9
  cases hv
  have hO := hO.tr hO9 (fun _ h => h) (fun _ h => h)
  refine kx_stk (st1 := [.int (nI 0)]) rfl ?_
  refine kx_if_ne_n 34 d_M_coupling_29 (by decide) (by decide) (fun h => absurd rfl h) (fun _ => ?_)
  refine kx_iconst (nI 0) d_M_coupling_32 (by decide) ?_
  refine kx_iret d_M_coupling_33 rfl (by decide) (by decide) ?_
  exact ⟨rfl, hM, hO⟩
theorem isE_i {i : Nat} (h : i < 2) : isE (nI i) = 1 := by
  have : i = 0 ∨ i = 1 := by omega
  rcases this with rfl | rfl
  · exact if_pos (Or.inl rfl)
  · exact if_pos (Or.inr rfl)
def couM (X : Fx) (p : Nat) : Int32 := match xLk X p with
  | none => -1
  | some _ => nI (xNu X p)
set_option maxRecDepth 20000 in
set_option maxHeartbeats 4000000 in
theorem m_M_coupling {E : kx_E} {w : va_W} {ma : Nat → Nat} {F : Nat → Int32} {A : Nat → Nat → Int32} (hM : Mdl E w ma F A) {n : Nat} {X : Fx} {D : Dy} (hR : ModR n X D A) (hX : WfX n X) (hD : WfD n D) (hn : F 1 = nI n) {bi : Nat → Option Nat} (hB : BiR n X bi) {car : Int32} {c i : Nat} (hc0 : carI bi car = some c) (hi : i < 2) : kx_S E Y_M_coupling [.ref (ma 0), .int car, .int (nI i)] w (MX E w ma (up1 F 0 (nI 0)) A (some (.int (couM X (2 * c + i))))) := by
  refine kx_go (by decide) rfl rfl (Nat.le_of_ble_eq_true rfl) (kx_cc rfl (kx_cc rfl (kx_cc rfl kx_c0))) (fun z => ?_)
  have hO : kx_off w w mdlN := kx_off.rf
  have h24 := hX.1
  have hc := hB.c hc0
  have hl := hR.lks (2 * c + i) (by omega)
  have hnu := hR.nus (2 * c + i) (by omega)
  unfold couM
  cases hk : xLk X (2 * c + i) with
  | none =>
    rw [hk] at hl
    have hl : A 2 (2 * c + i) = -1 := hl
    refine kx_aload_n d_M_coupling_0 rfl (by first | rfl | exact kx_rf _) ?_
    refine kx_iload_n d_M_coupling_1 rfl ?_
    refine kx_callV (as := [.int car]) (rest := []) d_M_coupling_2 v_M_97 rfl hM.1 rfl rfl (by decide) (by decide) (Nat.le_of_ble_eq_true rfl) (by decide) (by decide) rfl (m_M_findC hM hR hX hD hn hB hc0) (fun X w1 h => by cases h.1) (fun v w1 hq9 => ?_)
    obtain ⟨hv, hw9⟩ := hq9
    cases hv
    subst hw9
    refine kx_stk (st1 := [.int (nI c)]) rfl ?_
    refine kx_istore_n d_M_coupling_5 (by decide) ?_
    refine kx_aload_n d_M_coupling_6 rfl (by first | rfl | exact kx_rf _) ?_
    refine kx_iload_n d_M_coupling_7 rfl ?_
    refine kx_iconst (-1) d_M_coupling_8 (by decide) ?_
    refine kx_icmp_eq 23 d_M_coupling_9 (by decide) (fun h => absurd h (nI_m1 (by omega))) (fun _ => ?_)
    refine kx_iload_n d_M_coupling_12 rfl ?_
    refine kx_callS (as := [.int (nI i)]) (rest := [.ref (ma 0)]) d_M_coupling_13 s_M_115 rfl (by decide) (by decide) (Nat.le_of_ble_eq_true rfl) (by decide) (by decide) rfl (m_M_isEnd (nI i)) (fun X w1 h => by cases h.1) (fun v w1 hq9 => ?_)
    obtain ⟨hv, hw9⟩ := hq9
    cases hv
    subst hw9
    rw [isE_i hi]
    refine kx_stk (st1 := [.int (nI 1), .ref (ma 0)]) rfl ?_
    refine kx_if_eq_n 23 d_M_coupling_16 (by decide) (by decide) (fun h => absurd h (by decide)) (fun _ => ?_)
    refine kx_iconst (nI 1) d_M_coupling_19 (by decide) ?_
    refine kx_goto 24 d_M_coupling_20 (by decide) ?_
    refine kx_iconst (nI 1) d_M_coupling_24 (by decide) ?_
    refine kx_iconst (nI 1) d_M_coupling_25 (by decide) ?_
    refine kx_callV (as := [.int (nI _), .int (nI _), .int (nI _)]) (rest := []) d_M_coupling_26 v_M_101 rfl hM.1 rfl rfl (by decide) (by decide) (Nat.le_of_ble_eq_true rfl) (by decide) (by decide) rfl (m_M_goes hM (by decide) (by decide) (by decide)) (fun X w1 h => by cases h.1) (fun v w hq9 => ?_)
    obtain ⟨hv, hM, hO9⟩ := hq9
    cases hv
    have hO := hO.tr hO9 (fun _ h => h) (fun _ h => h)
    refine kx_stk (st1 := [.int (nI 1)]) rfl ?_
    refine kx_if_ne_n 34 d_M_coupling_29 (by decide) (by decide) (fun _ => ?_) (fun h => absurd h (by decide))
    refine kx_aload_n d_M_coupling_34 rfl (by first | rfl | exact kx_rf _) ?_
    refine kx_get _ d_M_coupling_35 f_M_16 hM.1 (by rfl) ?_
    refine kx_iconst (nI 2) d_M_coupling_38 (by decide) ?_
    refine kx_iload_n d_M_coupling_39 rfl ?_
    first | refine kx_imul _ d_M_coupling_40 (pk_mul _ _) ?_ | refine kx_imul _ d_M_coupling_40 rfl ?_
    refine kx_iload_n d_M_coupling_41 rfl ?_
    first | refine kx_iadd _ d_M_coupling_42 (nI_add _ _) ?_ | refine kx_iadd _ d_M_coupling_42 rfl ?_
    refine kx_iald d_M_coupling_43 hM.a2 (by omega) (by decide) ?_
    rw [hl]
    refine kx_iconst (-1) d_M_coupling_44 (by decide) ?_
    refine kx_icmp_ne 52 d_M_coupling_45 (by decide) (fun h => absurd rfl h) (fun _ => ?_)
    refine kx_iconst (-1) d_M_coupling_48 (by decide) ?_
    refine kx_goto 62 d_M_coupling_49 (by decide) ?_
    refine kx_iret d_M_coupling_62 rfl (by decide) (by decide) ?_
    exact ⟨rfl, hM, hO⟩
  | some q =>
    rw [hk] at hl
    have hl : A 2 (2 * c + i) = nI q := hl
    have hq := hX.lk (show 2 * c + i < 2 * n by omega) hk
    refine kx_aload_n d_M_coupling_0 rfl (by first | rfl | exact kx_rf _) ?_
    refine kx_iload_n d_M_coupling_1 rfl ?_
    refine kx_callV (as := [.int car]) (rest := []) d_M_coupling_2 v_M_97 rfl hM.1 rfl rfl (by decide) (by decide) (Nat.le_of_ble_eq_true rfl) (by decide) (by decide) rfl (m_M_findC hM hR hX hD hn hB hc0) (fun X w1 h => by cases h.1) (fun v w1 hq9 => ?_)
    obtain ⟨hv, hw9⟩ := hq9
    cases hv
    subst hw9
    refine kx_stk (st1 := [.int (nI c)]) rfl ?_
    refine kx_istore_n d_M_coupling_5 (by decide) ?_
    refine kx_aload_n d_M_coupling_6 rfl (by first | rfl | exact kx_rf _) ?_
    refine kx_iload_n d_M_coupling_7 rfl ?_
    refine kx_iconst (-1) d_M_coupling_8 (by decide) ?_
    refine kx_icmp_eq 23 d_M_coupling_9 (by decide) (fun h => absurd h (nI_m1 (by omega))) (fun _ => ?_)
    refine kx_iload_n d_M_coupling_12 rfl ?_
    refine kx_callS (as := [.int (nI i)]) (rest := [.ref (ma 0)]) d_M_coupling_13 s_M_115 rfl (by decide) (by decide) (Nat.le_of_ble_eq_true rfl) (by decide) (by decide) rfl (m_M_isEnd (nI i)) (fun X w1 h => by cases h.1) (fun v w1 hq9 => ?_)
    obtain ⟨hv, hw9⟩ := hq9
    cases hv
    subst hw9
    rw [isE_i hi]
    refine kx_stk (st1 := [.int (nI 1), .ref (ma 0)]) rfl ?_
    refine kx_if_eq_n 23 d_M_coupling_16 (by decide) (by decide) (fun h => absurd h (by decide)) (fun _ => ?_)
    refine kx_iconst (nI 1) d_M_coupling_19 (by decide) ?_
    refine kx_goto 24 d_M_coupling_20 (by decide) ?_
    refine kx_iconst (nI 1) d_M_coupling_24 (by decide) ?_
    refine kx_iconst (nI 1) d_M_coupling_25 (by decide) ?_
    refine kx_callV (as := [.int (nI _), .int (nI _), .int (nI _)]) (rest := []) d_M_coupling_26 v_M_101 rfl hM.1 rfl rfl (by decide) (by decide) (Nat.le_of_ble_eq_true rfl) (by decide) (by decide) rfl (m_M_goes hM (by decide) (by decide) (by decide)) (fun X w1 h => by cases h.1) (fun v w hq9 => ?_)
    obtain ⟨hv, hM, hO9⟩ := hq9
    cases hv
    have hO := hO.tr hO9 (fun _ h => h) (fun _ h => h)
    refine kx_stk (st1 := [.int (nI 1)]) rfl ?_
    refine kx_if_ne_n 34 d_M_coupling_29 (by decide) (by decide) (fun _ => ?_) (fun h => absurd h (by decide))
    refine kx_aload_n d_M_coupling_34 rfl (by first | rfl | exact kx_rf _) ?_
    refine kx_get _ d_M_coupling_35 f_M_16 hM.1 (by rfl) ?_
    refine kx_iconst (nI 2) d_M_coupling_38 (by decide) ?_
    refine kx_iload_n d_M_coupling_39 rfl ?_
    first | refine kx_imul _ d_M_coupling_40 (pk_mul _ _) ?_ | refine kx_imul _ d_M_coupling_40 rfl ?_
    refine kx_iload_n d_M_coupling_41 rfl ?_
    first | refine kx_iadd _ d_M_coupling_42 (nI_add _ _) ?_ | refine kx_iadd _ d_M_coupling_42 rfl ?_
    refine kx_iald d_M_coupling_43 hM.a2 (by omega) (by decide) ?_
    rw [hl]
    refine kx_iconst (-1) d_M_coupling_44 (by decide) ?_
    refine kx_icmp_ne 52 d_M_coupling_45 (by decide) (fun _ => ?_) (fun h => absurd h (nI_m1 (by omega)))
    refine kx_aload_n d_M_coupling_52 rfl (by first | rfl | exact kx_rf _) ?_
    refine kx_get _ d_M_coupling_53 f_M_19 hM.1 (by rfl) ?_
    refine kx_iconst (nI 2) d_M_coupling_56 (by decide) ?_
    refine kx_iload_n d_M_coupling_57 rfl ?_
    first | refine kx_imul _ d_M_coupling_58 (pk_mul _ _) ?_ | refine kx_imul _ d_M_coupling_58 rfl ?_
    refine kx_iload_n d_M_coupling_59 rfl ?_
    first | refine kx_iadd _ d_M_coupling_60 (nI_add _ _) ?_ | refine kx_iadd _ d_M_coupling_60 rfl ?_
    refine kx_iald d_M_coupling_61 hM.a3 (by omega) (by decide) ?_
    rw [hnu q hk]
    refine kx_iret d_M_coupling_62 rfl (by decide) (by decide) ?_
    exact ⟨rfl, hM, hO⟩
theorem d_M_directory_0 : decode c_M_directory 0 = .ok (.aload_n 0, 1) := by decide +kernel
theorem d_M_directory_1 : decode c_M_directory 1 = .ok (.iload_n 1, 1) := by decide +kernel
theorem d_M_directory_2 : decode c_M_directory 2 = .ok (.invokevirtual 97, 3) := by decide +kernel
theorem d_M_directory_5 : decode c_M_directory 5 = .ok (.istore_n 3, 1) := by decide +kernel
theorem d_M_directory_6 : decode c_M_directory 6 = .ok (.aload_n 0, 1) := by decide +kernel
theorem d_M_directory_7 : decode c_M_directory 7 = .ok (.iload_n 3, 1) := by decide +kernel
theorem d_M_directory_8 : decode c_M_directory 8 = .ok (.iconst (-1), 1) := by decide +kernel
theorem d_M_directory_9 : decode c_M_directory 9 = .ok (.if_icmp .eq 7, 3) := by decide +kernel
theorem d_M_directory_12 : decode c_M_directory 12 = .ok (.iconst 1, 1) := by decide +kernel
theorem d_M_directory_13 : decode c_M_directory 13 = .ok (.goto 4, 3) := by decide +kernel
theorem d_M_directory_16 : decode c_M_directory 16 = .ok (.iconst 0, 1) := by decide +kernel
theorem d_M_directory_17 : decode c_M_directory 17 = .ok (.iconst 1, 1) := by decide +kernel
theorem d_M_directory_18 : decode c_M_directory 18 = .ok (.iconst 1, 1) := by decide +kernel
theorem d_M_directory_19 : decode c_M_directory 19 = .ok (.invokevirtual 101, 3) := by decide +kernel
theorem d_M_directory_22 : decode c_M_directory 22 = .ok (.ifCond .ne 5, 3) := by decide +kernel
theorem d_M_directory_25 : decode c_M_directory 25 = .ok (.iconst 0, 1) := by decide +kernel
theorem d_M_directory_26 : decode c_M_directory 26 = .ok (.ireturn, 1) := by decide +kernel
theorem d_M_directory_27 : decode c_M_directory 27 = .ok (.iload_n 2, 1) := by decide +kernel
theorem d_M_directory_28 : decode c_M_directory 28 = .ok (.iconst 1, 1) := by decide +kernel
theorem d_M_directory_29 : decode c_M_directory 29 = .ok (.if_icmp .lt 13, 3) := by decide +kernel
theorem d_M_directory_32 : decode c_M_directory 32 = .ok (.iload_n 2, 1) := by decide +kernel
theorem d_M_directory_33 : decode c_M_directory 33 = .ok (.aload_n 0, 1) := by decide +kernel
theorem d_M_directory_34 : decode c_M_directory 34 = .ok (.getfield 41, 3) := by decide +kernel
theorem d_M_directory_37 : decode c_M_directory 37 = .ok (.iload_n 3, 1) := by decide +kernel
theorem d_M_directory_38 : decode c_M_directory 38 = .ok (.iaload, 1) := by decide +kernel
theorem d_M_directory_39 : decode c_M_directory 39 = .ok (.if_icmp .le 7, 3) := by decide +kernel
theorem d_M_directory_42 : decode c_M_directory 42 = .ok (.iconst (-1), 1) := by decide +kernel
theorem d_M_directory_43 : decode c_M_directory 43 = .ok (.goto 23, 3) := by decide +kernel
theorem d_M_directory_46 : decode c_M_directory 46 = .ok (.aload_n 0, 1) := by decide +kernel
theorem d_M_directory_47 : decode c_M_directory 47 = .ok (.getfield 7, 3) := by decide +kernel
theorem d_M_directory_50 : decode c_M_directory 50 = .ok (.aload_n 0, 1) := by decide +kernel
theorem d_M_directory_51 : decode c_M_directory 51 = .ok (.getfield 38, 3) := by decide +kernel
theorem d_M_directory_54 : decode c_M_directory 54 = .ok (.bipush 24, 2) := by decide +kernel
theorem d_M_directory_56 : decode c_M_directory 56 = .ok (.iload_n 3, 1) := by decide +kernel
theorem d_M_directory_57 : decode c_M_directory 57 = .ok (.imul, 1) := by decide +kernel
theorem d_M_directory_58 : decode c_M_directory 58 = .ok (.iload_n 2, 1) := by decide +kernel
theorem d_M_directory_59 : decode c_M_directory 59 = .ok (.iadd, 1) := by decide +kernel
theorem d_M_directory_60 : decode c_M_directory 60 = .ok (.iconst 1, 1) := by decide +kernel
theorem d_M_directory_61 : decode c_M_directory 61 = .ok (.isub, 1) := by decide +kernel
theorem d_M_directory_62 : decode c_M_directory 62 = .ok (.iaload, 1) := by decide +kernel
theorem d_M_directory_63 : decode c_M_directory 63 = .ok (.iconst 2, 1) := by decide +kernel
theorem d_M_directory_64 : decode c_M_directory 64 = .ok (.idiv, 1) := by decide +kernel
theorem d_M_directory_65 : decode c_M_directory 65 = .ok (.iaload, 1) := by decide +kernel
theorem d_M_directory_66 : decode c_M_directory 66 = .ok (.ireturn, 1) := by decide +kernel
set_option maxRecDepth 20000 in
set_option maxHeartbeats 4000000 in
theorem m_M_directory_no {E : kx_E} {w : va_W} {ma : Nat → Nat} {F : Nat → Int32} {A : Nat → Nat → Int32} (hM : Mdl E w ma F A) {n : Nat} {X : Fx} {D : Dy} (hR : ModR n X D A) (hX : WfX n X) (hD : WfD n D) (hn : F 1 = nI n) {bi : Nat → Option Nat} (hB : BiR n X bi) {car v : Int32} (hc0 : carI bi car = none) : kx_S E Y_M_directory [.ref (ma 0), .int car, .int v] w (MX E w ma (up1 F 0 (nI 1)) A (some (.int (nI 0)))) := by
  refine kx_go (by decide) rfl rfl (Nat.le_of_ble_eq_true rfl) (kx_cc rfl (kx_cc rfl (kx_cc rfl kx_c0))) (fun z => ?_)
  have hO : kx_off w w mdlN := kx_off.rf
  have h24 := hX.1
  refine kx_aload_n d_M_directory_0 rfl (by first | rfl | exact kx_rf _) ?_
  refine kx_iload_n d_M_directory_1 rfl ?_
  refine kx_callV (as := [.int car]) (rest := []) d_M_directory_2 v_M_97 rfl hM.1 rfl rfl (by decide) (by decide) (Nat.le_of_ble_eq_true rfl) (by decide) (by decide) rfl (m_M_findN hM hR hX hD hn hB hc0) (fun X w1 h => by cases h.1) (fun v w1 hq9 => ?_)
  obtain ⟨hv, hw9⟩ := hq9
  cases hv
  subst hw9
  refine kx_stk (st1 := [.int (-1)]) rfl ?_
  refine kx_istore_n d_M_directory_5 (by decide) ?_
  refine kx_aload_n d_M_directory_6 rfl (by first | rfl | exact kx_rf _) ?_
  refine kx_iload_n d_M_directory_7 rfl ?_
  refine kx_iconst (-1) d_M_directory_8 (by decide) ?_
  refine kx_icmp_eq 16 d_M_directory_9 (by decide) (fun _ => ?_) (fun h => absurd rfl h)
  refine kx_iconst (nI 0) d_M_directory_16 (by decide) ?_
  refine kx_iconst (nI 1) d_M_directory_17 (by decide) ?_
  refine kx_iconst (nI 1) d_M_directory_18 (by decide) ?_
  refine kx_callV (as := [.int (nI _), .int (nI _), .int (nI _)]) (rest := []) d_M_directory_19 v_M_101 rfl hM.1 rfl rfl (by decide) (by decide) (Nat.le_of_ble_eq_true rfl) (by decide) (by decide) rfl (m_M_goes hM (by decide) (by decide) (by decide)) (fun X w1 h => by cases h.1) (fun v w hq9 => ?_)
  obtain ⟨hv, hM, hO9⟩ := hq9
  cases hv
  have hO := hO.tr hO9 (fun _ h => h) (fun _ h => h)
  refine kx_stk (st1 := [.int (nI 0)]) rfl ?_
  refine kx_if_ne_n 27 d_M_directory_22 (by decide) (by decide) (fun h => absurd rfl h) (fun _ => ?_)
  refine kx_iconst (nI 0) d_M_directory_25 (by decide) ?_
  refine kx_iret d_M_directory_26 rfl (by decide) (by decide) ?_
  exact ⟨rfl, hM, hO⟩
set_option maxRecDepth 20000 in
set_option maxHeartbeats 4000000 in
theorem m_M_directory {E : kx_E} {w : va_W} {ma : Nat → Nat} {F : Nat → Int32} {A : Nat → Nat → Int32} (hM : Mdl E w ma F A) {n : Nat} {X : Fx} {D : Dy} (hR : ModR n X D A) (hX : WfX n X) (hD : WfD n D) (hn : F 1 = nI n) {bi : Nat → Option Nat} (hB : BiR n X bi) {car : Int32} {c j : Nat} (hc0 : carI bi car = some c) (hj : j < (dDi D c).length) : kx_S E Y_M_directory [.ref (ma 0), .int car, .int (nI (j + 1))] w (MX E w ma (up1 F 0 (nI 0)) A (some (.int (nI (xId X ((dDi D c).getD j 0 / 2)))))) := by
  refine kx_go (by decide) rfl rfl (Nat.le_of_ble_eq_true rfl) (kx_cc rfl (kx_cc rfl (kx_cc rfl kx_c0))) (fun z => ?_)
  have hO : kx_off w w mdlN := kx_off.rf
  have h24 := hX.1
  have hc := hB.c hc0
  have hd := hR.dis c hc
  have bd := (hD.2.2 c hc).1
  have bd24 := bd.1
  have hb := bd.get hj
  refine kx_aload_n d_M_directory_0 rfl (by first | rfl | exact kx_rf _) ?_
  refine kx_iload_n d_M_directory_1 rfl ?_
  refine kx_callV (as := [.int car]) (rest := []) d_M_directory_2 v_M_97 rfl hM.1 rfl rfl (by decide) (by decide) (Nat.le_of_ble_eq_true rfl) (by decide) (by decide) rfl (m_M_findC hM hR hX hD hn hB hc0) (fun X w1 h => by cases h.1) (fun v w1 hq9 => ?_)
  obtain ⟨hv, hw9⟩ := hq9
  cases hv
  subst hw9
  refine kx_stk (st1 := [.int (nI c)]) rfl ?_
  refine kx_istore_n d_M_directory_5 (by decide) ?_
  refine kx_aload_n d_M_directory_6 rfl (by first | rfl | exact kx_rf _) ?_
  refine kx_iload_n d_M_directory_7 rfl ?_
  refine kx_iconst (-1) d_M_directory_8 (by decide) ?_
  refine kx_icmp_eq 16 d_M_directory_9 (by decide) (fun h => absurd h (nI_m1 (by omega))) (fun _ => ?_)
  refine kx_iconst (nI 1) d_M_directory_12 (by decide) ?_
  refine kx_goto 17 d_M_directory_13 (by decide) ?_
  refine kx_iconst (nI 1) d_M_directory_17 (by decide) ?_
  refine kx_iconst (nI 1) d_M_directory_18 (by decide) ?_
  refine kx_callV (as := [.int (nI _), .int (nI _), .int (nI _)]) (rest := []) d_M_directory_19 v_M_101 rfl hM.1 rfl rfl (by decide) (by decide) (Nat.le_of_ble_eq_true rfl) (by decide) (by decide) rfl (m_M_goes hM (by decide) (by decide) (by decide)) (fun X w1 h => by cases h.1) (fun v w hq9 => ?_)
  obtain ⟨hv, hM, hO9⟩ := hq9
  cases hv
  have hO := hO.tr hO9 (fun _ h => h) (fun _ h => h)
  refine kx_stk (st1 := [.int (nI 1)]) rfl ?_
  refine kx_if_ne_n 27 d_M_directory_22 (by decide) (by decide) (fun _ => ?_) (fun h => absurd h (by decide))
  refine kx_iload_n d_M_directory_27 rfl ?_
  refine kx_iconst (nI 1) d_M_directory_28 (by decide) ?_
  first | refine kx_icmp_lt_n 42 d_M_directory_29 (by decide) (by omega) (by omega) ?_ ?_ | refine kx_icmp_lt 42 d_M_directory_29 (by decide) ?_ ?_
  · intro h29
    first
      | exact absurd h29 (by omega)
      | exact absurd h39 (by omega)
  · intro h29
    refine kx_iload_n d_M_directory_32 rfl ?_
    refine kx_aload_n d_M_directory_33 rfl (by first | rfl | exact kx_rf _) ?_
    refine kx_get _ d_M_directory_34 f_M_41 hM.1 (by rfl) ?_
    refine kx_iload_n d_M_directory_37 rfl ?_
    refine kx_iald d_M_directory_38 hM.a10 (by omega) (by decide) ?_
    rw [hd.1]
    first | refine kx_icmp_le_n 46 d_M_directory_39 (by decide) (by omega) (by omega) ?_ ?_ | refine kx_icmp_le 46 d_M_directory_39 (by decide) ?_ ?_
    · intro h39
      refine kx_aload_n d_M_directory_46 rfl (by first | rfl | exact kx_rf _) ?_
      refine kx_get _ d_M_directory_47 f_M_7 hM.1 (by rfl) ?_
      refine kx_aload_n d_M_directory_50 rfl (by first | rfl | exact kx_rf _) ?_
      refine kx_get _ d_M_directory_51 f_M_38 hM.1 (by rfl) ?_
      refine kx_bipush (nI 24) d_M_directory_54 (by decide) ?_
      refine kx_iload_n d_M_directory_56 rfl ?_
      first | refine kx_imul _ d_M_directory_57 (pk_mul _ _) ?_ | refine kx_imul _ d_M_directory_57 rfl ?_
      refine kx_iload_n d_M_directory_58 rfl ?_
      first | refine kx_iadd _ d_M_directory_59 (nI_add _ _) ?_ | refine kx_iadd _ d_M_directory_59 rfl ?_
      refine kx_iconst (nI 1) d_M_directory_60 (by decide) ?_
      refine kx_isub _ d_M_directory_61 (pk_sub (by omega)) ?_
      refine kx_iald d_M_directory_62 hM.a9 (by omega) (by decide) ?_
      rw [show 24 * c + (j + 1) - 1 = 24 * c + j by omega, hd.2 j hj]
      refine kx_iconst (nI 2) d_M_directory_63 (by decide) ?_
      refine kx_idiv _ d_M_directory_64 (by decide) (pk_div (by omega) (by omega) (by omega)) ?_
      refine kx_iald d_M_directory_65 hM.a0 (by omega) (by decide) ?_
      rw [hR.ids _ (by omega)]
      refine kx_iret d_M_directory_66 rfl (by decide) (by decide) ?_
      exact ⟨rfl, hM, hO⟩
    · intro h39
      first
        | exact absurd h29 (by omega)
        | exact absurd h39 (by omega)
set_option maxRecDepth 20000 in
set_option maxHeartbeats 4000000 in
theorem m_M_directory_out {E : kx_E} {w : va_W} {ma : Nat → Nat} {F : Nat → Int32} {A : Nat → Nat → Int32} (hM : Mdl E w ma F A) {n : Nat} {X : Fx} {D : Dy} (hR : ModR n X D A) (hX : WfX n X) (hD : WfD n D) (hn : F 1 = nI n) {bi : Nat → Option Nat} (hB : BiR n X bi) {car v : Int32} {c : Nat} (hc0 : carI bi car = some c) (hj : v < nI 1 ∨ nI (dDi D c).length < v) : kx_S E Y_M_directory [.ref (ma 0), .int car, .int v] w (MX E w ma (up1 F 0 (nI 0)) A (some (.int (-1)))) := by
  refine kx_go (by decide) rfl rfl (Nat.le_of_ble_eq_true rfl) (kx_cc rfl (kx_cc rfl (kx_cc rfl kx_c0))) (fun z => ?_)
  have hO : kx_off w w mdlN := kx_off.rf
  have h24 := hX.1
  have hc := hB.c hc0
  have hd := hR.dis c hc
  have bd := (hD.2.2 c hc).1
  have bd24 := bd.1
  refine kx_aload_n d_M_directory_0 rfl (by first | rfl | exact kx_rf _) ?_
  refine kx_iload_n d_M_directory_1 rfl ?_
  refine kx_callV (as := [.int car]) (rest := []) d_M_directory_2 v_M_97 rfl hM.1 rfl rfl (by decide) (by decide) (Nat.le_of_ble_eq_true rfl) (by decide) (by decide) rfl (m_M_findC hM hR hX hD hn hB hc0) (fun X w1 h => by cases h.1) (fun v w1 hq9 => ?_)
  obtain ⟨hv, hw9⟩ := hq9
  cases hv
  subst hw9
  refine kx_stk (st1 := [.int (nI c)]) rfl ?_
  refine kx_istore_n d_M_directory_5 (by decide) ?_
  refine kx_aload_n d_M_directory_6 rfl (by first | rfl | exact kx_rf _) ?_
  refine kx_iload_n d_M_directory_7 rfl ?_
  refine kx_iconst (-1) d_M_directory_8 (by decide) ?_
  refine kx_icmp_eq 16 d_M_directory_9 (by decide) (fun h => absurd h (nI_m1 (by omega))) (fun _ => ?_)
  refine kx_iconst (nI 1) d_M_directory_12 (by decide) ?_
  refine kx_goto 17 d_M_directory_13 (by decide) ?_
  refine kx_iconst (nI 1) d_M_directory_17 (by decide) ?_
  refine kx_iconst (nI 1) d_M_directory_18 (by decide) ?_
  refine kx_callV (as := [.int (nI _), .int (nI _), .int (nI _)]) (rest := []) d_M_directory_19 v_M_101 rfl hM.1 rfl rfl (by decide) (by decide) (Nat.le_of_ble_eq_true rfl) (by decide) (by decide) rfl (m_M_goes hM (by decide) (by decide) (by decide)) (fun X w1 h => by cases h.1) (fun v w hq9 => ?_)
  obtain ⟨hv, hM, hO9⟩ := hq9
  cases hv
  have hO := hO.tr hO9 (fun _ h => h) (fun _ h => h)
  refine kx_stk (st1 := [.int (nI 1)]) rfl ?_
  refine kx_if_ne_n 27 d_M_directory_22 (by decide) (by decide) (fun _ => ?_) (fun h => absurd h (by decide))
  refine kx_iload_n d_M_directory_27 rfl ?_
  refine kx_iconst (nI 1) d_M_directory_28 (by decide) ?_
  refine kx_icmp_lt 42 d_M_directory_29 (by decide) ?_ ?_
  · intro h29
    refine kx_iconst (-1) d_M_directory_42 (by decide) ?_
    refine kx_goto 66 d_M_directory_43 (by decide) ?_
    refine kx_iret d_M_directory_66 rfl (by decide) (by decide) ?_
    exact ⟨rfl, hM, hO⟩
  · intro h29
    refine kx_iload_n d_M_directory_32 rfl ?_
    refine kx_aload_n d_M_directory_33 rfl (by first | rfl | exact kx_rf _) ?_
    refine kx_get _ d_M_directory_34 f_M_41 hM.1 (by rfl) ?_
    refine kx_iload_n d_M_directory_37 rfl ?_
    refine kx_iald d_M_directory_38 hM.a10 (by omega) (by decide) ?_
    rw [hd.1]
    refine kx_icmp_le 46 d_M_directory_39 (by decide) ?_ ?_
    · intro h39
      exact absurd hj (by rintro (h | h); exact h29 h; exact absurd h39 (i32_nle.mpr h))
    · intro h39
      refine kx_iconst (-1) d_M_directory_42 (by decide) ?_
      refine kx_goto 66 d_M_directory_43 (by decide) ?_
      refine kx_iret d_M_directory_66 rfl (by decide) (by decide) ?_
      exact ⟨rfl, hM, hO⟩
theorem d_M_view_0 : decode c_M_view 0 = .ok (.aload_n 0, 1) := by decide +kernel
theorem d_M_view_1 : decode c_M_view 1 = .ok (.iload_n 1, 1) := by decide +kernel
theorem d_M_view_2 : decode c_M_view 2 = .ok (.invokevirtual 97, 3) := by decide +kernel
theorem d_M_view_5 : decode c_M_view 5 = .ok (.istore 4, 2) := by decide +kernel
theorem d_M_view_7 : decode c_M_view 7 = .ok (.aload_n 0, 1) := by decide +kernel
theorem d_M_view_8 : decode c_M_view 8 = .ok (.iload 4, 2) := by decide +kernel
theorem d_M_view_10 : decode c_M_view 10 = .ok (.iconst (-1), 1) := by decide +kernel
theorem d_M_view_11 : decode c_M_view 11 = .ok (.if_icmp .eq 14, 3) := by decide +kernel
theorem d_M_view_14 : decode c_M_view 14 = .ok (.iload_n 2, 1) := by decide +kernel
theorem d_M_view_15 : decode c_M_view 15 = .ok (.invokestatic 115, 3) := by decide +kernel
theorem d_M_view_18 : decode c_M_view 18 = .ok (.ifCond .eq 7, 3) := by decide +kernel
theorem d_M_view_21 : decode c_M_view 21 = .ok (.iconst 1, 1) := by decide +kernel
theorem d_M_view_22 : decode c_M_view 22 = .ok (.goto 4, 3) := by decide +kernel
theorem d_M_view_25 : decode c_M_view 25 = .ok (.iconst 0, 1) := by decide +kernel
theorem d_M_view_26 : decode c_M_view 26 = .ok (.iconst 1, 1) := by decide +kernel
theorem d_M_view_27 : decode c_M_view 27 = .ok (.iconst 1, 1) := by decide +kernel
theorem d_M_view_28 : decode c_M_view 28 = .ok (.invokevirtual 101, 3) := by decide +kernel
theorem d_M_view_31 : decode c_M_view 31 = .ok (.ifCond .ne 5, 3) := by decide +kernel
theorem d_M_view_34 : decode c_M_view 34 = .ok (.iconst 0, 1) := by decide +kernel
theorem d_M_view_35 : decode c_M_view 35 = .ok (.ireturn, 1) := by decide +kernel
theorem d_M_view_36 : decode c_M_view 36 = .ok (.iconst 2, 1) := by decide +kernel
theorem d_M_view_37 : decode c_M_view 37 = .ok (.iload 4, 2) := by decide +kernel
theorem d_M_view_39 : decode c_M_view 39 = .ok (.imul, 1) := by decide +kernel
theorem d_M_view_40 : decode c_M_view 40 = .ok (.iload_n 2, 1) := by decide +kernel
theorem d_M_view_41 : decode c_M_view 41 = .ok (.iadd, 1) := by decide +kernel
theorem d_M_view_42 : decode c_M_view 42 = .ok (.istore 5, 2) := by decide +kernel
theorem d_M_view_44 : decode c_M_view 44 = .ok (.iload_n 3, 1) := by decide +kernel
theorem d_M_view_45 : decode c_M_view 45 = .ok (.ifCond .lt 14, 3) := by decide +kernel
theorem d_M_view_48 : decode c_M_view 48 = .ok (.iload_n 3, 1) := by decide +kernel
theorem d_M_view_49 : decode c_M_view 49 = .ok (.aload_n 0, 1) := by decide +kernel
theorem d_M_view_50 : decode c_M_view 50 = .ok (.getfield 29, 3) := by decide +kernel
theorem d_M_view_53 : decode c_M_view 53 = .ok (.iload 5, 2) := by decide +kernel
theorem d_M_view_55 : decode c_M_view 55 = .ok (.iaload, 1) := by decide +kernel
theorem d_M_view_56 : decode c_M_view 56 = .ok (.if_icmp .lt 7, 3) := by decide +kernel
theorem d_M_view_59 : decode c_M_view 59 = .ok (.iconst (-1), 1) := by decide +kernel
theorem d_M_view_60 : decode c_M_view 60 = .ok (.goto 39, 3) := by decide +kernel
theorem d_M_view_63 : decode c_M_view 63 = .ok (.iconst 2, 1) := by decide +kernel
theorem d_M_view_64 : decode c_M_view 64 = .ok (.aload_n 0, 1) := by decide +kernel
theorem d_M_view_65 : decode c_M_view 65 = .ok (.getfield 7, 3) := by decide +kernel
theorem d_M_view_68 : decode c_M_view 68 = .ok (.aload_n 0, 1) := by decide +kernel
theorem d_M_view_69 : decode c_M_view 69 = .ok (.getfield 26, 3) := by decide +kernel
theorem d_M_view_72 : decode c_M_view 72 = .ok (.bipush 24, 2) := by decide +kernel
theorem d_M_view_74 : decode c_M_view 74 = .ok (.iload 5, 2) := by decide +kernel
theorem d_M_view_76 : decode c_M_view 76 = .ok (.imul, 1) := by decide +kernel
theorem d_M_view_77 : decode c_M_view 77 = .ok (.iload_n 3, 1) := by decide +kernel
theorem d_M_view_78 : decode c_M_view 78 = .ok (.iadd, 1) := by decide +kernel
theorem d_M_view_79 : decode c_M_view 79 = .ok (.iaload, 1) := by decide +kernel
theorem d_M_view_80 : decode c_M_view 80 = .ok (.iconst 2, 1) := by decide +kernel
theorem d_M_view_81 : decode c_M_view 81 = .ok (.idiv, 1) := by decide +kernel
theorem d_M_view_82 : decode c_M_view 82 = .ok (.iaload, 1) := by decide +kernel
theorem d_M_view_83 : decode c_M_view 83 = .ok (.imul, 1) := by decide +kernel
theorem d_M_view_84 : decode c_M_view 84 = .ok (.aload_n 0, 1) := by decide +kernel
theorem d_M_view_85 : decode c_M_view 85 = .ok (.getfield 26, 3) := by decide +kernel
theorem d_M_view_88 : decode c_M_view 88 = .ok (.bipush 24, 2) := by decide +kernel
theorem d_M_view_90 : decode c_M_view 90 = .ok (.iload 5, 2) := by decide +kernel
theorem d_M_view_92 : decode c_M_view 92 = .ok (.imul, 1) := by decide +kernel
theorem d_M_view_93 : decode c_M_view 93 = .ok (.iload_n 3, 1) := by decide +kernel
theorem d_M_view_94 : decode c_M_view 94 = .ok (.iadd, 1) := by decide +kernel
theorem d_M_view_95 : decode c_M_view 95 = .ok (.iaload, 1) := by decide +kernel
theorem d_M_view_96 : decode c_M_view 96 = .ok (.iconst 2, 1) := by decide +kernel
theorem d_M_view_97 : decode c_M_view 97 = .ok (.irem, 1) := by decide +kernel
theorem d_M_view_98 : decode c_M_view 98 = .ok (.iadd, 1) := by decide +kernel
theorem d_M_view_99 : decode c_M_view 99 = .ok (.ireturn, 1) := by decide +kernel
set_option maxRecDepth 20000 in
set_option maxHeartbeats 4000000 in
theorem m_M_view_no {E : kx_E} {w : va_W} {ma : Nat → Nat} {F : Nat → Int32} {A : Nat → Nat → Int32} (hM : Mdl E w ma F A) {n : Nat} {X : Fx} {D : Dy} (hR : ModR n X D A) (hX : WfX n X) (hD : WfD n D) (hn : F 1 = nI n) {bi : Nat → Option Nat} (hB : BiR n X bi) {car e v : Int32} (hc0 : carI bi car = none) : kx_S E Y_M_view [.ref (ma 0), .int car, .int e, .int v] w (MX E w ma (up1 F 0 (nI 1)) A (some (.int (nI 0)))) := by
  refine kx_go (by decide) rfl rfl (Nat.le_of_ble_eq_true rfl) (kx_cc rfl (kx_cc rfl (kx_cc rfl (kx_cc rfl kx_c0)))) (fun z => ?_)
  have hO : kx_off w w mdlN := kx_off.rf
  have h24 := hX.1
  refine kx_aload_n d_M_view_0 rfl (by first | rfl | exact kx_rf _) ?_
  refine kx_iload_n d_M_view_1 rfl ?_
  refine kx_callV (as := [.int car]) (rest := []) d_M_view_2 v_M_97 rfl hM.1 rfl rfl (by decide) (by decide) (Nat.le_of_ble_eq_true rfl) (by decide) (by decide) rfl (m_M_findN hM hR hX hD hn hB hc0) (fun X w1 h => by cases h.1) (fun v w1 hq9 => ?_)
  obtain ⟨hv, hw9⟩ := hq9
  cases hv
  subst hw9
  refine kx_stk (st1 := [.int (-1)]) rfl ?_
  refine kx_istore d_M_view_5 (by decide) ?_
  refine kx_aload_n d_M_view_7 rfl (by first | rfl | exact kx_rf _) ?_
  refine kx_iload d_M_view_8 rfl ?_
  refine kx_iconst (-1) d_M_view_10 (by decide) ?_
  refine kx_icmp_eq 25 d_M_view_11 (by decide) (fun _ => ?_) (fun h => absurd rfl h)
  refine kx_iconst (nI 0) d_M_view_25 (by decide) ?_
  refine kx_iconst (nI 1) d_M_view_26 (by decide) ?_
  refine kx_iconst (nI 1) d_M_view_27 (by decide) ?_
  refine kx_callV (as := [.int (nI _), .int (nI _), .int (nI _)]) (rest := []) d_M_view_28 v_M_101 rfl hM.1 rfl rfl (by decide) (by decide) (Nat.le_of_ble_eq_true rfl) (by decide) (by decide) rfl (m_M_goes hM (by decide) (by decide) (by decide)) (fun X w1 h => by cases h.1) (fun v w hq9 => ?_)
  obtain ⟨hv, hM, hO9⟩ := hq9
  cases hv
  have hO := hO.tr hO9 (fun _ h => h) (fun _ h => h)
  refine kx_stk (st1 := [.int (nI 0)]) rfl ?_
  refine kx_if_ne_n 36 d_M_view_31 (by decide) (by decide) (fun h => absurd rfl h) (fun _ => ?_)
  refine kx_iconst (nI 0) d_M_view_34 (by decide) ?_
  refine kx_iret d_M_view_35 rfl (by decide) (by decide) ?_
  exact ⟨rfl, hM, hO⟩
set_option maxRecDepth 20000 in
set_option maxHeartbeats 4000000 in
theorem m_M_view_ne {E : kx_E} {w : va_W} {ma : Nat → Nat} {F : Nat → Int32} {A : Nat → Nat → Int32} (hM : Mdl E w ma F A) {n : Nat} {X : Fx} {D : Dy} (hR : ModR n X D A) (hX : WfX n X) (hD : WfD n D) (hn : F 1 = nI n) {bi : Nat → Option Nat} (hB : BiR n X bi) {car e v : Int32} {c : Nat} (hc0 : carI bi car = some c) (he : isE e = 0) : kx_S E Y_M_view [.ref (ma 0), .int car, .int e, .int v] w (MX E w ma (up1 F 0 (nI 1)) A (some (.int (nI 0)))) := by
  refine kx_go (by decide) rfl rfl (Nat.le_of_ble_eq_true rfl) (kx_cc rfl (kx_cc rfl (kx_cc rfl (kx_cc rfl kx_c0)))) (fun z => ?_)
  have hO : kx_off w w mdlN := kx_off.rf
  have h24 := hX.1
  have hc := hB.c hc0
  refine kx_aload_n d_M_view_0 rfl (by first | rfl | exact kx_rf _) ?_
  refine kx_iload_n d_M_view_1 rfl ?_
  refine kx_callV (as := [.int car]) (rest := []) d_M_view_2 v_M_97 rfl hM.1 rfl rfl (by decide) (by decide) (Nat.le_of_ble_eq_true rfl) (by decide) (by decide) rfl (m_M_findC hM hR hX hD hn hB hc0) (fun X w1 h => by cases h.1) (fun v w1 hq9 => ?_)
  obtain ⟨hv, hw9⟩ := hq9
  cases hv
  subst hw9
  refine kx_stk (st1 := [.int (nI c)]) rfl ?_
  refine kx_istore d_M_view_5 (by decide) ?_
  refine kx_aload_n d_M_view_7 rfl (by first | rfl | exact kx_rf _) ?_
  refine kx_iload d_M_view_8 rfl ?_
  refine kx_iconst (-1) d_M_view_10 (by decide) ?_
  refine kx_icmp_eq 25 d_M_view_11 (by decide) (fun h => absurd h (nI_m1 (by omega))) (fun _ => ?_)
  refine kx_iload_n d_M_view_14 rfl ?_
  refine kx_callS (as := [.int e]) (rest := [.ref (ma 0)]) d_M_view_15 s_M_115 rfl (by decide) (by decide) (Nat.le_of_ble_eq_true rfl) (by decide) (by decide) rfl (m_M_isEnd e) (fun X w1 h => by cases h.1) (fun v w1 hq9 => ?_)
  obtain ⟨hv, hw9⟩ := hq9
  cases hv
  subst hw9
  rw [he]
  refine kx_stk (st1 := [.int (nI 0), .ref (ma 0)]) rfl ?_
  refine kx_if_eq_n 25 d_M_view_18 (by decide) (by decide) (fun _ => ?_) (fun h => absurd rfl h)
  refine kx_iconst (nI 0) d_M_view_25 (by decide) ?_
  refine kx_iconst (nI 1) d_M_view_26 (by decide) ?_
  refine kx_iconst (nI 1) d_M_view_27 (by decide) ?_
  refine kx_callV (as := [.int (nI _), .int (nI _), .int (nI _)]) (rest := []) d_M_view_28 v_M_101 rfl hM.1 rfl rfl (by decide) (by decide) (Nat.le_of_ble_eq_true rfl) (by decide) (by decide) rfl (m_M_goes hM (by decide) (by decide) (by decide)) (fun X w1 h => by cases h.1) (fun v w hq9 => ?_)
  obtain ⟨hv, hM, hO9⟩ := hq9
  cases hv
  have hO := hO.tr hO9 (fun _ h => h) (fun _ h => h)
  refine kx_stk (st1 := [.int (nI 0)]) rfl ?_
  refine kx_if_ne_n 36 d_M_view_31 (by decide) (by decide) (fun h => absurd rfl h) (fun _ => ?_)
  refine kx_iconst (nI 0) d_M_view_34 (by decide) ?_
  refine kx_iret d_M_view_35 rfl (by decide) (by decide) ?_
  exact ⟨rfl, hM, hO⟩
set_option maxRecDepth 20000 in
set_option maxHeartbeats 4000000 in
theorem m_M_view {E : kx_E} {w : va_W} {ma : Nat → Nat} {F : Nat → Int32} {A : Nat → Nat → Int32} (hM : Mdl E w ma F A) {n : Nat} {X : Fx} {D : Dy} (hR : ModR n X D A) (hX : WfX n X) (hD : WfD n D) (hn : F 1 = nI n) {bi : Nat → Option Nat} (hB : BiR n X bi) {car : Int32} {c i j : Nat} (hc0 : carI bi car = some c) (hi : i < 2) (hj : j < (dVw D (2 * c + i)).length) : kx_S E Y_M_view [.ref (ma 0), .int car, .int (nI i), .int (nI j)] w (MX E w ma (up1 F 0 (nI 0)) A (some (.int (nI (2 * xId X ((dVw D (2 * c + i)).getD j 0 / 2) + (dVw D (2 * c + i)).getD j 0 % 2))))) := by
  refine kx_go (by decide) rfl rfl (Nat.le_of_ble_eq_true rfl) (kx_cc rfl (kx_cc rfl (kx_cc rfl (kx_cc rfl kx_c0)))) (fun z => ?_)
  have hO : kx_off w w mdlN := kx_off.rf
  have h24 := hX.1
  have hc := hB.c hc0
  have hv := hR.vws (2 * c + i) (by omega)
  have bv := (hD.1 (2 * c + i) (by omega)).1
  have bv24 := bv.1
  have hb := bv.get hj
  refine kx_aload_n d_M_view_0 rfl (by first | rfl | exact kx_rf _) ?_
  refine kx_iload_n d_M_view_1 rfl ?_
  refine kx_callV (as := [.int car]) (rest := []) d_M_view_2 v_M_97 rfl hM.1 rfl rfl (by decide) (by decide) (Nat.le_of_ble_eq_true rfl) (by decide) (by decide) rfl (m_M_findC hM hR hX hD hn hB hc0) (fun X w1 h => by cases h.1) (fun v w1 hq9 => ?_)
  obtain ⟨hv, hw9⟩ := hq9
  cases hv
  subst hw9
  refine kx_stk (st1 := [.int (nI c)]) rfl ?_
  refine kx_istore d_M_view_5 (by decide) ?_
  refine kx_aload_n d_M_view_7 rfl (by first | rfl | exact kx_rf _) ?_
  refine kx_iload d_M_view_8 rfl ?_
  refine kx_iconst (-1) d_M_view_10 (by decide) ?_
  refine kx_icmp_eq 25 d_M_view_11 (by decide) (fun h => absurd h (nI_m1 (by omega))) (fun _ => ?_)
  refine kx_iload_n d_M_view_14 rfl ?_
  refine kx_callS (as := [.int (nI i)]) (rest := [.ref (ma 0)]) d_M_view_15 s_M_115 rfl (by decide) (by decide) (Nat.le_of_ble_eq_true rfl) (by decide) (by decide) rfl (m_M_isEnd (nI i)) (fun X w1 h => by cases h.1) (fun v w1 hq9 => ?_)
  obtain ⟨hv, hw9⟩ := hq9
  cases hv
  subst hw9
  rw [isE_i hi]
  refine kx_stk (st1 := [.int (nI 1), .ref (ma 0)]) rfl ?_
  refine kx_if_eq_n 25 d_M_view_18 (by decide) (by decide) (fun h => absurd h (by decide)) (fun _ => ?_)
  refine kx_iconst (nI 1) d_M_view_21 (by decide) ?_
  refine kx_goto 26 d_M_view_22 (by decide) ?_
  refine kx_iconst (nI 1) d_M_view_26 (by decide) ?_
  refine kx_iconst (nI 1) d_M_view_27 (by decide) ?_
  refine kx_callV (as := [.int (nI _), .int (nI _), .int (nI _)]) (rest := []) d_M_view_28 v_M_101 rfl hM.1 rfl rfl (by decide) (by decide) (Nat.le_of_ble_eq_true rfl) (by decide) (by decide) rfl (m_M_goes hM (by decide) (by decide) (by decide)) (fun X w1 h => by cases h.1) (fun v w hq9 => ?_)
  obtain ⟨hv, hM, hO9⟩ := hq9
  cases hv
  have hO := hO.tr hO9 (fun _ h => h) (fun _ h => h)
  refine kx_stk (st1 := [.int (nI 1)]) rfl ?_
  refine kx_if_ne_n 36 d_M_view_31 (by decide) (by decide) (fun _ => ?_) (fun h => absurd h (by decide))
  refine kx_iconst (nI 2) d_M_view_36 (by decide) ?_
  refine kx_iload d_M_view_37 rfl ?_
  first | refine kx_imul _ d_M_view_39 (pk_mul _ _) ?_ | refine kx_imul _ d_M_view_39 rfl ?_
  refine kx_iload_n d_M_view_40 rfl ?_
  first | refine kx_iadd _ d_M_view_41 (nI_add _ _) ?_ | refine kx_iadd _ d_M_view_41 rfl ?_
  refine kx_istore d_M_view_42 (by decide) ?_
  refine kx_iload_n d_M_view_44 rfl ?_
  refine kx_if_lt_n 59 d_M_view_45 (by decide) (by omega) ?_
  refine kx_iload_n d_M_view_48 rfl ?_
  refine kx_aload_n d_M_view_49 rfl (by first | rfl | exact kx_rf _) ?_
  refine kx_get _ d_M_view_50 f_M_29 hM.1 (by rfl) ?_
  refine kx_iload d_M_view_53 rfl ?_
  refine kx_iald d_M_view_55 hM.a6 (by omega) (by decide) ?_
  rw [hv.1]
  first | refine kx_icmp_lt_n 63 d_M_view_56 (by decide) (by omega) (by omega) ?_ ?_ | refine kx_icmp_lt 63 d_M_view_56 (by decide) ?_ ?_
  · intro h56
    refine kx_iconst (nI 2) d_M_view_63 (by decide) ?_
    refine kx_aload_n d_M_view_64 rfl (by first | rfl | exact kx_rf _) ?_
    refine kx_get _ d_M_view_65 f_M_7 hM.1 (by rfl) ?_
    refine kx_aload_n d_M_view_68 rfl (by first | rfl | exact kx_rf _) ?_
    refine kx_get _ d_M_view_69 f_M_26 hM.1 (by rfl) ?_
    refine kx_bipush (nI 24) d_M_view_72 (by decide) ?_
    refine kx_iload d_M_view_74 rfl ?_
    first | refine kx_imul _ d_M_view_76 (pk_mul _ _) ?_ | refine kx_imul _ d_M_view_76 rfl ?_
    refine kx_iload_n d_M_view_77 rfl ?_
    first | refine kx_iadd _ d_M_view_78 (nI_add _ _) ?_ | refine kx_iadd _ d_M_view_78 rfl ?_
    refine kx_iald d_M_view_79 hM.a5 (by omega) (by decide) ?_
    rw [hv.2 j hj]
    refine kx_iconst (nI 2) d_M_view_80 (by decide) ?_
    refine kx_idiv _ d_M_view_81 (by decide) (pk_div (by omega) (by omega) (by omega)) ?_
    refine kx_iald d_M_view_82 hM.a0 (by omega) (by decide) ?_
    rw [hR.ids _ (by omega)]
    first | refine kx_imul _ d_M_view_83 (pk_mul _ _) ?_ | refine kx_imul _ d_M_view_83 rfl ?_
    refine kx_aload_n d_M_view_84 rfl (by first | rfl | exact kx_rf _) ?_
    refine kx_get _ d_M_view_85 f_M_26 hM.1 (by rfl) ?_
    refine kx_bipush (nI 24) d_M_view_88 (by decide) ?_
    refine kx_iload d_M_view_90 rfl ?_
    first | refine kx_imul _ d_M_view_92 (pk_mul _ _) ?_ | refine kx_imul _ d_M_view_92 rfl ?_
    refine kx_iload_n d_M_view_93 rfl ?_
    first | refine kx_iadd _ d_M_view_94 (nI_add _ _) ?_ | refine kx_iadd _ d_M_view_94 rfl ?_
    refine kx_iald d_M_view_95 hM.a5 (by omega) (by decide) ?_
    rw [hv.2 j hj]
    refine kx_iconst (nI 2) d_M_view_96 (by decide) ?_
    refine kx_irem _ d_M_view_97 (by decide) (pk_rem (by omega) (by omega) (by omega)) ?_
    first | refine kx_iadd _ d_M_view_98 (nI_add _ _) ?_ | refine kx_iadd _ d_M_view_98 rfl ?_
    refine kx_iret d_M_view_99 rfl (by decide) (by decide) ?_
    exact ⟨rfl, hM, hO⟩
  · intro h56
    exact absurd h56 (by omega)
set_option maxRecDepth 20000 in
set_option maxHeartbeats 4000000 in
theorem m_M_view_out {E : kx_E} {w : va_W} {ma : Nat → Nat} {F : Nat → Int32} {A : Nat → Nat → Int32} (hM : Mdl E w ma F A) {n : Nat} {X : Fx} {D : Dy} (hR : ModR n X D A) (hX : WfX n X) (hD : WfD n D) (hn : F 1 = nI n) {bi : Nat → Option Nat} (hB : BiR n X bi) {car v : Int32} {c i : Nat} (hc0 : carI bi car = some c) (hi : i < 2) (hj : v < 0 ∨ nI (dVw D (2 * c + i)).length ≤ v) : kx_S E Y_M_view [.ref (ma 0), .int car, .int (nI i), .int v] w (MX E w ma (up1 F 0 (nI 0)) A (some (.int (-1)))) := by
  refine kx_go (by decide) rfl rfl (Nat.le_of_ble_eq_true rfl) (kx_cc rfl (kx_cc rfl (kx_cc rfl (kx_cc rfl kx_c0)))) (fun z => ?_)
  have hO : kx_off w w mdlN := kx_off.rf
  have h24 := hX.1
  have hc := hB.c hc0
  have hv := hR.vws (2 * c + i) (by omega)
  have bv := (hD.1 (2 * c + i) (by omega)).1
  have bv24 := bv.1
  refine kx_aload_n d_M_view_0 rfl (by first | rfl | exact kx_rf _) ?_
  refine kx_iload_n d_M_view_1 rfl ?_
  refine kx_callV (as := [.int car]) (rest := []) d_M_view_2 v_M_97 rfl hM.1 rfl rfl (by decide) (by decide) (Nat.le_of_ble_eq_true rfl) (by decide) (by decide) rfl (m_M_findC hM hR hX hD hn hB hc0) (fun X w1 h => by cases h.1) (fun v w1 hq9 => ?_)
  obtain ⟨hv, hw9⟩ := hq9
  cases hv
  subst hw9
  refine kx_stk (st1 := [.int (nI c)]) rfl ?_
  refine kx_istore d_M_view_5 (by decide) ?_
  refine kx_aload_n d_M_view_7 rfl (by first | rfl | exact kx_rf _) ?_
  refine kx_iload d_M_view_8 rfl ?_
  refine kx_iconst (-1) d_M_view_10 (by decide) ?_
  refine kx_icmp_eq 25 d_M_view_11 (by decide) (fun h => absurd h (nI_m1 (by omega))) (fun _ => ?_)
  refine kx_iload_n d_M_view_14 rfl ?_
  refine kx_callS (as := [.int (nI i)]) (rest := [.ref (ma 0)]) d_M_view_15 s_M_115 rfl (by decide) (by decide) (Nat.le_of_ble_eq_true rfl) (by decide) (by decide) rfl (m_M_isEnd (nI i)) (fun X w1 h => by cases h.1) (fun v w1 hq9 => ?_)
  obtain ⟨hv, hw9⟩ := hq9
  cases hv
  subst hw9
  rw [isE_i hi]
  refine kx_stk (st1 := [.int (nI 1), .ref (ma 0)]) rfl ?_
  refine kx_if_eq_n 25 d_M_view_18 (by decide) (by decide) (fun h => absurd h (by decide)) (fun _ => ?_)
  refine kx_iconst (nI 1) d_M_view_21 (by decide) ?_
  refine kx_goto 26 d_M_view_22 (by decide) ?_
  refine kx_iconst (nI 1) d_M_view_26 (by decide) ?_
  refine kx_iconst (nI 1) d_M_view_27 (by decide) ?_
  refine kx_callV (as := [.int (nI _), .int (nI _), .int (nI _)]) (rest := []) d_M_view_28 v_M_101 rfl hM.1 rfl rfl (by decide) (by decide) (Nat.le_of_ble_eq_true rfl) (by decide) (by decide) rfl (m_M_goes hM (by decide) (by decide) (by decide)) (fun X w1 h => by cases h.1) (fun v w hq9 => ?_)
  obtain ⟨hv, hM, hO9⟩ := hq9
  cases hv
  have hO := hO.tr hO9 (fun _ h => h) (fun _ h => h)
  refine kx_stk (st1 := [.int (nI 1)]) rfl ?_
  refine kx_if_ne_n 36 d_M_view_31 (by decide) (by decide) (fun _ => ?_) (fun h => absurd h (by decide))
  refine kx_iconst (nI 2) d_M_view_36 (by decide) ?_
  refine kx_iload d_M_view_37 rfl ?_
  first | refine kx_imul _ d_M_view_39 (pk_mul _ _) ?_ | refine kx_imul _ d_M_view_39 rfl ?_
  refine kx_iload_n d_M_view_40 rfl ?_
  first | refine kx_iadd _ d_M_view_41 (nI_add _ _) ?_ | refine kx_iadd _ d_M_view_41 rfl ?_
  refine kx_istore d_M_view_42 (by decide) ?_
  refine kx_iload_n d_M_view_44 rfl ?_
  refine kx_if_lt 59 d_M_view_45 (by decide) ?_ ?_
  · intro h45
    refine kx_iconst (-1) d_M_view_59 (by decide) ?_
    refine kx_goto 99 d_M_view_60 (by decide) ?_
    refine kx_iret d_M_view_99 rfl (by decide) (by decide) ?_
    exact ⟨rfl, hM, hO⟩
  · intro h45
    refine kx_iload_n d_M_view_48 rfl ?_
    refine kx_aload_n d_M_view_49 rfl (by first | rfl | exact kx_rf _) ?_
    refine kx_get _ d_M_view_50 f_M_29 hM.1 (by rfl) ?_
    refine kx_iload d_M_view_53 rfl ?_
    refine kx_iald d_M_view_55 hM.a6 (by omega) (by decide) ?_
    rw [hv.1]
    refine kx_icmp_lt 63 d_M_view_56 (by decide) ?_ ?_
    · intro h56
      exact absurd hj (by rintro (h | h); exact h45 h; exact i32_nlt.mpr h h56)
    · intro h56
      refine kx_iconst (-1) d_M_view_59 (by decide) ?_
      refine kx_goto 99 d_M_view_60 (by decide) ?_
      refine kx_iret d_M_view_99 rfl (by decide) (by decide) ?_
      exact ⟨rfl, hM, hO⟩
theorem d_M_put_0 : decode c_M_put 0 = .ok (.aload_n 0, 1) := by decide +kernel
theorem d_M_put_1 : decode c_M_put 1 = .ok (.iload_n 1, 1) := by decide +kernel
theorem d_M_put_2 : decode c_M_put 2 = .ok (.invokevirtual 97, 3) := by decide +kernel
theorem d_M_put_5 : decode c_M_put 5 = .ok (.istore 4, 2) := by decide +kernel
theorem d_M_put_7 : decode c_M_put 7 = .ok (.aload_n 0, 1) := by decide +kernel
theorem d_M_put_8 : decode c_M_put 8 = .ok (.iload 4, 2) := by decide +kernel
theorem d_M_put_10 : decode c_M_put 10 = .ok (.iconst (-1), 1) := by decide +kernel
theorem d_M_put_11 : decode c_M_put 11 = .ok (.if_icmp .eq 7, 3) := by decide +kernel
theorem d_M_put_14 : decode c_M_put 14 = .ok (.iconst 1, 1) := by decide +kernel
theorem d_M_put_15 : decode c_M_put 15 = .ok (.goto 4, 3) := by decide +kernel
theorem d_M_put_18 : decode c_M_put 18 = .ok (.iconst 0, 1) := by decide +kernel
theorem d_M_put_19 : decode c_M_put 19 = .ok (.iload_n 2, 1) := by decide +kernel
theorem d_M_put_20 : decode c_M_put 20 = .ok (.ifCond .lt 23, 3) := by decide +kernel
theorem d_M_put_23 : decode c_M_put 23 = .ok (.iload_n 2, 1) := by decide +kernel
theorem d_M_put_24 : decode c_M_put 24 = .ok (.iconst 4, 1) := by decide +kernel
theorem d_M_put_25 : decode c_M_put 25 = .ok (.if_icmp .ge 18, 3) := by decide +kernel
theorem d_M_put_28 : decode c_M_put 28 = .ok (.iload_n 3, 1) := by decide +kernel
theorem d_M_put_29 : decode c_M_put 29 = .ok (.ifCond .lt 14, 3) := by decide +kernel
theorem d_M_put_32 : decode c_M_put 32 = .ok (.iload_n 3, 1) := by decide +kernel
theorem d_M_put_33 : decode c_M_put 33 = .ok (.sipush 256, 3) := by decide +kernel
theorem d_M_put_36 : decode c_M_put 36 = .ok (.if_icmp .ge 7, 3) := by decide +kernel
theorem d_M_put_39 : decode c_M_put 39 = .ok (.iconst 1, 1) := by decide +kernel
theorem d_M_put_40 : decode c_M_put 40 = .ok (.goto 4, 3) := by decide +kernel
theorem d_M_put_43 : decode c_M_put 43 = .ok (.iconst 0, 1) := by decide +kernel
theorem d_M_put_44 : decode c_M_put 44 = .ok (.iconst 1, 1) := by decide +kernel
theorem d_M_put_45 : decode c_M_put 45 = .ok (.invokevirtual 101, 3) := by decide +kernel
theorem d_M_put_48 : decode c_M_put 48 = .ok (.ifCond .ne 5, 3) := by decide +kernel
theorem d_M_put_51 : decode c_M_put 51 = .ok (.iconst 0, 1) := by decide +kernel
theorem d_M_put_52 : decode c_M_put 52 = .ok (.ireturn, 1) := by decide +kernel
theorem d_M_put_53 : decode c_M_put 53 = .ok (.aload_n 0, 1) := by decide +kernel
theorem d_M_put_54 : decode c_M_put 54 = .ok (.getfield 53, 3) := by decide +kernel
theorem d_M_put_57 : decode c_M_put 57 = .ok (.bipush 100, 2) := by decide +kernel
theorem d_M_put_59 : decode c_M_put 59 = .ok (.iload 4, 2) := by decide +kernel
theorem d_M_put_61 : decode c_M_put 61 = .ok (.imul, 1) := by decide +kernel
theorem d_M_put_62 : decode c_M_put 62 = .ok (.iload_n 2, 1) := by decide +kernel
theorem d_M_put_63 : decode c_M_put 63 = .ok (.iadd, 1) := by decide +kernel
theorem d_M_put_64 : decode c_M_put 64 = .ok (.iaload, 1) := by decide +kernel
theorem d_M_put_65 : decode c_M_put 65 = .ok (.istore 5, 2) := by decide +kernel
theorem d_M_put_67 : decode c_M_put 67 = .ok (.aload_n 0, 1) := by decide +kernel
theorem d_M_put_68 : decode c_M_put 68 = .ok (.getfield 53, 3) := by decide +kernel
theorem d_M_put_71 : decode c_M_put 71 = .ok (.bipush 100, 2) := by decide +kernel
theorem d_M_put_73 : decode c_M_put 73 = .ok (.iload 4, 2) := by decide +kernel
theorem d_M_put_75 : decode c_M_put 75 = .ok (.imul, 1) := by decide +kernel
theorem d_M_put_76 : decode c_M_put 76 = .ok (.iload_n 2, 1) := by decide +kernel
theorem d_M_put_77 : decode c_M_put 77 = .ok (.iadd, 1) := by decide +kernel
theorem d_M_put_78 : decode c_M_put 78 = .ok (.iload_n 3, 1) := by decide +kernel
theorem d_M_put_79 : decode c_M_put 79 = .ok (.iastore, 1) := by decide +kernel
theorem d_M_put_80 : decode c_M_put 80 = .ok (.iload 5, 2) := by decide +kernel
theorem d_M_put_82 : decode c_M_put 82 = .ok (.ireturn, 1) := by decide +kernel
set_option maxRecDepth 20000 in
set_option maxHeartbeats 4000000 in
theorem m_M_put_no {E : kx_E} {w : va_W} {ma : Nat → Nat} {F : Nat → Int32} {A : Nat → Nat → Int32} (hM : Mdl E w ma F A) {n : Nat} {X : Fx} {D : Dy} (hR : ModR n X D A) (hX : WfX n X) (hD : WfD n D) (hn : F 1 = nI n) {bi : Nat → Option Nat} (hB : BiR n X bi) {car i v : Int32} (hc0 : carI bi car = none) : kx_S E Y_M_put [.ref (ma 0), .int car, .int i, .int v] w (MX E w ma (up1 F 0 (nI 1)) A (some (.int (nI 0)))) := by
  refine kx_go (by decide) rfl rfl (Nat.le_of_ble_eq_true rfl) (kx_cc rfl (kx_cc rfl (kx_cc rfl (kx_cc rfl kx_c0)))) (fun z => ?_)
  have hO : kx_off w w mdlN := kx_off.rf
  have h24 := hX.1
  refine kx_aload_n d_M_put_0 rfl (by first | rfl | exact kx_rf _) ?_
  refine kx_iload_n d_M_put_1 rfl ?_
  refine kx_callV (as := [.int car]) (rest := []) d_M_put_2 v_M_97 rfl hM.1 rfl rfl (by decide) (by decide) (Nat.le_of_ble_eq_true rfl) (by decide) (by decide) rfl (m_M_findN hM hR hX hD hn hB hc0) (fun X w1 h => by cases h.1) (fun v w1 hq9 => ?_)
  obtain ⟨hv, hw9⟩ := hq9
  cases hv
  subst hw9
  refine kx_stk (st1 := [.int (-1)]) rfl ?_
  refine kx_istore d_M_put_5 (by decide) ?_
  refine kx_aload_n d_M_put_7 rfl (by first | rfl | exact kx_rf _) ?_
  refine kx_iload d_M_put_8 rfl ?_
  refine kx_iconst (-1) d_M_put_10 (by decide) ?_
  refine kx_icmp_eq 18 d_M_put_11 (by decide) (fun _ => ?_) (fun h => absurd rfl h)
  refine kx_iconst (nI 0) d_M_put_18 (by decide) ?_
  refine kx_iload_n d_M_put_19 rfl ?_
  refine kx_if_lt 43 d_M_put_20 (by decide) ?_ ?_
  · intro h20
    refine kx_iconst (nI 0) d_M_put_43 (by decide) ?_
    refine kx_iconst (nI 1) d_M_put_44 (by decide) ?_
    refine kx_callV (as := [.int (nI _), .int (nI _), .int (nI _)]) (rest := []) d_M_put_45 v_M_101 rfl hM.1 rfl rfl (by decide) (by decide) (Nat.le_of_ble_eq_true rfl) (by decide) (by decide) rfl (m_M_goes hM (by decide) (by decide) (by decide)) (fun X w1 h => by cases h.1) (fun v w hq9 => ?_)
    obtain ⟨hv, hM, hO9⟩ := hq9
    cases hv
    have hO := hO.tr hO9 (fun _ h => h) (fun _ h => h)
    refine kx_stk (st1 := [.int (nI 0)]) rfl ?_
    refine kx_if_ne_n 53 d_M_put_48 (by decide) (by decide) (fun h => absurd rfl h) (fun _ => ?_)
    refine kx_iconst (nI 0) d_M_put_51 (by decide) ?_
    refine kx_iret d_M_put_52 rfl (by decide) (by decide) ?_
    exact ⟨rfl, hM, hO⟩
  · intro h20
    refine kx_iload_n d_M_put_23 rfl ?_
    refine kx_iconst (nI 4) d_M_put_24 (by decide) ?_
    refine kx_icmp_ge 43 d_M_put_25 (by decide) ?_ ?_
    · intro h25
      refine kx_iconst (nI 0) d_M_put_43 (by decide) ?_
      refine kx_iconst (nI 1) d_M_put_44 (by decide) ?_
      refine kx_callV (as := [.int (nI _), .int (nI _), .int (nI _)]) (rest := []) d_M_put_45 v_M_101 rfl hM.1 rfl rfl (by decide) (by decide) (Nat.le_of_ble_eq_true rfl) (by decide) (by decide) rfl (m_M_goes hM (by decide) (by decide) (by decide)) (fun X w1 h => by cases h.1) (fun v w hq9 => ?_)
      obtain ⟨hv, hM, hO9⟩ := hq9
      cases hv
      have hO := hO.tr hO9 (fun _ h => h) (fun _ h => h)
      refine kx_stk (st1 := [.int (nI 0)]) rfl ?_
      refine kx_if_ne_n 53 d_M_put_48 (by decide) (by decide) (fun h => absurd rfl h) (fun _ => ?_)
      refine kx_iconst (nI 0) d_M_put_51 (by decide) ?_
      refine kx_iret d_M_put_52 rfl (by decide) (by decide) ?_
      exact ⟨rfl, hM, hO⟩
    · intro h25
      refine kx_iload_n d_M_put_28 rfl ?_
      refine kx_if_lt 43 d_M_put_29 (by decide) ?_ ?_
      · intro h29
        refine kx_iconst (nI 0) d_M_put_43 (by decide) ?_
        refine kx_iconst (nI 1) d_M_put_44 (by decide) ?_
        refine kx_callV (as := [.int (nI _), .int (nI _), .int (nI _)]) (rest := []) d_M_put_45 v_M_101 rfl hM.1 rfl rfl (by decide) (by decide) (Nat.le_of_ble_eq_true rfl) (by decide) (by decide) rfl (m_M_goes hM (by decide) (by decide) (by decide)) (fun X w1 h => by cases h.1) (fun v w hq9 => ?_)
        obtain ⟨hv, hM, hO9⟩ := hq9
        cases hv
        have hO := hO.tr hO9 (fun _ h => h) (fun _ h => h)
        refine kx_stk (st1 := [.int (nI 0)]) rfl ?_
        refine kx_if_ne_n 53 d_M_put_48 (by decide) (by decide) (fun h => absurd rfl h) (fun _ => ?_)
        refine kx_iconst (nI 0) d_M_put_51 (by decide) ?_
        refine kx_iret d_M_put_52 rfl (by decide) (by decide) ?_
        exact ⟨rfl, hM, hO⟩
      · intro h29
        refine kx_iload_n d_M_put_32 rfl ?_
        refine kx_sipush (nI 256) d_M_put_33 (by decide) ?_
        refine kx_icmp_ge 43 d_M_put_36 (by decide) ?_ ?_
        · intro h36
          refine kx_iconst (nI 0) d_M_put_43 (by decide) ?_
          refine kx_iconst (nI 1) d_M_put_44 (by decide) ?_
          refine kx_callV (as := [.int (nI _), .int (nI _), .int (nI _)]) (rest := []) d_M_put_45 v_M_101 rfl hM.1 rfl rfl (by decide) (by decide) (Nat.le_of_ble_eq_true rfl) (by decide) (by decide) rfl (m_M_goes hM (by decide) (by decide) (by decide)) (fun X w1 h => by cases h.1) (fun v w hq9 => ?_)
          obtain ⟨hv, hM, hO9⟩ := hq9
          cases hv
          have hO := hO.tr hO9 (fun _ h => h) (fun _ h => h)
          refine kx_stk (st1 := [.int (nI 0)]) rfl ?_
          refine kx_if_ne_n 53 d_M_put_48 (by decide) (by decide) (fun h => absurd rfl h) (fun _ => ?_)
          refine kx_iconst (nI 0) d_M_put_51 (by decide) ?_
          refine kx_iret d_M_put_52 rfl (by decide) (by decide) ?_
          exact ⟨rfl, hM, hO⟩
        · intro h36
          refine kx_iconst (nI 1) d_M_put_39 (by decide) ?_
          refine kx_goto 44 d_M_put_40 (by decide) ?_
          refine kx_iconst (nI 1) d_M_put_44 (by decide) ?_
          refine kx_callV (as := [.int (nI _), .int (nI _), .int (nI _)]) (rest := []) d_M_put_45 v_M_101 rfl hM.1 rfl rfl (by decide) (by decide) (Nat.le_of_ble_eq_true rfl) (by decide) (by decide) rfl (m_M_goes hM (by decide) (by decide) (by decide)) (fun X w1 h => by cases h.1) (fun v w hq9 => ?_)
          obtain ⟨hv, hM, hO9⟩ := hq9
          cases hv
          have hO := hO.tr hO9 (fun _ h => h) (fun _ h => h)
          refine kx_stk (st1 := [.int (nI 0)]) rfl ?_
          refine kx_if_ne_n 53 d_M_put_48 (by decide) (by decide) (fun h => absurd rfl h) (fun _ => ?_)
          refine kx_iconst (nI 0) d_M_put_51 (by decide) ?_
          refine kx_iret d_M_put_52 rfl (by decide) (by decide) ?_
          exact ⟨rfl, hM, hO⟩
set_option maxRecDepth 20000 in
set_option maxHeartbeats 4000000 in
theorem m_M_put_bad {E : kx_E} {w : va_W} {ma : Nat → Nat} {F : Nat → Int32} {A : Nat → Nat → Int32} (hM : Mdl E w ma F A) {n : Nat} {X : Fx} {D : Dy} (hR : ModR n X D A) (hX : WfX n X) (hD : WfD n D) (hn : F 1 = nI n) {bi : Nat → Option Nat} (hB : BiR n X bi) {car i v : Int32} {c : Nat} (hc0 : carI bi car = some c) (hv : i < 0 ∨ nI 4 ≤ i ∨ v < 0 ∨ nI 256 ≤ v) : kx_S E Y_M_put [.ref (ma 0), .int car, .int i, .int v] w (MX E w ma (up1 F 0 (nI 2)) A (some (.int (nI 0)))) := by
  refine kx_go (by decide) rfl rfl (Nat.le_of_ble_eq_true rfl) (kx_cc rfl (kx_cc rfl (kx_cc rfl (kx_cc rfl kx_c0)))) (fun z => ?_)
  have hO : kx_off w w mdlN := kx_off.rf
  have h24 := hX.1
  have hc := hB.c hc0
  refine kx_aload_n d_M_put_0 rfl (by first | rfl | exact kx_rf _) ?_
  refine kx_iload_n d_M_put_1 rfl ?_
  refine kx_callV (as := [.int car]) (rest := []) d_M_put_2 v_M_97 rfl hM.1 rfl rfl (by decide) (by decide) (Nat.le_of_ble_eq_true rfl) (by decide) (by decide) rfl (m_M_findC hM hR hX hD hn hB hc0) (fun X w1 h => by cases h.1) (fun v w1 hq9 => ?_)
  obtain ⟨hv, hw9⟩ := hq9
  cases hv
  subst hw9
  refine kx_stk (st1 := [.int (nI c)]) rfl ?_
  refine kx_istore d_M_put_5 (by decide) ?_
  refine kx_aload_n d_M_put_7 rfl (by first | rfl | exact kx_rf _) ?_
  refine kx_iload d_M_put_8 rfl ?_
  refine kx_iconst (-1) d_M_put_10 (by decide) ?_
  refine kx_icmp_eq 18 d_M_put_11 (by decide) (fun h => absurd h (nI_m1 (by omega))) (fun _ => ?_)
  refine kx_iconst (nI 1) d_M_put_14 (by decide) ?_
  refine kx_goto 19 d_M_put_15 (by decide) ?_
  refine kx_iload_n d_M_put_19 rfl ?_
  refine kx_if_lt 43 d_M_put_20 (by decide) ?_ ?_
  · intro h20
    refine kx_iconst (nI 0) d_M_put_43 (by decide) ?_
    refine kx_iconst (nI 1) d_M_put_44 (by decide) ?_
    refine kx_callV (as := [.int (nI _), .int (nI _), .int (nI _)]) (rest := []) d_M_put_45 v_M_101 rfl hM.1 rfl rfl (by decide) (by decide) (Nat.le_of_ble_eq_true rfl) (by decide) (by decide) rfl (m_M_goes hM (by decide) (by decide) (by decide)) (fun X w1 h => by cases h.1) (fun v w hq9 => ?_)
    obtain ⟨hv, hM, hO9⟩ := hq9
    cases hv
    have hO := hO.tr hO9 (fun _ h => h) (fun _ h => h)
    refine kx_stk (st1 := [.int (nI 0)]) rfl ?_
    refine kx_if_ne_n 53 d_M_put_48 (by decide) (by decide) (fun h => absurd rfl h) (fun _ => ?_)
    refine kx_iconst (nI 0) d_M_put_51 (by decide) ?_
    refine kx_iret d_M_put_52 rfl (by decide) (by decide) ?_
    exact ⟨rfl, hM, hO⟩
  · intro h20
    refine kx_iload_n d_M_put_23 rfl ?_
    refine kx_iconst (nI 4) d_M_put_24 (by decide) ?_
    refine kx_icmp_ge 43 d_M_put_25 (by decide) ?_ ?_
    · intro h25
      refine kx_iconst (nI 0) d_M_put_43 (by decide) ?_
      refine kx_iconst (nI 1) d_M_put_44 (by decide) ?_
      refine kx_callV (as := [.int (nI _), .int (nI _), .int (nI _)]) (rest := []) d_M_put_45 v_M_101 rfl hM.1 rfl rfl (by decide) (by decide) (Nat.le_of_ble_eq_true rfl) (by decide) (by decide) rfl (m_M_goes hM (by decide) (by decide) (by decide)) (fun X w1 h => by cases h.1) (fun v w hq9 => ?_)
      obtain ⟨hv, hM, hO9⟩ := hq9
      cases hv
      have hO := hO.tr hO9 (fun _ h => h) (fun _ h => h)
      refine kx_stk (st1 := [.int (nI 0)]) rfl ?_
      refine kx_if_ne_n 53 d_M_put_48 (by decide) (by decide) (fun h => absurd rfl h) (fun _ => ?_)
      refine kx_iconst (nI 0) d_M_put_51 (by decide) ?_
      refine kx_iret d_M_put_52 rfl (by decide) (by decide) ?_
      exact ⟨rfl, hM, hO⟩
    · intro h25
      refine kx_iload_n d_M_put_28 rfl ?_
      refine kx_if_lt 43 d_M_put_29 (by decide) ?_ ?_
      · intro h29
        refine kx_iconst (nI 0) d_M_put_43 (by decide) ?_
        refine kx_iconst (nI 1) d_M_put_44 (by decide) ?_
        refine kx_callV (as := [.int (nI _), .int (nI _), .int (nI _)]) (rest := []) d_M_put_45 v_M_101 rfl hM.1 rfl rfl (by decide) (by decide) (Nat.le_of_ble_eq_true rfl) (by decide) (by decide) rfl (m_M_goes hM (by decide) (by decide) (by decide)) (fun X w1 h => by cases h.1) (fun v w hq9 => ?_)
        obtain ⟨hv, hM, hO9⟩ := hq9
        cases hv
        have hO := hO.tr hO9 (fun _ h => h) (fun _ h => h)
        refine kx_stk (st1 := [.int (nI 0)]) rfl ?_
        refine kx_if_ne_n 53 d_M_put_48 (by decide) (by decide) (fun h => absurd rfl h) (fun _ => ?_)
        refine kx_iconst (nI 0) d_M_put_51 (by decide) ?_
        refine kx_iret d_M_put_52 rfl (by decide) (by decide) ?_
        exact ⟨rfl, hM, hO⟩
      · intro h29
        refine kx_iload_n d_M_put_32 rfl ?_
        refine kx_sipush (nI 256) d_M_put_33 (by decide) ?_
        refine kx_icmp_ge 43 d_M_put_36 (by decide) ?_ ?_
        · intro h36
          refine kx_iconst (nI 0) d_M_put_43 (by decide) ?_
          refine kx_iconst (nI 1) d_M_put_44 (by decide) ?_
          refine kx_callV (as := [.int (nI _), .int (nI _), .int (nI _)]) (rest := []) d_M_put_45 v_M_101 rfl hM.1 rfl rfl (by decide) (by decide) (Nat.le_of_ble_eq_true rfl) (by decide) (by decide) rfl (m_M_goes hM (by decide) (by decide) (by decide)) (fun X w1 h => by cases h.1) (fun v w hq9 => ?_)
          obtain ⟨hv, hM, hO9⟩ := hq9
          cases hv
          have hO := hO.tr hO9 (fun _ h => h) (fun _ h => h)
          refine kx_stk (st1 := [.int (nI 0)]) rfl ?_
          refine kx_if_ne_n 53 d_M_put_48 (by decide) (by decide) (fun h => absurd rfl h) (fun _ => ?_)
          refine kx_iconst (nI 0) d_M_put_51 (by decide) ?_
          refine kx_iret d_M_put_52 rfl (by decide) (by decide) ?_
          exact ⟨rfl, hM, hO⟩
        · intro h36
          exact absurd hv (by rintro (h | h | h | h); exact h20 h; exact h25 h; exact h29 h; exact h36 h)
set_option maxRecDepth 20000 in
set_option maxHeartbeats 4000000 in
theorem m_M_put {E : kx_E} {w : va_W} {ma : Nat → Nat} {F : Nat → Int32} {A : Nat → Nat → Int32} (hM : Mdl E w ma F A) {n : Nat} {X : Fx} {D : Dy} (hR : ModR n X D A) (hX : WfX n X) (hD : WfD n D) (hn : F 1 = nI n) {bi : Nat → Option Nat} (hB : BiR n X bi) {car : Int32} {c i v : Nat} (hc0 : carI bi car = some c) (hi : i < 4) (hv : v < 256) : kx_S E Y_M_put [.ref (ma 0), .int car, .int (nI i), .int (nI v)] w (MX E w ma (up1 F 0 (nI 0)) (up1 A 14 (upd (A 14) (100 * c + i) (nI v))) (some (.int (dBy D c c i)))) := by
  refine kx_go (by decide) rfl rfl (Nat.le_of_ble_eq_true rfl) (kx_cc rfl (kx_cc rfl (kx_cc rfl (kx_cc rfl kx_c0)))) (fun z => ?_)
  have hO : kx_off w w mdlN := kx_off.rf
  have h24 := hX.1
  have hc := hB.c hc0
  have hb : A 14 (100 * c + i) = dBy D c c i := by rw [show 100 * c + i = 4 * (24 * c + c) + i by omega]; exact hR.bys c c i hc (by omega) hi
  refine kx_aload_n d_M_put_0 rfl (by first | rfl | exact kx_rf _) ?_
  refine kx_iload_n d_M_put_1 rfl ?_
  refine kx_callV (as := [.int car]) (rest := []) d_M_put_2 v_M_97 rfl hM.1 rfl rfl (by decide) (by decide) (Nat.le_of_ble_eq_true rfl) (by decide) (by decide) rfl (m_M_findC hM hR hX hD hn hB hc0) (fun X w1 h => by cases h.1) (fun v w1 hq9 => ?_)
  obtain ⟨hv, hw9⟩ := hq9
  cases hv
  subst hw9
  refine kx_stk (st1 := [.int (nI c)]) rfl ?_
  refine kx_istore d_M_put_5 (by decide) ?_
  refine kx_aload_n d_M_put_7 rfl (by first | rfl | exact kx_rf _) ?_
  refine kx_iload d_M_put_8 rfl ?_
  refine kx_iconst (-1) d_M_put_10 (by decide) ?_
  refine kx_icmp_eq 18 d_M_put_11 (by decide) (fun h => absurd h (nI_m1 (by omega))) (fun _ => ?_)
  refine kx_iconst (nI 1) d_M_put_14 (by decide) ?_
  refine kx_goto 19 d_M_put_15 (by decide) ?_
  refine kx_iload_n d_M_put_19 rfl ?_
  refine kx_if_lt_n 43 d_M_put_20 (by decide) (by omega) ?_
  refine kx_iload_n d_M_put_23 rfl ?_
  refine kx_iconst (nI 4) d_M_put_24 (by decide) ?_
  first | refine kx_icmp_ge_n 43 d_M_put_25 (by decide) (by omega) (by omega) ?_ ?_ | refine kx_icmp_ge 43 d_M_put_25 (by decide) ?_ ?_
  · intro h25
    first
      | exact absurd h25 (by omega)
      | exact absurd h36 (by omega)
  · intro h25
    refine kx_iload_n d_M_put_28 rfl ?_
    refine kx_if_lt_n 43 d_M_put_29 (by decide) (by omega) ?_
    refine kx_iload_n d_M_put_32 rfl ?_
    refine kx_sipush (nI 256) d_M_put_33 (by decide) ?_
    first | refine kx_icmp_ge_n 43 d_M_put_36 (by decide) (by omega) (by omega) ?_ ?_ | refine kx_icmp_ge 43 d_M_put_36 (by decide) ?_ ?_
    · intro h36
      first
        | exact absurd h25 (by omega)
        | exact absurd h36 (by omega)
    · intro h36
      refine kx_iconst (nI 1) d_M_put_39 (by decide) ?_
      refine kx_goto 44 d_M_put_40 (by decide) ?_
      refine kx_iconst (nI 1) d_M_put_44 (by decide) ?_
      refine kx_callV (as := [.int (nI _), .int (nI _), .int (nI _)]) (rest := []) d_M_put_45 v_M_101 rfl hM.1 rfl rfl (by decide) (by decide) (Nat.le_of_ble_eq_true rfl) (by decide) (by decide) rfl (m_M_goes hM (by decide) (by decide) (by decide)) (fun X w1 h => by cases h.1) (fun v w hq9 => ?_)
      obtain ⟨hv, hM, hO9⟩ := hq9
      cases hv
      have hO := hO.tr hO9 (fun _ h => h) (fun _ h => h)
      refine kx_stk (st1 := [.int (nI 1)]) rfl ?_
      refine kx_if_ne_n 53 d_M_put_48 (by decide) (by decide) (fun _ => ?_) (fun h => absurd h (by decide))
      refine kx_aload_n d_M_put_53 rfl (by first | rfl | exact kx_rf _) ?_
      refine kx_get _ d_M_put_54 f_M_53 hM.1 (by rfl) ?_
      refine kx_bipush (nI 100) d_M_put_57 (by decide) ?_
      refine kx_iload d_M_put_59 rfl ?_
      first | refine kx_imul _ d_M_put_61 (pk_mul _ _) ?_ | refine kx_imul _ d_M_put_61 rfl ?_
      refine kx_iload_n d_M_put_62 rfl ?_
      first | refine kx_iadd _ d_M_put_63 (nI_add _ _) ?_ | refine kx_iadd _ d_M_put_63 rfl ?_
      refine kx_iald d_M_put_64 hM.a14 (by omega) (by decide) ?_
      rw [hb]
      refine kx_istore d_M_put_65 (by decide) ?_
      refine kx_aload_n d_M_put_67 rfl (by first | rfl | exact kx_rf _) ?_
      refine kx_get _ d_M_put_68 f_M_53 hM.1 (by rfl) ?_
      refine kx_bipush (nI 100) d_M_put_71 (by decide) ?_
      refine kx_iload d_M_put_73 rfl ?_
      first | refine kx_imul _ d_M_put_75 (pk_mul _ _) ?_ | refine kx_imul _ d_M_put_75 rfl ?_
      refine kx_iload_n d_M_put_76 rfl ?_
      first | refine kx_iadd _ d_M_put_77 (nI_add _ _) ?_ | refine kx_iadd _ d_M_put_77 rfl ?_
      refine kx_iload_n d_M_put_78 rfl ?_
      refine mA_put (j := 14) d_M_put_79 hM hO (by decide) (len := 2304) rfl (by decide) (by omega) (fun w hM hO => ?_)
      refine kx_iload d_M_put_80 rfl ?_
      refine kx_iret d_M_put_82 rfl (by decide) (by decide) ?_
      exact ⟨rfl, hM, hO⟩
theorem d_M_get_0 : decode c_M_get 0 = .ok (.aload_n 0, 1) := by decide +kernel
theorem d_M_get_1 : decode c_M_get 1 = .ok (.iload_n 1, 1) := by decide +kernel
theorem d_M_get_2 : decode c_M_get 2 = .ok (.invokevirtual 97, 3) := by decide +kernel
theorem d_M_get_5 : decode c_M_get 5 = .ok (.istore 4, 2) := by decide +kernel
theorem d_M_get_7 : decode c_M_get 7 = .ok (.aload_n 0, 1) := by decide +kernel
theorem d_M_get_8 : decode c_M_get 8 = .ok (.iload 4, 2) := by decide +kernel
theorem d_M_get_10 : decode c_M_get 10 = .ok (.iconst (-1), 1) := by decide +kernel
theorem d_M_get_11 : decode c_M_get 11 = .ok (.if_icmp .eq 7, 3) := by decide +kernel
theorem d_M_get_14 : decode c_M_get 14 = .ok (.iconst 1, 1) := by decide +kernel
theorem d_M_get_15 : decode c_M_get 15 = .ok (.goto 4, 3) := by decide +kernel
theorem d_M_get_18 : decode c_M_get 18 = .ok (.iconst 0, 1) := by decide +kernel
theorem d_M_get_19 : decode c_M_get 19 = .ok (.iload_n 3, 1) := by decide +kernel
theorem d_M_get_20 : decode c_M_get 20 = .ok (.ifCond .lt 12, 3) := by decide +kernel
theorem d_M_get_23 : decode c_M_get 23 = .ok (.iload_n 3, 1) := by decide +kernel
theorem d_M_get_24 : decode c_M_get 24 = .ok (.iconst 4, 1) := by decide +kernel
theorem d_M_get_25 : decode c_M_get 25 = .ok (.if_icmp .gt 7, 3) := by decide +kernel
theorem d_M_get_28 : decode c_M_get 28 = .ok (.iconst 1, 1) := by decide +kernel
theorem d_M_get_29 : decode c_M_get 29 = .ok (.goto 4, 3) := by decide +kernel
theorem d_M_get_32 : decode c_M_get 32 = .ok (.iconst 0, 1) := by decide +kernel
theorem d_M_get_33 : decode c_M_get 33 = .ok (.iconst 1, 1) := by decide +kernel
theorem d_M_get_34 : decode c_M_get 34 = .ok (.invokevirtual 101, 3) := by decide +kernel
theorem d_M_get_37 : decode c_M_get 37 = .ok (.ifCond .ne 5, 3) := by decide +kernel
theorem d_M_get_40 : decode c_M_get 40 = .ok (.iconst 0, 1) := by decide +kernel
theorem d_M_get_41 : decode c_M_get 41 = .ok (.ireturn, 1) := by decide +kernel
theorem d_M_get_42 : decode c_M_get 42 = .ok (.iload_n 2, 1) := by decide +kernel
theorem d_M_get_43 : decode c_M_get 43 = .ok (.iconst 1, 1) := by decide +kernel
theorem d_M_get_44 : decode c_M_get 44 = .ok (.if_icmp .lt 14, 3) := by decide +kernel
theorem d_M_get_47 : decode c_M_get 47 = .ok (.iload_n 2, 1) := by decide +kernel
theorem d_M_get_48 : decode c_M_get 48 = .ok (.aload_n 0, 1) := by decide +kernel
theorem d_M_get_49 : decode c_M_get 49 = .ok (.getfield 41, 3) := by decide +kernel
theorem d_M_get_52 : decode c_M_get 52 = .ok (.iload 4, 2) := by decide +kernel
theorem d_M_get_54 : decode c_M_get 54 = .ok (.iaload, 1) := by decide +kernel
theorem d_M_get_55 : decode c_M_get 55 = .ok (.if_icmp .le 5, 3) := by decide +kernel
theorem d_M_get_58 : decode c_M_get 58 = .ok (.iconst (-1), 1) := by decide +kernel
theorem d_M_get_59 : decode c_M_get 59 = .ok (.ireturn, 1) := by decide +kernel
theorem d_M_get_60 : decode c_M_get 60 = .ok (.bipush 24, 2) := by decide +kernel
theorem d_M_get_62 : decode c_M_get 62 = .ok (.iload 4, 2) := by decide +kernel
theorem d_M_get_64 : decode c_M_get 64 = .ok (.imul, 1) := by decide +kernel
theorem d_M_get_65 : decode c_M_get 65 = .ok (.aload_n 0, 1) := by decide +kernel
theorem d_M_get_66 : decode c_M_get 66 = .ok (.getfield 38, 3) := by decide +kernel
theorem d_M_get_69 : decode c_M_get 69 = .ok (.bipush 24, 2) := by decide +kernel
theorem d_M_get_71 : decode c_M_get 71 = .ok (.iload 4, 2) := by decide +kernel
theorem d_M_get_73 : decode c_M_get 73 = .ok (.imul, 1) := by decide +kernel
theorem d_M_get_74 : decode c_M_get 74 = .ok (.iload_n 2, 1) := by decide +kernel
theorem d_M_get_75 : decode c_M_get 75 = .ok (.iadd, 1) := by decide +kernel
theorem d_M_get_76 : decode c_M_get 76 = .ok (.iconst 1, 1) := by decide +kernel
theorem d_M_get_77 : decode c_M_get 77 = .ok (.isub, 1) := by decide +kernel
theorem d_M_get_78 : decode c_M_get 78 = .ok (.iaload, 1) := by decide +kernel
theorem d_M_get_79 : decode c_M_get 79 = .ok (.iconst 2, 1) := by decide +kernel
theorem d_M_get_80 : decode c_M_get 80 = .ok (.idiv, 1) := by decide +kernel
theorem d_M_get_81 : decode c_M_get 81 = .ok (.iadd, 1) := by decide +kernel
theorem d_M_get_82 : decode c_M_get 82 = .ok (.istore 5, 2) := by decide +kernel
theorem d_M_get_84 : decode c_M_get 84 = .ok (.aload_n 0, 1) := by decide +kernel
theorem d_M_get_85 : decode c_M_get 85 = .ok (.getfield 50, 3) := by decide +kernel
theorem d_M_get_88 : decode c_M_get 88 = .ok (.iload 5, 2) := by decide +kernel
theorem d_M_get_90 : decode c_M_get 90 = .ok (.iaload, 1) := by decide +kernel
theorem d_M_get_91 : decode c_M_get 91 = .ok (.iconst (-1), 1) := by decide +kernel
theorem d_M_get_92 : decode c_M_get 92 = .ok (.if_icmp .ne 7, 3) := by decide +kernel
theorem d_M_get_95 : decode c_M_get 95 = .ok (.iconst (-1), 1) := by decide +kernel
theorem d_M_get_96 : decode c_M_get 96 = .ok (.goto 29, 3) := by decide +kernel
theorem d_M_get_99 : decode c_M_get 99 = .ok (.iload_n 3, 1) := by decide +kernel
theorem d_M_get_100 : decode c_M_get 100 = .ok (.iconst 4, 1) := by decide +kernel
theorem d_M_get_101 : decode c_M_get 101 = .ok (.if_icmp .ne 13, 3) := by decide +kernel
theorem d_M_get_104 : decode c_M_get 104 = .ok (.aload_n 0, 1) := by decide +kernel
theorem d_M_get_105 : decode c_M_get 105 = .ok (.getfield 50, 3) := by decide +kernel
theorem d_M_get_108 : decode c_M_get 108 = .ok (.iload 5, 2) := by decide +kernel
theorem d_M_get_110 : decode c_M_get 110 = .ok (.iaload, 1) := by decide +kernel
theorem d_M_get_111 : decode c_M_get 111 = .ok (.goto 14, 3) := by decide +kernel
theorem d_M_get_114 : decode c_M_get 114 = .ok (.aload_n 0, 1) := by decide +kernel
theorem d_M_get_115 : decode c_M_get 115 = .ok (.getfield 53, 3) := by decide +kernel
theorem d_M_get_118 : decode c_M_get 118 = .ok (.iconst 4, 1) := by decide +kernel
theorem d_M_get_119 : decode c_M_get 119 = .ok (.iload 5, 2) := by decide +kernel
theorem d_M_get_121 : decode c_M_get 121 = .ok (.imul, 1) := by decide +kernel
theorem d_M_get_122 : decode c_M_get 122 = .ok (.iload_n 3, 1) := by decide +kernel
theorem d_M_get_123 : decode c_M_get 123 = .ok (.iadd, 1) := by decide +kernel
theorem d_M_get_124 : decode c_M_get 124 = .ok (.iaload, 1) := by decide +kernel
theorem d_M_get_125 : decode c_M_get 125 = .ok (.ireturn, 1) := by decide +kernel
set_option maxRecDepth 20000 in
set_option maxHeartbeats 4000000 in
theorem m_M_get_no {E : kx_E} {w : va_W} {ma : Nat → Nat} {F : Nat → Int32} {A : Nat → Nat → Int32} (hM : Mdl E w ma F A) {n : Nat} {X : Fx} {D : Dy} (hR : ModR n X D A) (hX : WfX n X) (hD : WfD n D) (hn : F 1 = nI n) {bi : Nat → Option Nat} (hB : BiR n X bi) {car v i : Int32} (hc0 : carI bi car = none) : kx_S E Y_M_get [.ref (ma 0), .int car, .int v, .int i] w (MX E w ma (up1 F 0 (nI 1)) A (some (.int (nI 0)))) := by
  refine kx_go (by decide) rfl rfl (Nat.le_of_ble_eq_true rfl) (kx_cc rfl (kx_cc rfl (kx_cc rfl (kx_cc rfl kx_c0)))) (fun z => ?_)
  have hO : kx_off w w mdlN := kx_off.rf
  have h24 := hX.1
  refine kx_aload_n d_M_get_0 rfl (by first | rfl | exact kx_rf _) ?_
  refine kx_iload_n d_M_get_1 rfl ?_
  refine kx_callV (as := [.int car]) (rest := []) d_M_get_2 v_M_97 rfl hM.1 rfl rfl (by decide) (by decide) (Nat.le_of_ble_eq_true rfl) (by decide) (by decide) rfl (m_M_findN hM hR hX hD hn hB hc0) (fun X w1 h => by cases h.1) (fun v w1 hq9 => ?_)
  obtain ⟨hv, hw9⟩ := hq9
  cases hv
  subst hw9
  refine kx_stk (st1 := [.int (-1)]) rfl ?_
  refine kx_istore d_M_get_5 (by decide) ?_
  refine kx_aload_n d_M_get_7 rfl (by first | rfl | exact kx_rf _) ?_
  refine kx_iload d_M_get_8 rfl ?_
  refine kx_iconst (-1) d_M_get_10 (by decide) ?_
  refine kx_icmp_eq 18 d_M_get_11 (by decide) (fun _ => ?_) (fun h => absurd rfl h)
  refine kx_iconst (nI 0) d_M_get_18 (by decide) ?_
  refine kx_iload_n d_M_get_19 rfl ?_
  refine kx_if_lt 32 d_M_get_20 (by decide) ?_ ?_
  · intro h20
    refine kx_iconst (nI 0) d_M_get_32 (by decide) ?_
    refine kx_iconst (nI 1) d_M_get_33 (by decide) ?_
    refine kx_callV (as := [.int (nI _), .int (nI _), .int (nI _)]) (rest := []) d_M_get_34 v_M_101 rfl hM.1 rfl rfl (by decide) (by decide) (Nat.le_of_ble_eq_true rfl) (by decide) (by decide) rfl (m_M_goes hM (by decide) (by decide) (by decide)) (fun X w1 h => by cases h.1) (fun v w hq9 => ?_)
    obtain ⟨hv, hM, hO9⟩ := hq9
    cases hv
    have hO := hO.tr hO9 (fun _ h => h) (fun _ h => h)
    refine kx_stk (st1 := [.int (nI 0)]) rfl ?_
    refine kx_if_ne_n 42 d_M_get_37 (by decide) (by decide) (fun h => absurd rfl h) (fun _ => ?_)
    refine kx_iconst (nI 0) d_M_get_40 (by decide) ?_
    refine kx_iret d_M_get_41 rfl (by decide) (by decide) ?_
    exact ⟨rfl, hM, hO⟩
  · intro h20
    refine kx_iload_n d_M_get_23 rfl ?_
    refine kx_iconst (nI 4) d_M_get_24 (by decide) ?_
    refine kx_icmp_gt 32 d_M_get_25 (by decide) ?_ ?_
    · intro h25
      refine kx_iconst (nI 0) d_M_get_32 (by decide) ?_
      refine kx_iconst (nI 1) d_M_get_33 (by decide) ?_
      refine kx_callV (as := [.int (nI _), .int (nI _), .int (nI _)]) (rest := []) d_M_get_34 v_M_101 rfl hM.1 rfl rfl (by decide) (by decide) (Nat.le_of_ble_eq_true rfl) (by decide) (by decide) rfl (m_M_goes hM (by decide) (by decide) (by decide)) (fun X w1 h => by cases h.1) (fun v w hq9 => ?_)
      obtain ⟨hv, hM, hO9⟩ := hq9
      cases hv
      have hO := hO.tr hO9 (fun _ h => h) (fun _ h => h)
      refine kx_stk (st1 := [.int (nI 0)]) rfl ?_
      refine kx_if_ne_n 42 d_M_get_37 (by decide) (by decide) (fun h => absurd rfl h) (fun _ => ?_)
      refine kx_iconst (nI 0) d_M_get_40 (by decide) ?_
      refine kx_iret d_M_get_41 rfl (by decide) (by decide) ?_
      exact ⟨rfl, hM, hO⟩
    · intro h25
      refine kx_iconst (nI 1) d_M_get_28 (by decide) ?_
      refine kx_goto 33 d_M_get_29 (by decide) ?_
      refine kx_iconst (nI 1) d_M_get_33 (by decide) ?_
      refine kx_callV (as := [.int (nI _), .int (nI _), .int (nI _)]) (rest := []) d_M_get_34 v_M_101 rfl hM.1 rfl rfl (by decide) (by decide) (Nat.le_of_ble_eq_true rfl) (by decide) (by decide) rfl (m_M_goes hM (by decide) (by decide) (by decide)) (fun X w1 h => by cases h.1) (fun v w hq9 => ?_)
      obtain ⟨hv, hM, hO9⟩ := hq9
      cases hv
      have hO := hO.tr hO9 (fun _ h => h) (fun _ h => h)
      refine kx_stk (st1 := [.int (nI 0)]) rfl ?_
      refine kx_if_ne_n 42 d_M_get_37 (by decide) (by decide) (fun h => absurd rfl h) (fun _ => ?_)
      refine kx_iconst (nI 0) d_M_get_40 (by decide) ?_
      refine kx_iret d_M_get_41 rfl (by decide) (by decide) ?_
      exact ⟨rfl, hM, hO⟩
set_option maxRecDepth 20000 in
set_option maxHeartbeats 4000000 in
theorem m_M_get_bad {E : kx_E} {w : va_W} {ma : Nat → Nat} {F : Nat → Int32} {A : Nat → Nat → Int32} (hM : Mdl E w ma F A) {n : Nat} {X : Fx} {D : Dy} (hR : ModR n X D A) (hX : WfX n X) (hD : WfD n D) (hn : F 1 = nI n) {bi : Nat → Option Nat} (hB : BiR n X bi) {car v i : Int32} {c : Nat} (hc0 : carI bi car = some c) (hv : i < 0 ∨ nI 4 < i) : kx_S E Y_M_get [.ref (ma 0), .int car, .int v, .int i] w (MX E w ma (up1 F 0 (nI 2)) A (some (.int (nI 0)))) := by
  refine kx_go (by decide) rfl rfl (Nat.le_of_ble_eq_true rfl) (kx_cc rfl (kx_cc rfl (kx_cc rfl (kx_cc rfl kx_c0)))) (fun z => ?_)
  have hO : kx_off w w mdlN := kx_off.rf
  have h24 := hX.1
  have hc := hB.c hc0
  refine kx_aload_n d_M_get_0 rfl (by first | rfl | exact kx_rf _) ?_
  refine kx_iload_n d_M_get_1 rfl ?_
  refine kx_callV (as := [.int car]) (rest := []) d_M_get_2 v_M_97 rfl hM.1 rfl rfl (by decide) (by decide) (Nat.le_of_ble_eq_true rfl) (by decide) (by decide) rfl (m_M_findC hM hR hX hD hn hB hc0) (fun X w1 h => by cases h.1) (fun v w1 hq9 => ?_)
  obtain ⟨hv, hw9⟩ := hq9
  cases hv
  subst hw9
  refine kx_stk (st1 := [.int (nI c)]) rfl ?_
  refine kx_istore d_M_get_5 (by decide) ?_
  refine kx_aload_n d_M_get_7 rfl (by first | rfl | exact kx_rf _) ?_
  refine kx_iload d_M_get_8 rfl ?_
  refine kx_iconst (-1) d_M_get_10 (by decide) ?_
  refine kx_icmp_eq 18 d_M_get_11 (by decide) (fun h => absurd h (nI_m1 (by omega))) (fun _ => ?_)
  refine kx_iconst (nI 1) d_M_get_14 (by decide) ?_
  refine kx_goto 19 d_M_get_15 (by decide) ?_
  refine kx_iload_n d_M_get_19 rfl ?_
  refine kx_if_lt 32 d_M_get_20 (by decide) ?_ ?_
  · intro h20
    refine kx_iconst (nI 0) d_M_get_32 (by decide) ?_
    refine kx_iconst (nI 1) d_M_get_33 (by decide) ?_
    refine kx_callV (as := [.int (nI _), .int (nI _), .int (nI _)]) (rest := []) d_M_get_34 v_M_101 rfl hM.1 rfl rfl (by decide) (by decide) (Nat.le_of_ble_eq_true rfl) (by decide) (by decide) rfl (m_M_goes hM (by decide) (by decide) (by decide)) (fun X w1 h => by cases h.1) (fun v w hq9 => ?_)
    obtain ⟨hv, hM, hO9⟩ := hq9
    cases hv
    have hO := hO.tr hO9 (fun _ h => h) (fun _ h => h)
    refine kx_stk (st1 := [.int (nI 0)]) rfl ?_
    refine kx_if_ne_n 42 d_M_get_37 (by decide) (by decide) (fun h => absurd rfl h) (fun _ => ?_)
    refine kx_iconst (nI 0) d_M_get_40 (by decide) ?_
    refine kx_iret d_M_get_41 rfl (by decide) (by decide) ?_
    exact ⟨rfl, hM, hO⟩
  · intro h20
    refine kx_iload_n d_M_get_23 rfl ?_
    refine kx_iconst (nI 4) d_M_get_24 (by decide) ?_
    refine kx_icmp_gt 32 d_M_get_25 (by decide) ?_ ?_
    · intro h25
      refine kx_iconst (nI 0) d_M_get_32 (by decide) ?_
      refine kx_iconst (nI 1) d_M_get_33 (by decide) ?_
      refine kx_callV (as := [.int (nI _), .int (nI _), .int (nI _)]) (rest := []) d_M_get_34 v_M_101 rfl hM.1 rfl rfl (by decide) (by decide) (Nat.le_of_ble_eq_true rfl) (by decide) (by decide) rfl (m_M_goes hM (by decide) (by decide) (by decide)) (fun X w1 h => by cases h.1) (fun v w hq9 => ?_)
      obtain ⟨hv, hM, hO9⟩ := hq9
      cases hv
      have hO := hO.tr hO9 (fun _ h => h) (fun _ h => h)
      refine kx_stk (st1 := [.int (nI 0)]) rfl ?_
      refine kx_if_ne_n 42 d_M_get_37 (by decide) (by decide) (fun h => absurd rfl h) (fun _ => ?_)
      refine kx_iconst (nI 0) d_M_get_40 (by decide) ?_
      refine kx_iret d_M_get_41 rfl (by decide) (by decide) ?_
      exact ⟨rfl, hM, hO⟩
    · intro h25
      exact absurd hv (by rintro (h | h); exact h20 h; exact h25 h)
def getM (D : Dy) (c j i : Nat) : Int32 := if dAg D c ((dDi D c).getD j 0 / 2) = -1 then -1 else if i = 4 then dAg D c ((dDi D c).getD j 0 / 2) else dBy D c ((dDi D c).getD j 0 / 2) i
set_option maxRecDepth 20000 in
set_option maxHeartbeats 4000000 in
theorem m_M_get {E : kx_E} {w : va_W} {ma : Nat → Nat} {F : Nat → Int32} {A : Nat → Nat → Int32} (hM : Mdl E w ma F A) {n : Nat} {X : Fx} {D : Dy} (hR : ModR n X D A) (hX : WfX n X) (hD : WfD n D) (hn : F 1 = nI n) {bi : Nat → Option Nat} (hB : BiR n X bi) {car : Int32} {c j i : Nat} (hc0 : carI bi car = some c) (hi : i ≤ 4) (hj : j < (dDi D c).length) : kx_S E Y_M_get [.ref (ma 0), .int car, .int (nI (j + 1)), .int (nI i)] w (MX E w ma (up1 F 0 (nI 0)) A (some (.int (getM D c j i)))) := by
  refine kx_go (by decide) rfl rfl (Nat.le_of_ble_eq_true rfl) (kx_cc rfl (kx_cc rfl (kx_cc rfl (kx_cc rfl kx_c0)))) (fun z => ?_)
  have hO : kx_off w w mdlN := kx_off.rf
  have h24 := hX.1
  have hc := hB.c hc0
  have hd := hR.dis c hc
  have bd := (hD.2.2 c hc).1
  have bd24 := bd.1
  have hb := bd.get hj
  have ha := hR.ags c ((dDi D c).getD j 0 / 2) hc (by omega)
  refine kx_aload_n d_M_get_0 rfl (by first | rfl | exact kx_rf _) ?_
  refine kx_iload_n d_M_get_1 rfl ?_
  refine kx_callV (as := [.int car]) (rest := []) d_M_get_2 v_M_97 rfl hM.1 rfl rfl (by decide) (by decide) (Nat.le_of_ble_eq_true rfl) (by decide) (by decide) rfl (m_M_findC hM hR hX hD hn hB hc0) (fun X w1 h => by cases h.1) (fun v w1 hq9 => ?_)
  obtain ⟨hv, hw9⟩ := hq9
  cases hv
  subst hw9
  refine kx_stk (st1 := [.int (nI c)]) rfl ?_
  refine kx_istore d_M_get_5 (by decide) ?_
  refine kx_aload_n d_M_get_7 rfl (by first | rfl | exact kx_rf _) ?_
  refine kx_iload d_M_get_8 rfl ?_
  refine kx_iconst (-1) d_M_get_10 (by decide) ?_
  refine kx_icmp_eq 18 d_M_get_11 (by decide) (fun h => absurd h (nI_m1 (by omega))) (fun _ => ?_)
  refine kx_iconst (nI 1) d_M_get_14 (by decide) ?_
  refine kx_goto 19 d_M_get_15 (by decide) ?_
  refine kx_iload_n d_M_get_19 rfl ?_
  refine kx_if_lt_n 32 d_M_get_20 (by decide) (by omega) ?_
  refine kx_iload_n d_M_get_23 rfl ?_
  refine kx_iconst (nI 4) d_M_get_24 (by decide) ?_
  first | refine kx_icmp_gt_n 32 d_M_get_25 (by decide) (by omega) (by omega) ?_ ?_ | refine kx_icmp_gt 32 d_M_get_25 (by decide) ?_ ?_
  · intro h25
    exact absurd h25 (by omega)
  · intro h25
    refine kx_iconst (nI 1) d_M_get_28 (by decide) ?_
    refine kx_goto 33 d_M_get_29 (by decide) ?_
    refine kx_iconst (nI 1) d_M_get_33 (by decide) ?_
    refine kx_callV (as := [.int (nI _), .int (nI _), .int (nI _)]) (rest := []) d_M_get_34 v_M_101 rfl hM.1 rfl rfl (by decide) (by decide) (Nat.le_of_ble_eq_true rfl) (by decide) (by decide) rfl (m_M_goes hM (by decide) (by decide) (by decide)) (fun X w1 h => by cases h.1) (fun v w hq9 => ?_)
    obtain ⟨hv, hM, hO9⟩ := hq9
    cases hv
    have hO := hO.tr hO9 (fun _ h => h) (fun _ h => h)
    refine kx_stk (st1 := [.int (nI 1)]) rfl ?_
    refine kx_if_ne_n 42 d_M_get_37 (by decide) (by decide) (fun _ => ?_) (fun h => absurd h (by decide))
    refine kx_iload_n d_M_get_42 rfl ?_
    refine kx_iconst (nI 1) d_M_get_43 (by decide) ?_
    first | refine kx_icmp_lt_n 58 d_M_get_44 (by decide) (by omega) (by omega) ?_ ?_ | refine kx_icmp_lt 58 d_M_get_44 (by decide) ?_ ?_
    · intro h44
      first
        | exact absurd h44 (by omega)
        | exact absurd h55 (by omega)
    · intro h44
      refine kx_iload_n d_M_get_47 rfl ?_
      refine kx_aload_n d_M_get_48 rfl (by first | rfl | exact kx_rf _) ?_
      refine kx_get _ d_M_get_49 f_M_41 hM.1 (by rfl) ?_
      refine kx_iload d_M_get_52 rfl ?_
      refine kx_iald d_M_get_54 hM.a10 (by omega) (by decide) ?_
      rw [hd.1]
      first | refine kx_icmp_le_n 60 d_M_get_55 (by decide) (by omega) (by omega) ?_ ?_ | refine kx_icmp_le 60 d_M_get_55 (by decide) ?_ ?_
      · intro h55
        refine kx_bipush (nI 24) d_M_get_60 (by decide) ?_
        refine kx_iload d_M_get_62 rfl ?_
        first | refine kx_imul _ d_M_get_64 (pk_mul _ _) ?_ | refine kx_imul _ d_M_get_64 rfl ?_
        refine kx_aload_n d_M_get_65 rfl (by first | rfl | exact kx_rf _) ?_
        refine kx_get _ d_M_get_66 f_M_38 hM.1 (by rfl) ?_
        refine kx_bipush (nI 24) d_M_get_69 (by decide) ?_
        refine kx_iload d_M_get_71 rfl ?_
        first | refine kx_imul _ d_M_get_73 (pk_mul _ _) ?_ | refine kx_imul _ d_M_get_73 rfl ?_
        refine kx_iload_n d_M_get_74 rfl ?_
        first | refine kx_iadd _ d_M_get_75 (nI_add _ _) ?_ | refine kx_iadd _ d_M_get_75 rfl ?_
        refine kx_iconst (nI 1) d_M_get_76 (by decide) ?_
        refine kx_isub _ d_M_get_77 (pk_sub (by omega)) ?_
        refine kx_iald d_M_get_78 hM.a9 (by omega) (by decide) ?_
        rw [show 24 * c + (j + 1) - 1 = 24 * c + j by omega, hd.2 j hj]
        refine kx_iconst (nI 2) d_M_get_79 (by decide) ?_
        refine kx_idiv _ d_M_get_80 (by decide) (pk_div (by omega) (by omega) (by omega)) ?_
        first | refine kx_iadd _ d_M_get_81 (nI_add _ _) ?_ | refine kx_iadd _ d_M_get_81 rfl ?_
        refine kx_istore d_M_get_82 (by decide) ?_
        refine kx_aload_n d_M_get_84 rfl (by first | rfl | exact kx_rf _) ?_
        refine kx_get _ d_M_get_85 f_M_50 hM.1 (by rfl) ?_
        refine kx_iload d_M_get_88 rfl ?_
        refine kx_iald d_M_get_90 hM.a13 (by omega) (by decide) ?_
        rw [ha]
        refine kx_iconst (-1) d_M_get_91 (by decide) ?_
        refine kx_icmp_ne 99 d_M_get_92 (by decide) ?_ ?_
        · intro h92
          refine kx_iload_n d_M_get_99 rfl ?_
          refine kx_iconst (nI 4) d_M_get_100 (by decide) ?_
          first | refine kx_icmp_ne_n 114 d_M_get_101 (by decide) (by omega) (by omega) ?_ ?_ | refine kx_icmp_ne 114 d_M_get_101 (by decide) ?_ ?_
          · intro h101
            refine kx_aload_n d_M_get_114 rfl (by first | rfl | exact kx_rf _) ?_
            refine kx_get _ d_M_get_115 f_M_53 hM.1 (by rfl) ?_
            refine kx_iconst (nI 4) d_M_get_118 (by decide) ?_
            refine kx_iload d_M_get_119 rfl ?_
            first | refine kx_imul _ d_M_get_121 (pk_mul _ _) ?_ | refine kx_imul _ d_M_get_121 rfl ?_
            refine kx_iload_n d_M_get_122 rfl ?_
            first | refine kx_iadd _ d_M_get_123 (nI_add _ _) ?_ | refine kx_iadd _ d_M_get_123 rfl ?_
            refine kx_iald d_M_get_124 hM.a14 (by omega) (by decide) ?_
            rw [hR.bys c _ i hc (by omega) (by omega)]
            refine kx_iret d_M_get_125 rfl (by decide) (by decide) ?_
            unfold getM
            first
              | (rw [if_pos h92]; exact ⟨rfl, hM, hO⟩)
              | (rw [if_neg h92, if_pos h101]; exact ⟨rfl, hM, hO⟩)
              | (rw [if_neg h92, if_neg h101]; exact ⟨rfl, hM, hO⟩)
          · intro h101
            refine kx_aload_n d_M_get_104 rfl (by first | rfl | exact kx_rf _) ?_
            refine kx_get _ d_M_get_105 f_M_50 hM.1 (by rfl) ?_
            refine kx_iload d_M_get_108 rfl ?_
            refine kx_iald d_M_get_110 hM.a13 (by omega) (by decide) ?_
            rw [ha]
            refine kx_goto 125 d_M_get_111 (by decide) ?_
            refine kx_iret d_M_get_125 rfl (by decide) (by decide) ?_
            unfold getM
            first
              | (rw [if_pos h92]; exact ⟨rfl, hM, hO⟩)
              | (rw [if_neg h92, if_pos h101]; exact ⟨rfl, hM, hO⟩)
              | (rw [if_neg h92, if_neg h101]; exact ⟨rfl, hM, hO⟩)
        · intro h92
          refine kx_iconst (-1) d_M_get_95 (by decide) ?_
          refine kx_goto 125 d_M_get_96 (by decide) ?_
          refine kx_iret d_M_get_125 rfl (by decide) (by decide) ?_
          unfold getM
          first
            | (rw [if_pos h92]; exact ⟨rfl, hM, hO⟩)
            | (rw [if_neg h92, if_pos h101]; exact ⟨rfl, hM, hO⟩)
            | (rw [if_neg h92, if_neg h101]; exact ⟨rfl, hM, hO⟩)
      · intro h55
        first
          | exact absurd h44 (by omega)
          | exact absurd h55 (by omega)
set_option maxRecDepth 20000 in
set_option maxHeartbeats 4000000 in
theorem m_M_get_out {E : kx_E} {w : va_W} {ma : Nat → Nat} {F : Nat → Int32} {A : Nat → Nat → Int32} (hM : Mdl E w ma F A) {n : Nat} {X : Fx} {D : Dy} (hR : ModR n X D A) (hX : WfX n X) (hD : WfD n D) (hn : F 1 = nI n) {bi : Nat → Option Nat} (hB : BiR n X bi) {car v : Int32} {c i : Nat} (hc0 : carI bi car = some c) (hi : i ≤ 4) (hj : v < nI 1 ∨ nI (dDi D c).length < v) : kx_S E Y_M_get [.ref (ma 0), .int car, .int v, .int (nI i)] w (MX E w ma (up1 F 0 (nI 0)) A (some (.int (-1)))) := by
  refine kx_go (by decide) rfl rfl (Nat.le_of_ble_eq_true rfl) (kx_cc rfl (kx_cc rfl (kx_cc rfl (kx_cc rfl kx_c0)))) (fun z => ?_)
  have hO : kx_off w w mdlN := kx_off.rf
  have h24 := hX.1
  have hc := hB.c hc0
  have hd := hR.dis c hc
  have bd := (hD.2.2 c hc).1
  have bd24 := bd.1
  refine kx_aload_n d_M_get_0 rfl (by first | rfl | exact kx_rf _) ?_
  refine kx_iload_n d_M_get_1 rfl ?_
  refine kx_callV (as := [.int car]) (rest := []) d_M_get_2 v_M_97 rfl hM.1 rfl rfl (by decide) (by decide) (Nat.le_of_ble_eq_true rfl) (by decide) (by decide) rfl (m_M_findC hM hR hX hD hn hB hc0) (fun X w1 h => by cases h.1) (fun v w1 hq9 => ?_)
  obtain ⟨hv, hw9⟩ := hq9
  cases hv
  subst hw9
  refine kx_stk (st1 := [.int (nI c)]) rfl ?_
  refine kx_istore d_M_get_5 (by decide) ?_
  refine kx_aload_n d_M_get_7 rfl (by first | rfl | exact kx_rf _) ?_
  refine kx_iload d_M_get_8 rfl ?_
  refine kx_iconst (-1) d_M_get_10 (by decide) ?_
  refine kx_icmp_eq 18 d_M_get_11 (by decide) (fun h => absurd h (nI_m1 (by omega))) (fun _ => ?_)
  refine kx_iconst (nI 1) d_M_get_14 (by decide) ?_
  refine kx_goto 19 d_M_get_15 (by decide) ?_
  refine kx_iload_n d_M_get_19 rfl ?_
  refine kx_if_lt_n 32 d_M_get_20 (by decide) (by omega) ?_
  refine kx_iload_n d_M_get_23 rfl ?_
  refine kx_iconst (nI 4) d_M_get_24 (by decide) ?_
  first | refine kx_icmp_gt_n 32 d_M_get_25 (by decide) (by omega) (by omega) ?_ ?_ | refine kx_icmp_gt 32 d_M_get_25 (by decide) ?_ ?_
  · intro h25
    exact absurd h25 (by omega)
  · intro h25
    refine kx_iconst (nI 1) d_M_get_28 (by decide) ?_
    refine kx_goto 33 d_M_get_29 (by decide) ?_
    refine kx_iconst (nI 1) d_M_get_33 (by decide) ?_
    refine kx_callV (as := [.int (nI _), .int (nI _), .int (nI _)]) (rest := []) d_M_get_34 v_M_101 rfl hM.1 rfl rfl (by decide) (by decide) (Nat.le_of_ble_eq_true rfl) (by decide) (by decide) rfl (m_M_goes hM (by decide) (by decide) (by decide)) (fun X w1 h => by cases h.1) (fun v w hq9 => ?_)
    obtain ⟨hv, hM, hO9⟩ := hq9
    cases hv
    have hO := hO.tr hO9 (fun _ h => h) (fun _ h => h)
    refine kx_stk (st1 := [.int (nI 1)]) rfl ?_
    refine kx_if_ne_n 42 d_M_get_37 (by decide) (by decide) (fun _ => ?_) (fun h => absurd h (by decide))
    refine kx_iload_n d_M_get_42 rfl ?_
    refine kx_iconst (nI 1) d_M_get_43 (by decide) ?_
    refine kx_icmp_lt 58 d_M_get_44 (by decide) ?_ ?_
    · intro h44
      refine kx_iconst (-1) d_M_get_58 (by decide) ?_
      refine kx_iret d_M_get_59 rfl (by decide) (by decide) ?_
      exact ⟨rfl, hM, hO⟩
    · intro h44
      refine kx_iload_n d_M_get_47 rfl ?_
      refine kx_aload_n d_M_get_48 rfl (by first | rfl | exact kx_rf _) ?_
      refine kx_get _ d_M_get_49 f_M_41 hM.1 (by rfl) ?_
      refine kx_iload d_M_get_52 rfl ?_
      refine kx_iald d_M_get_54 hM.a10 (by omega) (by decide) ?_
      rw [hd.1]
      refine kx_icmp_le 60 d_M_get_55 (by decide) ?_ ?_
      · intro h55
        exact absurd hj (by rintro (h | h); exact h44 h; exact absurd h55 (i32_nle.mpr h))
      · intro h55
        refine kx_iconst (-1) d_M_get_58 (by decide) ?_
        refine kx_iret d_M_get_59 rfl (by decide) (by decide) ?_
        exact ⟨rfl, hM, hO⟩
theorem d_M_side_0 : decode c_M_side 0 = .ok (.aload_n 0, 1) := by decide +kernel
theorem d_M_side_1 : decode c_M_side 1 = .ok (.iload_n 1, 1) := by decide +kernel
theorem d_M_side_2 : decode c_M_side 2 = .ok (.invokevirtual 97, 3) := by decide +kernel
theorem d_M_side_5 : decode c_M_side 5 = .ok (.istore 4, 2) := by decide +kernel
theorem d_M_side_7 : decode c_M_side 7 = .ok (.aload_n 0, 1) := by decide +kernel
theorem d_M_side_8 : decode c_M_side 8 = .ok (.iload 4, 2) := by decide +kernel
theorem d_M_side_10 : decode c_M_side 10 = .ok (.iconst (-1), 1) := by decide +kernel
theorem d_M_side_11 : decode c_M_side 11 = .ok (.if_icmp .eq 7, 3) := by decide +kernel
theorem d_M_side_14 : decode c_M_side 14 = .ok (.iconst 1, 1) := by decide +kernel
theorem d_M_side_15 : decode c_M_side 15 = .ok (.goto 4, 3) := by decide +kernel
theorem d_M_side_18 : decode c_M_side 18 = .ok (.iconst 0, 1) := by decide +kernel
theorem d_M_side_19 : decode c_M_side 19 = .ok (.iload_n 3, 1) := by decide +kernel
theorem d_M_side_20 : decode c_M_side 20 = .ok (.ifCond .lt 13, 3) := by decide +kernel
theorem d_M_side_23 : decode c_M_side 23 = .ok (.iload_n 3, 1) := by decide +kernel
theorem d_M_side_24 : decode c_M_side 24 = .ok (.bipush 16, 2) := by decide +kernel
theorem d_M_side_26 : decode c_M_side 26 = .ok (.if_icmp .ge 7, 3) := by decide +kernel
theorem d_M_side_29 : decode c_M_side 29 = .ok (.iconst 1, 1) := by decide +kernel
theorem d_M_side_30 : decode c_M_side 30 = .ok (.goto 4, 3) := by decide +kernel
theorem d_M_side_33 : decode c_M_side 33 = .ok (.iconst 0, 1) := by decide +kernel
theorem d_M_side_34 : decode c_M_side 34 = .ok (.iconst 1, 1) := by decide +kernel
theorem d_M_side_35 : decode c_M_side 35 = .ok (.invokevirtual 101, 3) := by decide +kernel
theorem d_M_side_38 : decode c_M_side 38 = .ok (.ifCond .ne 5, 3) := by decide +kernel
theorem d_M_side_41 : decode c_M_side 41 = .ok (.iconst 0, 1) := by decide +kernel
theorem d_M_side_42 : decode c_M_side 42 = .ok (.ireturn, 1) := by decide +kernel
theorem d_M_side_43 : decode c_M_side 43 = .ok (.iload_n 2, 1) := by decide +kernel
theorem d_M_side_44 : decode c_M_side 44 = .ok (.iconst 1, 1) := by decide +kernel
theorem d_M_side_45 : decode c_M_side 45 = .ok (.if_icmp .lt 14, 3) := by decide +kernel
theorem d_M_side_48 : decode c_M_side 48 = .ok (.iload_n 2, 1) := by decide +kernel
theorem d_M_side_49 : decode c_M_side 49 = .ok (.aload_n 0, 1) := by decide +kernel
theorem d_M_side_50 : decode c_M_side 50 = .ok (.getfield 41, 3) := by decide +kernel
theorem d_M_side_53 : decode c_M_side 53 = .ok (.iload 4, 2) := by decide +kernel
theorem d_M_side_55 : decode c_M_side 55 = .ok (.iaload, 1) := by decide +kernel
theorem d_M_side_56 : decode c_M_side 56 = .ok (.if_icmp .le 5, 3) := by decide +kernel
theorem d_M_side_59 : decode c_M_side 59 = .ok (.iconst (-1), 1) := by decide +kernel
theorem d_M_side_60 : decode c_M_side 60 = .ok (.ireturn, 1) := by decide +kernel
theorem d_M_side_61 : decode c_M_side 61 = .ok (.aload_n 0, 1) := by decide +kernel
theorem d_M_side_62 : decode c_M_side 62 = .ok (.getfield 38, 3) := by decide +kernel
theorem d_M_side_65 : decode c_M_side 65 = .ok (.bipush 24, 2) := by decide +kernel
theorem d_M_side_67 : decode c_M_side 67 = .ok (.iload 4, 2) := by decide +kernel
theorem d_M_side_69 : decode c_M_side 69 = .ok (.imul, 1) := by decide +kernel
theorem d_M_side_70 : decode c_M_side 70 = .ok (.iload_n 2, 1) := by decide +kernel
theorem d_M_side_71 : decode c_M_side 71 = .ok (.iadd, 1) := by decide +kernel
theorem d_M_side_72 : decode c_M_side 72 = .ok (.iconst 1, 1) := by decide +kernel
theorem d_M_side_73 : decode c_M_side 73 = .ok (.isub, 1) := by decide +kernel
theorem d_M_side_74 : decode c_M_side 74 = .ok (.iaload, 1) := by decide +kernel
theorem d_M_side_75 : decode c_M_side 75 = .ok (.istore 5, 2) := by decide +kernel
theorem d_M_side_77 : decode c_M_side 77 = .ok (.iload_n 3, 1) := by decide +kernel
theorem d_M_side_78 : decode c_M_side 78 = .ok (.bipush 8, 2) := by decide +kernel
theorem d_M_side_80 : decode c_M_side 80 = .ok (.if_icmp .ge 12, 3) := by decide +kernel
theorem d_M_side_83 : decode c_M_side 83 = .ok (.iload_n 3, 1) := by decide +kernel
theorem d_M_side_84 : decode c_M_side 84 = .ok (.iload 5, 2) := by decide +kernel
theorem d_M_side_86 : decode c_M_side 86 = .ok (.iconst 2, 1) := by decide +kernel
theorem d_M_side_87 : decode c_M_side 87 = .ok (.irem, 1) := by decide +kernel
theorem d_M_side_88 : decode c_M_side 88 = .ok (.ixor, 1) := by decide +kernel
theorem d_M_side_89 : decode c_M_side 89 = .ok (.goto 4, 3) := by decide +kernel
theorem d_M_side_92 : decode c_M_side 92 = .ok (.iload_n 3, 1) := by decide +kernel
theorem d_M_side_93 : decode c_M_side 93 = .ok (.istore 6, 2) := by decide +kernel
theorem d_M_side_95 : decode c_M_side 95 = .ok (.aload_n 0, 1) := by decide +kernel
theorem d_M_side_96 : decode c_M_side 96 = .ok (.getfield 13, 3) := by decide +kernel
theorem d_M_side_99 : decode c_M_side 99 = .ok (.iload 5, 2) := by decide +kernel
theorem d_M_side_101 : decode c_M_side 101 = .ok (.iconst 2, 1) := by decide +kernel
theorem d_M_side_102 : decode c_M_side 102 = .ok (.idiv, 1) := by decide +kernel
theorem d_M_side_103 : decode c_M_side 103 = .ok (.iaload, 1) := by decide +kernel
theorem d_M_side_104 : decode c_M_side 104 = .ok (.iload 6, 2) := by decide +kernel
theorem d_M_side_106 : decode c_M_side 106 = .ok (.ishr, 1) := by decide +kernel
theorem d_M_side_107 : decode c_M_side 107 = .ok (.iconst 1, 1) := by decide +kernel
theorem d_M_side_108 : decode c_M_side 108 = .ok (.iand, 1) := by decide +kernel
theorem d_M_side_109 : decode c_M_side 109 = .ok (.iconst 1, 1) := by decide +kernel
theorem d_M_side_110 : decode c_M_side 110 = .ok (.if_icmp .ne 8, 3) := by decide +kernel
theorem d_M_side_113 : decode c_M_side 113 = .ok (.iload 6, 2) := by decide +kernel
theorem d_M_side_115 : decode c_M_side 115 = .ok (.goto 4, 3) := by decide +kernel
theorem d_M_side_118 : decode c_M_side 118 = .ok (.iconst (-1), 1) := by decide +kernel
theorem d_M_side_119 : decode c_M_side 119 = .ok (.ireturn, 1) := by decide +kernel
set_option maxRecDepth 20000 in
set_option maxHeartbeats 4000000 in
theorem m_M_side_no {E : kx_E} {w : va_W} {ma : Nat → Nat} {F : Nat → Int32} {A : Nat → Nat → Int32} (hM : Mdl E w ma F A) {n : Nat} {X : Fx} {D : Dy} (hR : ModR n X D A) (hX : WfX n X) (hD : WfD n D) (hn : F 1 = nI n) {bi : Nat → Option Nat} (hB : BiR n X bi) {car v f : Int32} (hc0 : carI bi car = none) : kx_S E Y_M_side [.ref (ma 0), .int car, .int v, .int f] w (MX E w ma (up1 F 0 (nI 1)) A (some (.int (nI 0)))) := by
  refine kx_go (by decide) rfl rfl (Nat.le_of_ble_eq_true rfl) (kx_cc rfl (kx_cc rfl (kx_cc rfl (kx_cc rfl kx_c0)))) (fun z => ?_)
  have hO : kx_off w w mdlN := kx_off.rf
  have h24 := hX.1
  refine kx_aload_n d_M_side_0 rfl (by first | rfl | exact kx_rf _) ?_
  refine kx_iload_n d_M_side_1 rfl ?_
  refine kx_callV (as := [.int car]) (rest := []) d_M_side_2 v_M_97 rfl hM.1 rfl rfl (by decide) (by decide) (Nat.le_of_ble_eq_true rfl) (by decide) (by decide) rfl (m_M_findN hM hR hX hD hn hB hc0) (fun X w1 h => by cases h.1) (fun v w1 hq9 => ?_)
  obtain ⟨hv, hw9⟩ := hq9
  cases hv
  subst hw9
  refine kx_stk (st1 := [.int (-1)]) rfl ?_
  refine kx_istore d_M_side_5 (by decide) ?_
  refine kx_aload_n d_M_side_7 rfl (by first | rfl | exact kx_rf _) ?_
  refine kx_iload d_M_side_8 rfl ?_
  refine kx_iconst (-1) d_M_side_10 (by decide) ?_
  refine kx_icmp_eq 18 d_M_side_11 (by decide) (fun _ => ?_) (fun h => absurd rfl h)
  refine kx_iconst (nI 0) d_M_side_18 (by decide) ?_
  refine kx_iload_n d_M_side_19 rfl ?_
  refine kx_if_lt 33 d_M_side_20 (by decide) ?_ ?_
  · intro h20
    refine kx_iconst (nI 0) d_M_side_33 (by decide) ?_
    refine kx_iconst (nI 1) d_M_side_34 (by decide) ?_
    refine kx_callV (as := [.int (nI _), .int (nI _), .int (nI _)]) (rest := []) d_M_side_35 v_M_101 rfl hM.1 rfl rfl (by decide) (by decide) (Nat.le_of_ble_eq_true rfl) (by decide) (by decide) rfl (m_M_goes hM (by decide) (by decide) (by decide)) (fun X w1 h => by cases h.1) (fun v w hq9 => ?_)
    obtain ⟨hv, hM, hO9⟩ := hq9
    cases hv
    have hO := hO.tr hO9 (fun _ h => h) (fun _ h => h)
    refine kx_stk (st1 := [.int (nI 0)]) rfl ?_
    refine kx_if_ne_n 43 d_M_side_38 (by decide) (by decide) (fun h => absurd rfl h) (fun _ => ?_)
    refine kx_iconst (nI 0) d_M_side_41 (by decide) ?_
    refine kx_iret d_M_side_42 rfl (by decide) (by decide) ?_
    exact ⟨rfl, hM, hO⟩
  · intro h20
    refine kx_iload_n d_M_side_23 rfl ?_
    refine kx_bipush (nI 16) d_M_side_24 (by decide) ?_
    refine kx_icmp_ge 33 d_M_side_26 (by decide) ?_ ?_
    · intro h26
      refine kx_iconst (nI 0) d_M_side_33 (by decide) ?_
      refine kx_iconst (nI 1) d_M_side_34 (by decide) ?_
      refine kx_callV (as := [.int (nI _), .int (nI _), .int (nI _)]) (rest := []) d_M_side_35 v_M_101 rfl hM.1 rfl rfl (by decide) (by decide) (Nat.le_of_ble_eq_true rfl) (by decide) (by decide) rfl (m_M_goes hM (by decide) (by decide) (by decide)) (fun X w1 h => by cases h.1) (fun v w hq9 => ?_)
      obtain ⟨hv, hM, hO9⟩ := hq9
      cases hv
      have hO := hO.tr hO9 (fun _ h => h) (fun _ h => h)
      refine kx_stk (st1 := [.int (nI 0)]) rfl ?_
      refine kx_if_ne_n 43 d_M_side_38 (by decide) (by decide) (fun h => absurd rfl h) (fun _ => ?_)
      refine kx_iconst (nI 0) d_M_side_41 (by decide) ?_
      refine kx_iret d_M_side_42 rfl (by decide) (by decide) ?_
      exact ⟨rfl, hM, hO⟩
    · intro h26
      refine kx_iconst (nI 1) d_M_side_29 (by decide) ?_
      refine kx_goto 34 d_M_side_30 (by decide) ?_
      refine kx_iconst (nI 1) d_M_side_34 (by decide) ?_
      refine kx_callV (as := [.int (nI _), .int (nI _), .int (nI _)]) (rest := []) d_M_side_35 v_M_101 rfl hM.1 rfl rfl (by decide) (by decide) (Nat.le_of_ble_eq_true rfl) (by decide) (by decide) rfl (m_M_goes hM (by decide) (by decide) (by decide)) (fun X w1 h => by cases h.1) (fun v w hq9 => ?_)
      obtain ⟨hv, hM, hO9⟩ := hq9
      cases hv
      have hO := hO.tr hO9 (fun _ h => h) (fun _ h => h)
      refine kx_stk (st1 := [.int (nI 0)]) rfl ?_
      refine kx_if_ne_n 43 d_M_side_38 (by decide) (by decide) (fun h => absurd rfl h) (fun _ => ?_)
      refine kx_iconst (nI 0) d_M_side_41 (by decide) ?_
      refine kx_iret d_M_side_42 rfl (by decide) (by decide) ?_
      exact ⟨rfl, hM, hO⟩
set_option maxRecDepth 20000 in
set_option maxHeartbeats 4000000 in
theorem m_M_side_bad {E : kx_E} {w : va_W} {ma : Nat → Nat} {F : Nat → Int32} {A : Nat → Nat → Int32} (hM : Mdl E w ma F A) {n : Nat} {X : Fx} {D : Dy} (hR : ModR n X D A) (hX : WfX n X) (hD : WfD n D) (hn : F 1 = nI n) {bi : Nat → Option Nat} (hB : BiR n X bi) {car v f : Int32} {c : Nat} (hc0 : carI bi car = some c) (hv : f < 0 ∨ nI 16 ≤ f) : kx_S E Y_M_side [.ref (ma 0), .int car, .int v, .int f] w (MX E w ma (up1 F 0 (nI 2)) A (some (.int (nI 0)))) := by
  refine kx_go (by decide) rfl rfl (Nat.le_of_ble_eq_true rfl) (kx_cc rfl (kx_cc rfl (kx_cc rfl (kx_cc rfl kx_c0)))) (fun z => ?_)
  have hO : kx_off w w mdlN := kx_off.rf
  have h24 := hX.1
  have hc := hB.c hc0
  refine kx_aload_n d_M_side_0 rfl (by first | rfl | exact kx_rf _) ?_
  refine kx_iload_n d_M_side_1 rfl ?_
  refine kx_callV (as := [.int car]) (rest := []) d_M_side_2 v_M_97 rfl hM.1 rfl rfl (by decide) (by decide) (Nat.le_of_ble_eq_true rfl) (by decide) (by decide) rfl (m_M_findC hM hR hX hD hn hB hc0) (fun X w1 h => by cases h.1) (fun v w1 hq9 => ?_)
  obtain ⟨hv, hw9⟩ := hq9
  cases hv
  subst hw9
  refine kx_stk (st1 := [.int (nI c)]) rfl ?_
  refine kx_istore d_M_side_5 (by decide) ?_
  refine kx_aload_n d_M_side_7 rfl (by first | rfl | exact kx_rf _) ?_
  refine kx_iload d_M_side_8 rfl ?_
  refine kx_iconst (-1) d_M_side_10 (by decide) ?_
  refine kx_icmp_eq 18 d_M_side_11 (by decide) (fun h => absurd h (nI_m1 (by omega))) (fun _ => ?_)
  refine kx_iconst (nI 1) d_M_side_14 (by decide) ?_
  refine kx_goto 19 d_M_side_15 (by decide) ?_
  refine kx_iload_n d_M_side_19 rfl ?_
  refine kx_if_lt 33 d_M_side_20 (by decide) ?_ ?_
  · intro h20
    refine kx_iconst (nI 0) d_M_side_33 (by decide) ?_
    refine kx_iconst (nI 1) d_M_side_34 (by decide) ?_
    refine kx_callV (as := [.int (nI _), .int (nI _), .int (nI _)]) (rest := []) d_M_side_35 v_M_101 rfl hM.1 rfl rfl (by decide) (by decide) (Nat.le_of_ble_eq_true rfl) (by decide) (by decide) rfl (m_M_goes hM (by decide) (by decide) (by decide)) (fun X w1 h => by cases h.1) (fun v w hq9 => ?_)
    obtain ⟨hv, hM, hO9⟩ := hq9
    cases hv
    have hO := hO.tr hO9 (fun _ h => h) (fun _ h => h)
    refine kx_stk (st1 := [.int (nI 0)]) rfl ?_
    refine kx_if_ne_n 43 d_M_side_38 (by decide) (by decide) (fun h => absurd rfl h) (fun _ => ?_)
    refine kx_iconst (nI 0) d_M_side_41 (by decide) ?_
    refine kx_iret d_M_side_42 rfl (by decide) (by decide) ?_
    exact ⟨rfl, hM, hO⟩
  · intro h20
    refine kx_iload_n d_M_side_23 rfl ?_
    refine kx_bipush (nI 16) d_M_side_24 (by decide) ?_
    refine kx_icmp_ge 33 d_M_side_26 (by decide) ?_ ?_
    · intro h26
      refine kx_iconst (nI 0) d_M_side_33 (by decide) ?_
      refine kx_iconst (nI 1) d_M_side_34 (by decide) ?_
      refine kx_callV (as := [.int (nI _), .int (nI _), .int (nI _)]) (rest := []) d_M_side_35 v_M_101 rfl hM.1 rfl rfl (by decide) (by decide) (Nat.le_of_ble_eq_true rfl) (by decide) (by decide) rfl (m_M_goes hM (by decide) (by decide) (by decide)) (fun X w1 h => by cases h.1) (fun v w hq9 => ?_)
      obtain ⟨hv, hM, hO9⟩ := hq9
      cases hv
      have hO := hO.tr hO9 (fun _ h => h) (fun _ h => h)
      refine kx_stk (st1 := [.int (nI 0)]) rfl ?_
      refine kx_if_ne_n 43 d_M_side_38 (by decide) (by decide) (fun h => absurd rfl h) (fun _ => ?_)
      refine kx_iconst (nI 0) d_M_side_41 (by decide) ?_
      refine kx_iret d_M_side_42 rfl (by decide) (by decide) ?_
      exact ⟨rfl, hM, hO⟩
    · intro h26
      exact absurd hv (by rintro (h | h); exact h20 h; exact h26 h)
def sidG (it f : Nat) : Nat := if f < 8 then f ^^^ (it % 2) else f
def sidM (mk it f : Nat) : Int32 := if nI mk >>> (nI (sidG it f) &&& 31) &&& nI 1 = nI 1 then nI (sidG it f) else -1
set_option maxRecDepth 20000 in
set_option maxHeartbeats 4000000 in
theorem m_M_side {E : kx_E} {w : va_W} {ma : Nat → Nat} {F : Nat → Int32} {A : Nat → Nat → Int32} (hM : Mdl E w ma F A) {n : Nat} {X : Fx} {D : Dy} (hR : ModR n X D A) (hX : WfX n X) (hD : WfD n D) (hn : F 1 = nI n) {bi : Nat → Option Nat} (hB : BiR n X bi) {car : Int32} {c j f : Nat} (hc0 : carI bi car = some c) (hf : f < 16) (hj : j < (dDi D c).length) : kx_S E Y_M_side [.ref (ma 0), .int car, .int (nI (j + 1)), .int (nI f)] w (MX E w ma (up1 F 0 (nI 0)) A (some (.int (sidM (xMk X ((dDi D c).getD j 0 / 2)) ((dDi D c).getD j 0) f)))) := by
  refine kx_go (by decide) rfl rfl (Nat.le_of_ble_eq_true rfl) (kx_cc rfl (kx_cc rfl (kx_cc rfl (kx_cc rfl kx_c0)))) (fun z => ?_)
  have hO : kx_off w w mdlN := kx_off.rf
  have h24 := hX.1
  have hc := hB.c hc0
  have hd := hR.dis c hc
  have bd := (hD.2.2 c hc).1
  have bd24 := bd.1
  have hb := bd.get hj
  refine kx_aload_n d_M_side_0 rfl (by first | rfl | exact kx_rf _) ?_
  refine kx_iload_n d_M_side_1 rfl ?_
  refine kx_callV (as := [.int car]) (rest := []) d_M_side_2 v_M_97 rfl hM.1 rfl rfl (by decide) (by decide) (Nat.le_of_ble_eq_true rfl) (by decide) (by decide) rfl (m_M_findC hM hR hX hD hn hB hc0) (fun X w1 h => by cases h.1) (fun v w1 hq9 => ?_)
  obtain ⟨hv, hw9⟩ := hq9
  cases hv
  subst hw9
  refine kx_stk (st1 := [.int (nI c)]) rfl ?_
  refine kx_istore d_M_side_5 (by decide) ?_
  refine kx_aload_n d_M_side_7 rfl (by first | rfl | exact kx_rf _) ?_
  refine kx_iload d_M_side_8 rfl ?_
  refine kx_iconst (-1) d_M_side_10 (by decide) ?_
  refine kx_icmp_eq 18 d_M_side_11 (by decide) (fun h => absurd h (nI_m1 (by omega))) (fun _ => ?_)
  refine kx_iconst (nI 1) d_M_side_14 (by decide) ?_
  refine kx_goto 19 d_M_side_15 (by decide) ?_
  refine kx_iload_n d_M_side_19 rfl ?_
  refine kx_if_lt_n 33 d_M_side_20 (by decide) (by omega) ?_
  refine kx_iload_n d_M_side_23 rfl ?_
  refine kx_bipush (nI 16) d_M_side_24 (by decide) ?_
  first | refine kx_icmp_ge_n 33 d_M_side_26 (by decide) (by omega) (by omega) ?_ ?_ | refine kx_icmp_ge 33 d_M_side_26 (by decide) ?_ ?_
  · intro h26
    exact absurd h26 (by omega)
  · intro h26
    refine kx_iconst (nI 1) d_M_side_29 (by decide) ?_
    refine kx_goto 34 d_M_side_30 (by decide) ?_
    refine kx_iconst (nI 1) d_M_side_34 (by decide) ?_
    refine kx_callV (as := [.int (nI _), .int (nI _), .int (nI _)]) (rest := []) d_M_side_35 v_M_101 rfl hM.1 rfl rfl (by decide) (by decide) (Nat.le_of_ble_eq_true rfl) (by decide) (by decide) rfl (m_M_goes hM (by decide) (by decide) (by decide)) (fun X w1 h => by cases h.1) (fun v w hq9 => ?_)
    obtain ⟨hv, hM, hO9⟩ := hq9
    cases hv
    have hO := hO.tr hO9 (fun _ h => h) (fun _ h => h)
    refine kx_stk (st1 := [.int (nI 1)]) rfl ?_
    refine kx_if_ne_n 43 d_M_side_38 (by decide) (by decide) (fun _ => ?_) (fun h => absurd h (by decide))
    refine kx_iload_n d_M_side_43 rfl ?_
    refine kx_iconst (nI 1) d_M_side_44 (by decide) ?_
    first | refine kx_icmp_lt_n 59 d_M_side_45 (by decide) (by omega) (by omega) ?_ ?_ | refine kx_icmp_lt 59 d_M_side_45 (by decide) ?_ ?_
    · intro h45
      first
        | exact absurd h45 (by omega)
        | exact absurd h56 (by omega)
    · intro h45
      refine kx_iload_n d_M_side_48 rfl ?_
      refine kx_aload_n d_M_side_49 rfl (by first | rfl | exact kx_rf _) ?_
      refine kx_get _ d_M_side_50 f_M_41 hM.1 (by rfl) ?_
      refine kx_iload d_M_side_53 rfl ?_
      refine kx_iald d_M_side_55 hM.a10 (by omega) (by decide) ?_
      rw [hd.1]
      first | refine kx_icmp_le_n 61 d_M_side_56 (by decide) (by omega) (by omega) ?_ ?_ | refine kx_icmp_le 61 d_M_side_56 (by decide) ?_ ?_
      · intro h56
        refine kx_aload_n d_M_side_61 rfl (by first | rfl | exact kx_rf _) ?_
        refine kx_get _ d_M_side_62 f_M_38 hM.1 (by rfl) ?_
        refine kx_bipush (nI 24) d_M_side_65 (by decide) ?_
        refine kx_iload d_M_side_67 rfl ?_
        first | refine kx_imul _ d_M_side_69 (pk_mul _ _) ?_ | refine kx_imul _ d_M_side_69 rfl ?_
        refine kx_iload_n d_M_side_70 rfl ?_
        first | refine kx_iadd _ d_M_side_71 (nI_add _ _) ?_ | refine kx_iadd _ d_M_side_71 rfl ?_
        refine kx_iconst (nI 1) d_M_side_72 (by decide) ?_
        refine kx_isub _ d_M_side_73 (pk_sub (by omega)) ?_
        refine kx_iald d_M_side_74 hM.a9 (by omega) (by decide) ?_
        rw [show 24 * c + (j + 1) - 1 = 24 * c + j by omega, hd.2 j hj]
        refine kx_istore d_M_side_75 (by decide) ?_
        refine kx_iload_n d_M_side_77 rfl ?_
        refine kx_bipush (nI 8) d_M_side_78 (by decide) ?_
        first | refine kx_icmp_ge_n 92 d_M_side_80 (by decide) (by omega) (by omega) ?_ ?_ | refine kx_icmp_ge 92 d_M_side_80 (by decide) ?_ ?_
        · intro h80
          refine kx_iload_n d_M_side_92 rfl ?_
          refine kx_istore d_M_side_93 (by decide) ?_
          refine kx_aload_n d_M_side_95 rfl (by first | rfl | exact kx_rf _) ?_
          refine kx_get _ d_M_side_96 f_M_13 hM.1 (by rfl) ?_
          refine kx_iload d_M_side_99 rfl ?_
          refine kx_iconst (nI 2) d_M_side_101 (by decide) ?_
          refine kx_idiv _ d_M_side_102 (by decide) (pk_div (by omega) (by omega) (by omega)) ?_
          refine kx_iald d_M_side_103 hM.a1 (by omega) (by decide) ?_
          rw [hR.mks _ (by omega)]
          refine kx_iload d_M_side_104 rfl ?_
          refine kx_ishr _ d_M_side_106 rfl ?_
          refine kx_iconst (nI 1) d_M_side_107 (by decide) ?_
          refine kx_iand _ d_M_side_108 rfl ?_
          refine kx_iconst (nI 1) d_M_side_109 (by decide) ?_
          refine kx_icmp_ne 118 d_M_side_110 (by decide) ?_ ?_
          · intro h110
            refine kx_iconst (-1) d_M_side_118 (by decide) ?_
            refine kx_iret d_M_side_119 rfl (by decide) (by decide) ?_
            unfold sidM
            first
              | (rw [show sidG ((dDi D c).getD j 0) f = f from if_neg (by omega)]; first | (rw [if_pos h110]; exact ⟨rfl, hM, hO⟩) | (rw [if_neg h110]; exact ⟨rfl, hM, hO⟩))
              | (rw [show sidG ((dDi D c).getD j 0) f = f ^^^ ((dDi D c).getD j 0 % 2) from if_pos (by omega)]; first | (rw [if_pos h110]; exact ⟨rfl, hM, hO⟩) | (rw [if_neg h110]; exact ⟨rfl, hM, hO⟩))
          · intro h110
            refine kx_iload d_M_side_113 rfl ?_
            refine kx_goto 119 d_M_side_115 (by decide) ?_
            refine kx_iret d_M_side_119 rfl (by decide) (by decide) ?_
            unfold sidM
            first
              | (rw [show sidG ((dDi D c).getD j 0) f = f from if_neg (by omega)]; first | (rw [if_pos h110]; exact ⟨rfl, hM, hO⟩) | (rw [if_neg h110]; exact ⟨rfl, hM, hO⟩))
              | (rw [show sidG ((dDi D c).getD j 0) f = f ^^^ ((dDi D c).getD j 0 % 2) from if_pos (by omega)]; first | (rw [if_pos h110]; exact ⟨rfl, hM, hO⟩) | (rw [if_neg h110]; exact ⟨rfl, hM, hO⟩))
        · intro h80
          refine kx_iload_n d_M_side_83 rfl ?_
          refine kx_iload d_M_side_84 rfl ?_
          refine kx_iconst (nI 2) d_M_side_86 (by decide) ?_
          refine kx_irem _ d_M_side_87 (by decide) (pk_rem (by omega) (by omega) (by omega)) ?_
          refine kx_ixor _ d_M_side_88 (kx_xor _ _) ?_
          refine kx_goto 93 d_M_side_89 (by decide) ?_
          refine kx_istore d_M_side_93 (by decide) ?_
          refine kx_aload_n d_M_side_95 rfl (by first | rfl | exact kx_rf _) ?_
          refine kx_get _ d_M_side_96 f_M_13 hM.1 (by rfl) ?_
          refine kx_iload d_M_side_99 rfl ?_
          refine kx_iconst (nI 2) d_M_side_101 (by decide) ?_
          refine kx_idiv _ d_M_side_102 (by decide) (pk_div (by omega) (by omega) (by omega)) ?_
          refine kx_iald d_M_side_103 hM.a1 (by omega) (by decide) ?_
          rw [hR.mks _ (by omega)]
          refine kx_iload d_M_side_104 rfl ?_
          refine kx_ishr _ d_M_side_106 rfl ?_
          refine kx_iconst (nI 1) d_M_side_107 (by decide) ?_
          refine kx_iand _ d_M_side_108 rfl ?_
          refine kx_iconst (nI 1) d_M_side_109 (by decide) ?_
          refine kx_icmp_ne 118 d_M_side_110 (by decide) ?_ ?_
          · intro h110
            refine kx_iconst (-1) d_M_side_118 (by decide) ?_
            refine kx_iret d_M_side_119 rfl (by decide) (by decide) ?_
            unfold sidM
            first
              | (rw [show sidG ((dDi D c).getD j 0) f = f from if_neg (by omega)]; first | (rw [if_pos h110]; exact ⟨rfl, hM, hO⟩) | (rw [if_neg h110]; exact ⟨rfl, hM, hO⟩))
              | (rw [show sidG ((dDi D c).getD j 0) f = f ^^^ ((dDi D c).getD j 0 % 2) from if_pos (by omega)]; first | (rw [if_pos h110]; exact ⟨rfl, hM, hO⟩) | (rw [if_neg h110]; exact ⟨rfl, hM, hO⟩))
          · intro h110
            refine kx_iload d_M_side_113 rfl ?_
            refine kx_goto 119 d_M_side_115 (by decide) ?_
            refine kx_iret d_M_side_119 rfl (by decide) (by decide) ?_
            unfold sidM
            first
              | (rw [show sidG ((dDi D c).getD j 0) f = f from if_neg (by omega)]; first | (rw [if_pos h110]; exact ⟨rfl, hM, hO⟩) | (rw [if_neg h110]; exact ⟨rfl, hM, hO⟩))
              | (rw [show sidG ((dDi D c).getD j 0) f = f ^^^ ((dDi D c).getD j 0 % 2) from if_pos (by omega)]; first | (rw [if_pos h110]; exact ⟨rfl, hM, hO⟩) | (rw [if_neg h110]; exact ⟨rfl, hM, hO⟩))
      · intro h56
        first
          | exact absurd h45 (by omega)
          | exact absurd h56 (by omega)
set_option maxRecDepth 20000 in
set_option maxHeartbeats 4000000 in
theorem m_M_side_out {E : kx_E} {w : va_W} {ma : Nat → Nat} {F : Nat → Int32} {A : Nat → Nat → Int32} (hM : Mdl E w ma F A) {n : Nat} {X : Fx} {D : Dy} (hR : ModR n X D A) (hX : WfX n X) (hD : WfD n D) (hn : F 1 = nI n) {bi : Nat → Option Nat} (hB : BiR n X bi) {car v : Int32} {c f : Nat} (hc0 : carI bi car = some c) (hf : f < 16) (hj : v < nI 1 ∨ nI (dDi D c).length < v) : kx_S E Y_M_side [.ref (ma 0), .int car, .int v, .int (nI f)] w (MX E w ma (up1 F 0 (nI 0)) A (some (.int (-1)))) := by
  refine kx_go (by decide) rfl rfl (Nat.le_of_ble_eq_true rfl) (kx_cc rfl (kx_cc rfl (kx_cc rfl (kx_cc rfl kx_c0)))) (fun z => ?_)
  have hO : kx_off w w mdlN := kx_off.rf
  have h24 := hX.1
  have hc := hB.c hc0
  have hd := hR.dis c hc
  have bd := (hD.2.2 c hc).1
  have bd24 := bd.1
  refine kx_aload_n d_M_side_0 rfl (by first | rfl | exact kx_rf _) ?_
  refine kx_iload_n d_M_side_1 rfl ?_
  refine kx_callV (as := [.int car]) (rest := []) d_M_side_2 v_M_97 rfl hM.1 rfl rfl (by decide) (by decide) (Nat.le_of_ble_eq_true rfl) (by decide) (by decide) rfl (m_M_findC hM hR hX hD hn hB hc0) (fun X w1 h => by cases h.1) (fun v w1 hq9 => ?_)
  obtain ⟨hv, hw9⟩ := hq9
  cases hv
  subst hw9
  refine kx_stk (st1 := [.int (nI c)]) rfl ?_
  refine kx_istore d_M_side_5 (by decide) ?_
  refine kx_aload_n d_M_side_7 rfl (by first | rfl | exact kx_rf _) ?_
  refine kx_iload d_M_side_8 rfl ?_
  refine kx_iconst (-1) d_M_side_10 (by decide) ?_
  refine kx_icmp_eq 18 d_M_side_11 (by decide) (fun h => absurd h (nI_m1 (by omega))) (fun _ => ?_)
  refine kx_iconst (nI 1) d_M_side_14 (by decide) ?_
  refine kx_goto 19 d_M_side_15 (by decide) ?_
  refine kx_iload_n d_M_side_19 rfl ?_
  refine kx_if_lt_n 33 d_M_side_20 (by decide) (by omega) ?_
  refine kx_iload_n d_M_side_23 rfl ?_
  refine kx_bipush (nI 16) d_M_side_24 (by decide) ?_
  first | refine kx_icmp_ge_n 33 d_M_side_26 (by decide) (by omega) (by omega) ?_ ?_ | refine kx_icmp_ge 33 d_M_side_26 (by decide) ?_ ?_
  · intro h26
    exact absurd h26 (by omega)
  · intro h26
    refine kx_iconst (nI 1) d_M_side_29 (by decide) ?_
    refine kx_goto 34 d_M_side_30 (by decide) ?_
    refine kx_iconst (nI 1) d_M_side_34 (by decide) ?_
    refine kx_callV (as := [.int (nI _), .int (nI _), .int (nI _)]) (rest := []) d_M_side_35 v_M_101 rfl hM.1 rfl rfl (by decide) (by decide) (Nat.le_of_ble_eq_true rfl) (by decide) (by decide) rfl (m_M_goes hM (by decide) (by decide) (by decide)) (fun X w1 h => by cases h.1) (fun v w hq9 => ?_)
    obtain ⟨hv, hM, hO9⟩ := hq9
    cases hv
    have hO := hO.tr hO9 (fun _ h => h) (fun _ h => h)
    refine kx_stk (st1 := [.int (nI 1)]) rfl ?_
    refine kx_if_ne_n 43 d_M_side_38 (by decide) (by decide) (fun _ => ?_) (fun h => absurd h (by decide))
    refine kx_iload_n d_M_side_43 rfl ?_
    refine kx_iconst (nI 1) d_M_side_44 (by decide) ?_
    refine kx_icmp_lt 59 d_M_side_45 (by decide) ?_ ?_
    · intro h45
      refine kx_iconst (-1) d_M_side_59 (by decide) ?_
      refine kx_iret d_M_side_60 rfl (by decide) (by decide) ?_
      exact ⟨rfl, hM, hO⟩
    · intro h45
      refine kx_iload_n d_M_side_48 rfl ?_
      refine kx_aload_n d_M_side_49 rfl (by first | rfl | exact kx_rf _) ?_
      refine kx_get _ d_M_side_50 f_M_41 hM.1 (by rfl) ?_
      refine kx_iload d_M_side_53 rfl ?_
      refine kx_iald d_M_side_55 hM.a10 (by omega) (by decide) ?_
      rw [hd.1]
      refine kx_icmp_le 61 d_M_side_56 (by decide) ?_ ?_
      · intro h56
        exact absurd hj (by rintro (h | h); exact h45 h; exact absurd h56 (i32_nle.mpr h))
      · intro h56
        refine kx_iconst (-1) d_M_side_59 (by decide) ?_
        refine kx_iret d_M_side_60 rfl (by decide) (by decide) ?_
        exact ⟨rfl, hM, hO⟩
