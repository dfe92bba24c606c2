/-! ConsistBus: finding, the true run, rounds -/
def carI (bi : Nat → Option Nat) (id : Int32) : Option Nat := if id < nI 1 ∨ nI 255 < id then none else bi (clN id)
def biOk (n : Nat) (bi : Nat → Option Nat) : Prop := ∀ i c, bi i = some c → c < n
theorem carI_c {n : Nat} {bi : Nat → Option Nat} {id : Int32} {c : Nat} (hb : biOk n bi) (h : carI bi id = some c) : c < n := by
  unfold carI at h
  split at h
  · cases h
  · exact hb _ _ h
theorem i32_nlt {x y : Int32} : ¬ y < x ↔ x ≤ y := ⟨fun h => Int32.le_iff_toInt_le.mpr (Int.not_lt.mp (fun q => h (Int32.lt_iff_toInt_lt.mpr q))), fun h q => absurd (Int32.lt_iff_toInt_lt.mp q) (Int.not_lt.mpr (Int32.le_iff_toInt_le.mp h))⟩
theorem i32_in {x : Int32} {a b : Nat} (ha : a < 2 ^ 31) (hb : b < 2 ^ 31) (h1 : ¬ x < nI a) (h2 : ¬ nI b < x) : ∃ j, a ≤ j ∧ j ≤ b ∧ x = nI j := by
  have e1 : (nI a).toInt ≤ x.toInt := Int.not_lt.mp (fun q => h1 (Int32.lt_iff_toInt_lt.mpr q))
  have e2 : x.toInt ≤ (nI b).toInt := Int.not_lt.mp (fun q => h2 (Int32.lt_iff_toInt_lt.mpr q))
  rw [nI_toInt ha] at e1
  rw [nI_toInt hb] at e2
  refine ⟨x.toInt.toNat, by omega, by omega, ?_⟩
  apply Int32.toInt_inj.mp
  rw [nI_toInt (by omega)]
  omega
theorem carI_j (bi : Nat → Option Nat) {j : Nat} (h1 : 1 ≤ j) (h2 : j ≤ 255) : carI bi (nI j) = bi j := by
  unfold carI
  rw [if_neg, clN_nI (by omega)]
  rintro (h | h)
  · exact absurd ((nI_ltI (by omega) (by decide)).mp h) (by omega)
  · exact absurd ((nI_ltI (by decide) (by omega)).mp h) (by omega)
theorem d_B_carWithId_0 : decode c_B_carWithId 0 = .ok (.iload_n 1, 1) := by decide +kernel
theorem d_B_carWithId_1 : decode c_B_carWithId 1 = .ok (.iconst 1, 1) := by decide +kernel
theorem d_B_carWithId_2 : decode c_B_carWithId 2 = .ok (.if_icmp .lt 10, 3) := by decide +kernel
theorem d_B_carWithId_5 : decode c_B_carWithId 5 = .ok (.iload_n 1, 1) := by decide +kernel
theorem d_B_carWithId_6 : decode c_B_carWithId 6 = .ok (.sipush 255, 3) := by decide +kernel
theorem d_B_carWithId_9 : decode c_B_carWithId 9 = .ok (.if_icmp .le 7, 3) := by decide +kernel
theorem d_B_carWithId_12 : decode c_B_carWithId 12 = .ok (.aconst_null, 1) := by decide +kernel
theorem d_B_carWithId_13 : decode c_B_carWithId 13 = .ok (.goto 9, 3) := by decide +kernel
theorem d_B_carWithId_16 : decode c_B_carWithId 16 = .ok (.aload_n 0, 1) := by decide +kernel
theorem d_B_carWithId_17 : decode c_B_carWithId 17 = .ok (.getfield 15, 3) := by decide +kernel
theorem d_B_carWithId_20 : decode c_B_carWithId 20 = .ok (.iload_n 1, 1) := by decide +kernel
theorem d_B_carWithId_21 : decode c_B_carWithId 21 = .ok (.aaload, 1) := by decide +kernel
theorem d_B_carWithId_22 : decode c_B_carWithId 22 = .ok (.areturn, 1) := by decide +kernel
set_option maxRecDepth 20000 in
set_option maxHeartbeats 4000000 in
theorem m_B_carWithId {E : kx_E} {w : va_W} {n : Nat} {ad : Nat → Nat} {L : Nat → List Nat} {V S : Nat → Nat → Int32} {pe bi : Nat → Option Nat} (hC : Cls E w n ad L V S pe bi) (id : Int32) : kx_S E Y_B_carWithId [.ref (ad 0), .int id] w (fun o w1 => o = .inl (some (va_rf ((carI bi id).map (fun c => ad (carB c))))) ∧ w1 = w) := by
  refine kx_go (by decide) rfl rfl (Nat.le_of_ble_eq_true rfl) (kx_cc rfl (kx_cc rfl kx_c0)) (fun z => ?_)
  have hO : kx_off w w clsN := kx_off.rf
  refine kx_iload_n d_B_carWithId_0 rfl ?_
  refine kx_iconst (nI 1) d_B_carWithId_1 (by decide) ?_
  refine kx_icmp_lt 12 d_B_carWithId_2 (by decide) ?_ ?_
  · intro h2
    refine kx_null d_B_carWithId_12 ?_
    have hn : carI bi id = none := by unfold carI; rw [if_pos (by first | exact Or.inl h2 | exact Or.inr (Decidable.byContradiction (fun q => h9 (i32_nlt.mp q))))]
    rw [hn]
    refine kx_goto 22 d_B_carWithId_13 (by decide) ?_
    exact kx_aret d_B_carWithId_22 rfl (by first | rfl | exact kx_rf _) (by decide) (by decide) ⟨rfl, rfl⟩
  · intro h2
    refine kx_iload_n d_B_carWithId_5 rfl ?_
    refine kx_sipush (nI 255) d_B_carWithId_6 (by decide) ?_
    refine kx_icmp_le 16 d_B_carWithId_9 (by decide) ?_ ?_
    · intro h9
      refine kx_aload_n d_B_carWithId_16 rfl (by first | rfl | exact kx_rf _) ?_
      refine kx_get _ d_B_carWithId_17 f_B_15 hC.bus (by rfl) ?_
      refine kx_iload_n d_B_carWithId_20 rfl ?_
      obtain ⟨j, hj1, hj2, rfl⟩ := i32_in (a := 1) (b := 255) (by decide) (by decide) h2 (i32_nlt.mpr h9)
      rw [carI_j bi hj1 hj2]
      obtain ⟨f, hf1, hf2⟩ := hC.byId
      refine kx_aald d_B_carWithId_21 hf1 rfl (by omega) (by decide) ?_
      rw [hf2 j (by omega)]
      exact kx_aret d_B_carWithId_22 rfl (by first | rfl | exact kx_rf _) (by decide) (by decide) ⟨rfl, rfl⟩
    · intro h9
      refine kx_null d_B_carWithId_12 ?_
      have hn : carI bi id = none := by unfold carI; rw [if_pos (by first | exact Or.inl h2 | exact Or.inr (Decidable.byContradiction (fun q => h9 (i32_nlt.mp q))))]
      rw [hn]
      refine kx_goto 22 d_B_carWithId_13 (by decide) ?_
      exact kx_aret d_B_carWithId_22 rfl (by first | rfl | exact kx_rf _) (by decide) (by decide) ⟨rfl, rfl⟩
theorem d_B_carOf_0 : decode c_B_carOf 0 = .ok (.aload_n 0, 1) := by decide +kernel
theorem d_B_carOf_1 : decode c_B_carOf 1 = .ok (.iload_n 1, 1) := by decide +kernel
theorem d_B_carOf_2 : decode c_B_carOf 2 = .ok (.invokevirtual 139, 3) := by decide +kernel
theorem d_B_carOf_5 : decode c_B_carOf 5 = .ok (.astore_n 2, 1) := by decide +kernel
theorem d_B_carOf_6 : decode c_B_carOf 6 = .ok (.aload_n 2, 1) := by decide +kernel
theorem d_B_carOf_7 : decode c_B_carOf 7 = .ok (.ifnonnull 13, 3) := by decide +kernel
theorem d_B_carOf_10 : decode c_B_carOf 10 = .ok (.new 158, 3) := by decide +kernel
theorem d_B_carOf_13 : decode c_B_carOf 13 = .ok (.dup, 1) := by decide +kernel
theorem d_B_carOf_14 : decode c_B_carOf 14 = .ok (.ldc 160, 2) := by decide +kernel
theorem d_B_carOf_16 : decode c_B_carOf 16 = .ok (.invokespecial 162, 3) := by decide +kernel
theorem d_B_carOf_19 : decode c_B_carOf 19 = .ok (.athrow, 1) := by decide +kernel
theorem d_B_carOf_20 : decode c_B_carOf 20 = .ok (.aload_n 2, 1) := by decide +kernel
theorem d_B_carOf_21 : decode c_B_carOf 21 = .ok (.areturn, 1) := by decide +kernel
set_option maxRecDepth 20000 in
set_option maxHeartbeats 4000000 in
theorem m_B_carOf {E : kx_E} {w : va_W} {n : Nat} {ad : Nat → Nat} {L : Nat → List Nat} {V S : Nat → Nat → Int32} {pe bi : Nat → Option Nat} (hC : Cls E w n ad L V S pe bi) {id : Int32} {c : Nat} (h : carI bi id = some c) : kx_S E Y_B_carOf [.ref (ad 0), .int id] w (fun o w1 => o = .inl (some (.ref (ad (carB c)))) ∧ w1 = w) := by
  refine kx_go (by decide) rfl rfl (Nat.le_of_ble_eq_true rfl) (kx_cc rfl (kx_cc rfl kx_c0)) (fun z => ?_)
  have hO : kx_off w w clsN := kx_off.rf
  refine kx_aload_n d_B_carOf_0 rfl (by first | rfl | exact kx_rf _) ?_
  refine kx_iload_n d_B_carOf_1 rfl ?_
  refine kx_callV (as := [.int id]) (rest := []) d_B_carOf_2 v_B_139 rfl (hC.bus) rfl rfl (by decide) (by decide) (Nat.le_of_ble_eq_true rfl) (by decide) (by decide) rfl (m_B_carWithId hC id) (fun X w1 h => by cases h.1) (fun v w1 hq9 => ?_)
  obtain ⟨hv, hw9⟩ := hq9
  cases hv
  subst hw9
  rw [h]
  refine kx_stk (st1 := [va_rf (some (ad (carB c)))]) rfl ?_
  refine kx_astore_n d_B_carOf_5 (by decide) (by first | rfl | exact kx_rf _) ?_
  refine kx_aload_n d_B_carOf_6 rfl (by first | rfl | exact kx_rf _) ?_
  refine kx_ifnonnull (o := some (ad (carB c))) 20 d_B_carOf_7 (by decide) (fun _ _ => ?_) (fun h => by cases h)
  refine kx_aload_n d_B_carOf_20 rfl (by first | rfl | exact kx_rf _) ?_
  refine kx_aret d_B_carOf_21 rfl (by first | rfl | exact kx_rf _) (by decide) (by decide) ?_
  exact ⟨rfl, rfl⟩
set_option maxRecDepth 20000 in
set_option maxHeartbeats 4000000 in
theorem m_B_carOf_no {E : kx_E} {w : va_W} {n : Nat} {ad : Nat → Nat} {L : Nat → List Nat} {V S : Nat → Nat → Int32} {pe bi : Nat → Option Nat} (hC : Cls E w n ad L V S pe bi) {id : Int32} (h : carI bi id = none) : kx_S E Y_B_carOf [.ref (ad 0), .int id] w (fun o w1 => o = .inr kx_nse ∧ w1 = w) := by
  refine kx_go (by decide) rfl rfl (Nat.le_of_ble_eq_true rfl) (kx_cc rfl (kx_cc rfl kx_c0)) (fun z => ?_)
  have hO : kx_off w w clsN := kx_off.rf
  refine kx_aload_n d_B_carOf_0 rfl (by first | rfl | exact kx_rf _) ?_
  refine kx_iload_n d_B_carOf_1 rfl ?_
  refine kx_callV (as := [.int id]) (rest := []) d_B_carOf_2 v_B_139 rfl (hC.bus) rfl rfl (by decide) (by decide) (Nat.le_of_ble_eq_true rfl) (by decide) (by decide) rfl (m_B_carWithId hC id) (fun X w1 h => by cases h.1) (fun v w1 hq9 => ?_)
  obtain ⟨hv, hw9⟩ := hq9
  cases hv
  subst hw9
  rw [h]
  refine kx_stk (st1 := [va_rf (none)]) rfl ?_
  refine kx_astore_n d_B_carOf_5 (by decide) (by first | rfl | exact kx_rf _) ?_
  refine kx_aload_n d_B_carOf_6 rfl (by first | rfl | exact kx_rf _) ?_
  refine kx_ifnonnull (o := none) 20 d_B_carOf_7 (by decide) (fun a h => by cases h) (fun _ => ?_)
  exact kx_throwN d_B_carOf_10 d_B_carOf_13 d_B_carOf_14 d_B_carOf_16 d_B_carOf_19 t_B_160 rfl (by decide) (Nat.le_of_ble_eq_true rfl) (by decide) (by decide) ⟨rfl, rfl⟩
def endQ (bi : Nat → Option Nat) (id e : Int32) : Option Nat := match carI bi id with
  | none => none
  | some c => if e = nI 0 then some (carE c 0) else if e = nI 1 then some (carE c 1) else none
theorem endQ_N {n : Nat} {bi : Nat → Option Nat} {id e : Int32} {x : Nat} (hb : biOk n bi) (h : endQ bi id e = some x) : endN n x := by
  unfold endQ at h
  cases hc : carI bi id with
  | none => rw [hc] at h; cases h
  | some c =>
    rw [hc] at h
    dsimp only at h
    have := carI_c hb hc
    split at h
    · cases h; exact carE_N this
    · split at h
      · cases h; exact carE_N this
      · cases h
theorem d_B_endOf_0 : decode c_B_endOf 0 = .ok (.aload_n 0, 1) := by decide +kernel
theorem d_B_endOf_1 : decode c_B_endOf 1 = .ok (.iload_n 1, 1) := by decide +kernel
theorem d_B_endOf_2 : decode c_B_endOf 2 = .ok (.invokevirtual 59, 3) := by decide +kernel
theorem d_B_endOf_5 : decode c_B_endOf 5 = .ok (.astore_n 3, 1) := by decide +kernel
theorem d_B_endOf_6 : decode c_B_endOf 6 = .ok (.iload_n 2, 1) := by decide +kernel
theorem d_B_endOf_7 : decode c_B_endOf 7 = .ok (.ifCond .eq 18, 3) := by decide +kernel
theorem d_B_endOf_10 : decode c_B_endOf 10 = .ok (.iload_n 2, 1) := by decide +kernel
theorem d_B_endOf_11 : decode c_B_endOf 11 = .ok (.iconst 1, 1) := by decide +kernel
theorem d_B_endOf_12 : decode c_B_endOf 12 = .ok (.if_icmp .eq 13, 3) := by decide +kernel
theorem d_B_endOf_15 : decode c_B_endOf 15 = .ok (.new 158, 3) := by decide +kernel
theorem d_B_endOf_18 : decode c_B_endOf 18 = .ok (.dup, 1) := by decide +kernel
theorem d_B_endOf_19 : decode c_B_endOf 19 = .ok (.ldc 163, 2) := by decide +kernel
theorem d_B_endOf_21 : decode c_B_endOf 21 = .ok (.invokespecial 162, 3) := by decide +kernel
theorem d_B_endOf_24 : decode c_B_endOf 24 = .ok (.athrow, 1) := by decide +kernel
theorem d_B_endOf_25 : decode c_B_endOf 25 = .ok (.aload_n 3, 1) := by decide +kernel
theorem d_B_endOf_26 : decode c_B_endOf 26 = .ok (.getfield 165, 3) := by decide +kernel
theorem d_B_endOf_29 : decode c_B_endOf 29 = .ok (.iload_n 2, 1) := by decide +kernel
theorem d_B_endOf_30 : decode c_B_endOf 30 = .ok (.aaload, 1) := by decide +kernel
theorem d_B_endOf_31 : decode c_B_endOf 31 = .ok (.areturn, 1) := by decide +kernel
set_option maxRecDepth 20000 in
set_option maxHeartbeats 4000000 in
theorem m_B_endOf_no {E : kx_E} {w : va_W} {n : Nat} {ad : Nat → Nat} {L : Nat → List Nat} {V S : Nat → Nat → Int32} {pe bi : Nat → Option Nat} (hC : Cls E w n ad L V S pe bi) (hb : biOk n bi) {id e : Int32} (h : endQ bi id e = none) : kx_S E Y_B_endOf [.ref (ad 0), .int id, .int e] w (fun o w1 => o = .inr kx_nse ∧ w1 = w) := by
  refine kx_go (by decide) rfl rfl (Nat.le_of_ble_eq_true rfl) (kx_cc rfl (kx_cc rfl (kx_cc rfl kx_c0))) (fun z => ?_)
  have hO : kx_off w w clsN := kx_off.rf
  cases hc : carI bi id with
  | none =>
    refine kx_aload_n d_B_endOf_0 rfl (by first | rfl | exact kx_rf _) ?_
    refine kx_iload_n d_B_endOf_1 rfl ?_
    refine kx_callV (as := [.int id]) (rest := []) d_B_endOf_2 v_B_59 rfl (hC.bus) rfl rfl (by decide) (by decide) (Nat.le_of_ble_eq_true rfl) (by decide) (by decide) rfl (m_B_carOf_no hC hc) (fun X w1 hq => ⟨rfl, by cases hq.1; exact ⟨rfl, hq.2⟩⟩) (fun v w1 hq => by cases hq.1)
  | some c =>
    unfold endQ at h
    rw [hc] at h
    dsimp only at h
    refine kx_aload_n d_B_endOf_0 rfl (by first | rfl | exact kx_rf _) ?_
    refine kx_iload_n d_B_endOf_1 rfl ?_
    refine kx_callV (as := [.int id]) (rest := []) d_B_endOf_2 v_B_59 rfl (hC.bus) rfl rfl (by decide) (by decide) (Nat.le_of_ble_eq_true rfl) (by decide) (by decide) rfl (m_B_carOf hC hc) (fun X w1 h => by cases h.1) (fun v w1 hq9 => ?_)
    obtain ⟨hv, hw9⟩ := hq9
    cases hv
    subst hw9
    refine kx_stk (st1 := [.ref (ad (carB c))]) rfl ?_
    refine kx_astore_n d_B_endOf_5 (by decide) (by first | rfl | exact kx_rf _) ?_
    refine kx_iload_n d_B_endOf_6 rfl ?_
    refine kx_if_eq 25 d_B_endOf_7 (by decide) ?_ ?_
    · intro h7
      first
        | (have h7 : e = nI 0 := h7
           rw [if_pos h7] at h; cases h)
        | (have h7 : ¬ e = nI 0 := h7
           rw [if_neg h7, if_pos h12] at h; cases h)
    · intro h7
      refine kx_iload_n d_B_endOf_10 rfl ?_
      refine kx_iconst (nI 1) d_B_endOf_11 (by decide) ?_
      refine kx_icmp_eq 25 d_B_endOf_12 (by decide) ?_ ?_
      · intro h12
        first
          | (have h7 : e = nI 0 := h7
             rw [if_pos h7] at h; cases h)
          | (have h7 : ¬ e = nI 0 := h7
             rw [if_neg h7, if_pos h12] at h; cases h)
      · intro h12
        exact kx_throwN d_B_endOf_15 d_B_endOf_18 d_B_endOf_19 d_B_endOf_21 d_B_endOf_24 t_B_163 rfl (by decide) (Nat.le_of_ble_eq_true rfl) (by decide) (by decide) ⟨rfl, rfl⟩
set_option maxRecDepth 20000 in
set_option maxHeartbeats 4000000 in
theorem m_B_endOf {E : kx_E} {w : va_W} {n : Nat} {ad : Nat → Nat} {L : Nat → List Nat} {V S : Nat → Nat → Int32} {pe bi : Nat → Option Nat} (hC : Cls E w n ad L V S pe bi) (hb : biOk n bi) {id e : Int32} {x : Nat} (h : endQ bi id e = some x) : kx_S E Y_B_endOf [.ref (ad 0), .int id, .int e] w (fun o w1 => o = .inl (some (.ref (ad x))) ∧ w1 = w) := by
  refine kx_go (by decide) rfl rfl (Nat.le_of_ble_eq_true rfl) (kx_cc rfl (kx_cc rfl (kx_cc rfl kx_c0))) (fun z => ?_)
  have hO : kx_off w w clsN := kx_off.rf
  cases hc : carI bi id with
  | none => unfold endQ at h; rw [hc] at h; cases h
  | some c =>
    have hcn := carI_c hb hc
    unfold endQ at h
    rw [hc] at h
    dsimp only at h
    refine kx_aload_n d_B_endOf_0 rfl (by first | rfl | exact kx_rf _) ?_
    refine kx_iload_n d_B_endOf_1 rfl ?_
    refine kx_callV (as := [.int id]) (rest := []) d_B_endOf_2 v_B_59 rfl (hC.bus) rfl rfl (by decide) (by decide) (Nat.le_of_ble_eq_true rfl) (by decide) (by decide) rfl (m_B_carOf hC hc) (fun X w1 h => by cases h.1) (fun v w1 hq9 => ?_)
    obtain ⟨hv, hw9⟩ := hq9
    cases hv
    subst hw9
    refine kx_stk (st1 := [.ref (ad (carB c))]) rfl ?_
    refine kx_astore_n d_B_endOf_5 (by decide) (by first | rfl | exact kx_rf _) ?_
    refine kx_iload_n d_B_endOf_6 rfl ?_
    refine kx_if_eq 25 d_B_endOf_7 (by decide) ?_ ?_
    · intro h7
      refine kx_aload_n d_B_endOf_25 rfl (by first | rfl | exact kx_rf _) ?_
      refine kx_get _ d_B_endOf_26 f_B_165 (hC.car c hcn) (by rfl) ?_
      refine kx_iload_n d_B_endOf_29 rfl ?_
      first
        | (have h7 : e = nI 0 := h7
           rw [if_pos h7] at h
           subst h7
           cases h
           refine cA_end d_B_endOf_30 hC hcn (by decide) ?_
           exact kx_aret d_B_endOf_31 rfl rfl (by decide) (by decide) ⟨rfl, rfl⟩)
        | (have h7 : ¬ e = nI 0 := h7
           rw [if_neg h7, if_pos h12] at h
           subst h12
           cases h
           refine cA_end d_B_endOf_30 hC hcn (by decide) ?_
           exact kx_aret d_B_endOf_31 rfl rfl (by decide) (by decide) ⟨rfl, rfl⟩)
    · intro h7
      refine kx_iload_n d_B_endOf_10 rfl ?_
      refine kx_iconst (nI 1) d_B_endOf_11 (by decide) ?_
      refine kx_icmp_eq 25 d_B_endOf_12 (by decide) ?_ ?_
      · intro h12
        refine kx_aload_n d_B_endOf_25 rfl (by first | rfl | exact kx_rf _) ?_
        refine kx_get _ d_B_endOf_26 f_B_165 (hC.car c hcn) (by rfl) ?_
        refine kx_iload_n d_B_endOf_29 rfl ?_
        first
          | (have h7 : e = nI 0 := h7
             rw [if_pos h7] at h
             subst h7
             cases h
             refine cA_end d_B_endOf_30 hC hcn (by decide) ?_
             exact kx_aret d_B_endOf_31 rfl rfl (by decide) (by decide) ⟨rfl, rfl⟩)
          | (have h7 : ¬ e = nI 0 := h7
             rw [if_neg h7, if_pos h12] at h
             subst h12
             cases h
             refine cA_end d_B_endOf_30 hC hcn (by decide) ?_
             exact kx_aret d_B_endOf_31 rfl rfl (by decide) (by decide) ⟨rfl, rfl⟩)
      · intro h12
        have h7 : ¬ e = nI 0 := h7
        rw [if_neg h7, if_neg h12] at h; cases h
def takI (t : Int32) (k : Nat) : Bool := decide (¬ (t >>> (nI k &&& 31) &&& nI 1) = 0)
def freeI (t : Int32) : Nat → Nat → Nat
  | 0, k => k
  | m + 1, k => if takI t k = true then freeI t m (k + 1) else k
theorem d_B_freeNumber_0 : decode c_B_freeNumber 0 = .ok (.iconst 0, 1) := by decide +kernel
theorem d_B_freeNumber_1 : decode c_B_freeNumber 1 = .ok (.istore_n 1, 1) := by decide +kernel
theorem d_B_freeNumber_2 : decode c_B_freeNumber 2 = .ok (.iload_n 1, 1) := by decide +kernel
theorem d_B_freeNumber_3 : decode c_B_freeNumber 3 = .ok (.bipush 24, 2) := by decide +kernel
theorem d_B_freeNumber_5 : decode c_B_freeNumber 5 = .ok (.if_icmp .ge 20, 3) := by decide +kernel
theorem d_B_freeNumber_8 : decode c_B_freeNumber 8 = .ok (.aload_n 0, 1) := by decide +kernel
theorem d_B_freeNumber_9 : decode c_B_freeNumber 9 = .ok (.getfield 77, 3) := by decide +kernel
theorem d_B_freeNumber_12 : decode c_B_freeNumber 12 = .ok (.iload_n 1, 1) := by decide +kernel
theorem d_B_freeNumber_13 : decode c_B_freeNumber 13 = .ok (.ishr, 1) := by decide +kernel
theorem d_B_freeNumber_14 : decode c_B_freeNumber 14 = .ok (.iconst 1, 1) := by decide +kernel
theorem d_B_freeNumber_15 : decode c_B_freeNumber 15 = .ok (.iand, 1) := by decide +kernel
theorem d_B_freeNumber_16 : decode c_B_freeNumber 16 = .ok (.ifCond .eq 9, 3) := by decide +kernel
theorem d_B_freeNumber_19 : decode c_B_freeNumber 19 = .ok (.iinc 1 1, 3) := by decide +kernel
theorem d_B_freeNumber_22 : decode c_B_freeNumber 22 = .ok (.goto (-20), 3) := by decide +kernel
theorem d_B_freeNumber_25 : decode c_B_freeNumber 25 = .ok (.iload_n 1, 1) := by decide +kernel
theorem d_B_freeNumber_26 : decode c_B_freeNumber 26 = .ok (.ireturn, 1) := by decide +kernel
set_option maxRecDepth 20000 in
set_option maxHeartbeats 4000000 in
theorem l_B_freeNumber {E : kx_E} {w : va_W} {n : Nat} {ad : Nat → Nat} {L : Nat → List Nat} {V S : Nat → Nat → Int32} {pe bi : Nat → Option Nat} (hC : Cls E w n ad L V S pe bi) {z : kx_Z} {Q : kx_O → va_W → Prop} (hQ : Q (.inl (some (.int (nI (freeI (S 0 6) 24 0))))) w) : ∀ (m k : Nat), m + k = 24 → freeI (S 0 6) 24 0 = freeI (S 0 6) m k → kx_R E Y_B_freeNumber z 2 [(0, .ref (ad 0)), (1, .int (nI k))] [] w 0 0 Q := by
  intro m
  induction m with
  | zero =>
    intro k hk hr
    have hk : k = 24 := by omega
    subst hk
    refine kx_iload_n d_B_freeNumber_2 rfl ?_
    refine kx_bipush (nI 24) d_B_freeNumber_3 (by decide) ?_
    first | refine kx_icmp_ge_n 25 d_B_freeNumber_5 (by decide) (by omega) (by omega) ?_ ?_ | refine kx_icmp_ge 25 d_B_freeNumber_5 (by decide) ?_ ?_
    · intro h5
      refine kx_iload_n d_B_freeNumber_25 rfl ?_
      refine kx_iret d_B_freeNumber_26 rfl (by decide) (by decide) ?_
      rw [hr] at hQ
      exact hQ
    · intro h5
      exact absurd h5 (by omega)
  | succ m ih =>
    intro k hk hr
    refine kx_iload_n d_B_freeNumber_2 rfl ?_
    refine kx_bipush (nI 24) d_B_freeNumber_3 (by decide) ?_
    first | refine kx_icmp_ge_n 25 d_B_freeNumber_5 (by decide) (by omega) (by omega) ?_ ?_ | refine kx_icmp_ge 25 d_B_freeNumber_5 (by decide) ?_ ?_
    · intro h5
      first
        | exact absurd h5 (by omega)
        | (have ht : ¬ takI (S 0 6) k = true := by unfold takI; simp [h16]
           have hr2 : freeI (S 0 6) 24 0 = k := by rw [hr]; unfold freeI; rw [if_neg ht]
           rw [hr2] at hQ
           refine kx_iload_n d_B_freeNumber_25 rfl ?_
           exact kx_iret d_B_freeNumber_26 rfl (by decide) (by decide) hQ)
    · intro h5
      refine kx_aload_n d_B_freeNumber_8 rfl (by first | rfl | exact kx_rf _) ?_
      refine kx_get _ d_B_freeNumber_9 f_B_77 hC.bus (by rfl) ?_
      refine kx_iload_n d_B_freeNumber_12 rfl ?_
      refine kx_ishr _ d_B_freeNumber_13 rfl ?_
      refine kx_iconst (nI 1) d_B_freeNumber_14 (by decide) ?_
      refine kx_iand _ d_B_freeNumber_15 rfl ?_
      refine kx_if_eq 25 d_B_freeNumber_16 (by decide) ?_ ?_
      · intro h16
        first
          | exact absurd h5 (by omega)
          | (have ht : ¬ takI (S 0 6) k = true := by unfold takI; simp [h16]
             have hr2 : freeI (S 0 6) 24 0 = k := by rw [hr]; unfold freeI; rw [if_neg ht]
             rw [hr2] at hQ
             refine kx_iload_n d_B_freeNumber_25 rfl ?_
             exact kx_iret d_B_freeNumber_26 rfl (by decide) (by decide) hQ)
      · intro h16
        refine kx_iinc _ d_B_freeNumber_19 rfl (by decide) (nI_1 _) ?_
        refine kx_goto 2 d_B_freeNumber_22 (by decide) ?_
        refine kx_loc (L1 := [(0, .ref (ad 0)), (1, .int (nI (k + 1)))]) ⟨rfl, rfl, trivial⟩ ?_
        have ht : takI (S 0 6) k = true := by unfold takI; simp [h16]
        exact ih (k + 1) (by omega) (by rw [hr]; conv => lhs; unfold freeI; rw [if_pos ht])
theorem m_B_freeNumber {E : kx_E} {w : va_W} {n : Nat} {ad : Nat → Nat} {L : Nat → List Nat} {V S : Nat → Nat → Int32} {pe bi : Nat → Option Nat} (hC : Cls E w n ad L V S pe bi) : kx_S E Y_B_freeNumber [.ref (ad 0)] w (kx_Qi w (nI (freeI (S 0 6) 24 0))) := by
  refine kx_go (by decide) rfl rfl (Nat.le_of_ble_eq_true rfl) (kx_cc rfl kx_c0) (fun z => ?_)
  have hO : kx_off w w clsN := kx_off.rf
  refine kx_iconst (nI 0) d_B_freeNumber_0 (by decide) ?_
  refine kx_istore_n d_B_freeNumber_1 (by decide) ?_
  refine kx_loc (L1 := [(0, .ref (ad 0)), (1, .int (nI 0))]) ⟨rfl, rfl, trivial⟩ ?_
  exact l_B_freeNumber hC ⟨rfl, rfl⟩ 24 0 rfl rfl
