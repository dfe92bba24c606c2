theorem d_R_isSameAs_0 : decode c_R_isSameAs 0 = .ok (.aload_n 0, 1) := by decide +kernel
theorem d_R_isSameAs_1 : decode c_R_isSameAs 1 = .ok (.getfield 15, 3) := by decide +kernel
theorem d_R_isSameAs_4 : decode c_R_isSameAs 4 = .ok (.aload_n 1, 1) := by decide +kernel
theorem d_R_isSameAs_5 : decode c_R_isSameAs 5 = .ok (.getfield 15, 3) := by decide +kernel
theorem d_R_isSameAs_8 : decode c_R_isSameAs 8 = .ok (.if_icmp .eq 5, 3) := by decide +kernel
theorem d_R_isSameAs_11 : decode c_R_isSameAs 11 = .ok (.iconst 0, 1) := by decide +kernel
theorem d_R_isSameAs_12 : decode c_R_isSameAs 12 = .ok (.ireturn, 1) := by decide +kernel
theorem d_R_isSameAs_13 : decode c_R_isSameAs 13 = .ok (.iconst 0, 1) := by decide +kernel
theorem d_R_isSameAs_14 : decode c_R_isSameAs 14 = .ok (.istore_n 2, 1) := by decide +kernel
theorem d_R_isSameAs_15 : decode c_R_isSameAs 15 = .ok (.iload_n 2, 1) := by decide +kernel
theorem d_R_isSameAs_16 : decode c_R_isSameAs 16 = .ok (.aload_n 0, 1) := by decide +kernel
theorem d_R_isSameAs_17 : decode c_R_isSameAs 17 = .ok (.getfield 15, 3) := by decide +kernel
theorem d_R_isSameAs_20 : decode c_R_isSameAs 20 = .ok (.if_icmp .ge 26, 3) := by decide +kernel
theorem d_R_isSameAs_23 : decode c_R_isSameAs 23 = .ok (.aload_n 0, 1) := by decide +kernel
theorem d_R_isSameAs_24 : decode c_R_isSameAs 24 = .ok (.getfield 9, 3) := by decide +kernel
theorem d_R_isSameAs_27 : decode c_R_isSameAs 27 = .ok (.iload_n 2, 1) := by decide +kernel
theorem d_R_isSameAs_28 : decode c_R_isSameAs 28 = .ok (.iaload, 1) := by decide +kernel
theorem d_R_isSameAs_29 : decode c_R_isSameAs 29 = .ok (.aload_n 1, 1) := by decide +kernel
theorem d_R_isSameAs_30 : decode c_R_isSameAs 30 = .ok (.getfield 9, 3) := by decide +kernel
theorem d_R_isSameAs_33 : decode c_R_isSameAs 33 = .ok (.iload_n 2, 1) := by decide +kernel
theorem d_R_isSameAs_34 : decode c_R_isSameAs 34 = .ok (.iaload, 1) := by decide +kernel
theorem d_R_isSameAs_35 : decode c_R_isSameAs 35 = .ok (.if_icmp .eq 5, 3) := by decide +kernel
theorem d_R_isSameAs_38 : decode c_R_isSameAs 38 = .ok (.iconst 0, 1) := by decide +kernel
theorem d_R_isSameAs_39 : decode c_R_isSameAs 39 = .ok (.ireturn, 1) := by decide +kernel
theorem d_R_isSameAs_40 : decode c_R_isSameAs 40 = .ok (.iinc 2 1, 3) := by decide +kernel
theorem d_R_isSameAs_43 : decode c_R_isSameAs 43 = .ok (.goto (-28), 3) := by decide +kernel
theorem d_R_isSameAs_46 : decode c_R_isSameAs 46 = .ok (.iconst 1, 1) := by decide +kernel
theorem d_R_isSameAs_47 : decode c_R_isSameAs 47 = .ok (.ireturn, 1) := by decide +kernel
theorem row_ext {l l1 : List Nat} (h : l.length = l1.length) (hj : ∀ j, j < l.length → l.getD j 0 = l1.getD j 0) : l = l1 := by
  apply List.ext_getElem h
  intro i h1 h2
  have := hj i h1
  rw [List.getD_eq_getElem?_getD, List.getD_eq_getElem?_getD, List.getElem?_eq_getElem h1, List.getElem?_eq_getElem h2] at this
  exact this
set_option maxHeartbeats 1000000 in
theorem l_R_isSameAs {E : kx_E} {w : va_W} {x y h a : Nat} {l : List Nat} (hR : RowAt E w x y h a l) {x1 y1 h1 a1 : Nat} {l1 : List Nat} (hR1 : RowAt E w x1 y1 h1 a1 l1) {z : kx_Z} {Q : kx_O → va_W → Prop} (hlen : l.length = l1.length) (hQ : Q (.inl (some (.int (nI (if l = l1 then 1 else 0))))) w) : ∀ (n k : Nat), n + k = l.length → (∀ j, j < k → l.getD j 0 = l1.getD j 0) → kx_R E Y_R_isSameAs z 15 [(0, .ref h), (1, .ref h1), (2, .int (nI k))] [] w 0 0 Q := by
  obtain ⟨hO, ⟨f, hA, hf⟩, hl, hv⟩ := hR
  obtain ⟨hO1, ⟨f1, hA1, hf1⟩, hl1, hv1⟩ := hR1
  intro n
  induction n with
  | zero =>
    intro k hk hj
    have hkl : k = l.length := by omega
    have e : l = l1 := row_ext hlen (fun j h9 => hj j (by omega))
    rw [if_pos e] at hQ
    refine kx_iload_n d_R_isSameAs_15 rfl ?_
    refine kx_aload_n d_R_isSameAs_16 rfl (by first | rfl | exact kx_rf _) ?_
    refine kx_get _ d_R_isSameAs_17 f_R_15 (by assumption) (by rfl) ?_
    first | refine kx_icmp_ge_n 46 d_R_isSameAs_20 (by decide) (by omega) (by omega) ?_ ?_ | refine kx_icmp_ge 46 d_R_isSameAs_20 (by decide) ?_ ?_
    · intro h20
      refine kx_iconst (nI 1) d_R_isSameAs_46 (by decide) ?_
      refine kx_zret d_R_isSameAs_47 rfl (by decide) (by decide) (by decide) ?_
      exact hQ
    · intro h20
      exact absurd h20 (by omega)
  | succ n ih =>
    intro k hk hj
    have hk1 : k < l.length := by omega
    have hb : l.getD k 0 < 512 := hv _ (row_get l hk1)
    have hb1 : l1.getD k 0 < 512 := hv1 _ (row_get l1 (by omega))
    refine kx_iload_n d_R_isSameAs_15 rfl ?_
    refine kx_aload_n d_R_isSameAs_16 rfl (by first | rfl | exact kx_rf _) ?_
    refine kx_get _ d_R_isSameAs_17 f_R_15 hO (by rfl) ?_
    first | refine kx_icmp_ge_n 46 d_R_isSameAs_20 (by decide) (by omega) (by omega) ?_ ?_ | refine kx_icmp_ge 46 d_R_isSameAs_20 (by decide) ?_ ?_
    · intro h20
      exact absurd h20 (by omega)
    · intro h20
      refine kx_aload_n d_R_isSameAs_23 rfl (by first | rfl | exact kx_rf _) ?_
      refine kx_get _ d_R_isSameAs_24 f_R_9 hO (by rfl) ?_
      refine kx_iload_n d_R_isSameAs_27 rfl ?_
      refine kx_iald d_R_isSameAs_28 hA (by omega) (by decide) ?_
      rw [hf k hk1]
      refine kx_aload_n d_R_isSameAs_29 rfl (by first | rfl | exact kx_rf _) ?_
      refine kx_get _ d_R_isSameAs_30 f_R_9 hO1 (by rfl) ?_
      refine kx_iload_n d_R_isSameAs_33 rfl ?_
      refine kx_iald d_R_isSameAs_34 hA1 (by omega) (by decide) ?_
      rw [hf1 k (by omega)]
      first | refine kx_icmp_eq_n 40 d_R_isSameAs_35 (by decide) (by omega) (by omega) ?_ ?_ | refine kx_icmp_eq 40 d_R_isSameAs_35 (by decide) ?_ ?_
      · intro h35
        refine kx_iinc _ d_R_isSameAs_40 rfl (by decide) (nI_1 _) ?_
        refine kx_goto 15 d_R_isSameAs_43 (by decide) ?_
        refine kx_loc (L1 := [(0, .ref h), (1, .ref h1), (2, .int (nI (k + 1)))]) ⟨rfl, rfl, rfl, trivial⟩ ?_
        exact ih (k + 1) (by omega) (lt_s hj h35)
      · intro h35
        rw [if_neg (fun e => h35 (by rw [e]))] at hQ
        refine kx_iconst (nI 0) d_R_isSameAs_38 (by decide) ?_
        refine kx_zret d_R_isSameAs_39 rfl (by decide) (by decide) (by decide) ?_
        exact hQ
set_option maxHeartbeats 1000000 in
theorem m_R_isSameAs {E : kx_E} {w : va_W} {x y h a : Nat} {l : List Nat} (hR : RowAt E w x y h a l) {x1 y1 h1 a1 : Nat} {l1 : List Nat} (hR1 : RowAt E w x1 y1 h1 a1 l1) : kx_S E Y_R_isSameAs [.ref h, .ref h1] w (kx_Qi w (nI (if l = l1 then 1 else 0))) := by
  refine kx_go (by decide) rfl rfl (Nat.le_of_ble_eq_true rfl) (kx_cc rfl (kx_cc rfl kx_c0)) (fun z => ?_)
  have hR0 := hR
  have hR9 := hR1
  obtain ⟨hO, ⟨f, hA, hf⟩, hl, hv⟩ := hR
  obtain ⟨hO1, ⟨f1, hA1, hf1⟩, hl1, hv1⟩ := hR1
  refine kx_aload_n d_R_isSameAs_0 rfl (by first | rfl | exact kx_rf _) ?_
  refine kx_get _ d_R_isSameAs_1 f_R_15 hO (by rfl) ?_
  refine kx_aload_n d_R_isSameAs_4 rfl (by first | rfl | exact kx_rf _) ?_
  refine kx_get _ d_R_isSameAs_5 f_R_15 hO1 (by rfl) ?_
  first | refine kx_icmp_eq_n 13 d_R_isSameAs_8 (by decide) (by omega) (by omega) ?_ ?_ | refine kx_icmp_eq 13 d_R_isSameAs_8 (by decide) ?_ ?_
  · intro h8
    refine kx_iconst (nI 0) d_R_isSameAs_13 (by decide) ?_
    refine kx_istore_n d_R_isSameAs_14 (by decide) ?_
    refine kx_loc (L1 := [(0, .ref h), (1, .ref h1), (2, .int (nI 0))]) ⟨rfl, rfl, rfl, trivial⟩ ?_
    exact l_R_isSameAs hR0 hR9 h8 ⟨rfl, rfl⟩ l.length 0 rfl lt_0
  · intro h8
    refine kx_iconst (nI 0) d_R_isSameAs_11 (by decide) ?_
    refine kx_zret d_R_isSameAs_12 rfl (by decide) (by decide) (by decide) ?_
    rw [if_neg (fun e => h8 (by rw [e]))]
    exact ⟨rfl, rfl⟩
theorem d_R_itemAt_0 : decode c_R_itemAt 0 = .ok (.iload_n 1, 1) := by decide +kernel
theorem d_R_itemAt_1 : decode c_R_itemAt 1 = .ok (.ifCond .lt 11, 3) := by decide +kernel
theorem d_R_itemAt_4 : decode c_R_itemAt 4 = .ok (.iload_n 1, 1) := by decide +kernel
theorem d_R_itemAt_5 : decode c_R_itemAt 5 = .ok (.aload_n 0, 1) := by decide +kernel
theorem d_R_itemAt_6 : decode c_R_itemAt 6 = .ok (.getfield 15, 3) := by decide +kernel
theorem d_R_itemAt_9 : decode c_R_itemAt 9 = .ok (.if_icmp .lt 7, 3) := by decide +kernel
theorem d_R_itemAt_12 : decode c_R_itemAt 12 = .ok (.iconst (-1), 1) := by decide +kernel
theorem d_R_itemAt_13 : decode c_R_itemAt 13 = .ok (.goto 9, 3) := by decide +kernel
theorem d_R_itemAt_16 : decode c_R_itemAt 16 = .ok (.aload_n 0, 1) := by decide +kernel
theorem d_R_itemAt_17 : decode c_R_itemAt 17 = .ok (.getfield 9, 3) := by decide +kernel
theorem d_R_itemAt_20 : decode c_R_itemAt 20 = .ok (.iload_n 1, 1) := by decide +kernel
theorem d_R_itemAt_21 : decode c_R_itemAt 21 = .ok (.iaload, 1) := by decide +kernel
theorem d_R_itemAt_22 : decode c_R_itemAt 22 = .ok (.ireturn, 1) := by decide +kernel
set_option maxHeartbeats 1000000 in
theorem m_R_itemAt {E : kx_E} {w : va_W} {x y h a : Nat} {l : List Nat} (hR : RowAt E w x y h a l) {j : Nat} (hj : j < l.length) : kx_S E Y_R_itemAt [.ref h, .int (nI j)] w (kx_Qi w (nI (l.getD j 0))) := by
  refine kx_go (by decide) rfl rfl (Nat.le_of_ble_eq_true rfl) (kx_cc rfl (kx_cc rfl kx_c0)) (fun z => ?_)
  obtain ⟨hO, ⟨f, hA, hf⟩, hl, hv⟩ := hR
  refine kx_iload_n d_R_itemAt_0 rfl ?_
  refine kx_if_lt_n 12 d_R_itemAt_1 (by decide) (by omega) ?_
  refine kx_iload_n d_R_itemAt_4 rfl ?_
  refine kx_aload_n d_R_itemAt_5 rfl (by first | rfl | exact kx_rf _) ?_
  refine kx_get _ d_R_itemAt_6 f_R_15 (by assumption) (by rfl) ?_
  first | refine kx_icmp_lt_n 16 d_R_itemAt_9 (by decide) (by omega) (by omega) ?_ ?_ | refine kx_icmp_lt 16 d_R_itemAt_9 (by decide) ?_ ?_
  · intro h9
    refine kx_aload_n d_R_itemAt_16 rfl (by first | rfl | exact kx_rf _) ?_
    refine kx_get _ d_R_itemAt_17 f_R_9 (by assumption) (by rfl) ?_
    refine kx_iload_n d_R_itemAt_20 rfl ?_
    refine kx_iald d_R_itemAt_21 (by assumption) (by omega) (by decide) ?_
    rw [hf j hj]
    exact kx_iret d_R_itemAt_22 rfl (by decide) (by decide) ⟨rfl, rfl⟩
  · intro h9
    exact absurd h9 (by omega)
set_option maxHeartbeats 1000000 in
theorem m_R_itemAt_no {E : kx_E} {w : va_W} {x y h a : Nat} {l : List Nat} (hR : RowAt E w x y h a l) {v : Int32} (hj : v < 0 ∨ nI l.length ≤ v) : kx_S E Y_R_itemAt [.ref h, .int v] w (kx_Qi w (-1)) := by
  refine kx_go (by decide) rfl rfl (Nat.le_of_ble_eq_true rfl) (kx_cc rfl (kx_cc rfl kx_c0)) (fun z => ?_)
  obtain ⟨hO, ⟨f, hA, hf⟩, hl, hv⟩ := hR
  refine kx_iload_n d_R_itemAt_0 rfl ?_
  refine kx_if_lt 12 d_R_itemAt_1 (by decide) ?_ ?_
  · intro h1
    refine kx_iconst (-1) d_R_itemAt_12 (by decide) ?_
    refine kx_goto 22 d_R_itemAt_13 (by decide) ?_
    refine kx_iret d_R_itemAt_22 rfl (by decide) (by decide) ?_
    exact ⟨rfl, rfl⟩
  · intro h1
    refine kx_iload_n d_R_itemAt_4 rfl ?_
    refine kx_aload_n d_R_itemAt_5 rfl (by first | rfl | exact kx_rf _) ?_
    refine kx_get _ d_R_itemAt_6 f_R_15 (by assumption) (by rfl) ?_
    refine kx_icmp_lt 16 d_R_itemAt_9 (by decide) ?_ ?_
    · intro h9
      exact absurd h9 (fun h9 => by rcases hj with h | h; exact h1 h; exact absurd (Int32.lt_iff_toInt_lt.mp h9) (Int.not_lt.mpr (Int32.le_iff_toInt_le.mp h)))
    · intro h9
      refine kx_iconst (-1) d_R_itemAt_12 (by decide) ?_
      refine kx_goto 22 d_R_itemAt_13 (by decide) ?_
      refine kx_iret d_R_itemAt_22 rfl (by decide) (by decide) ?_
      exact ⟨rfl, rfl⟩
theorem d_R_idAt_0 : decode c_R_idAt 0 = .ok (.iload_n 1, 1) := by decide +kernel
theorem d_R_idAt_1 : decode c_R_idAt 1 = .ok (.iconst 1, 1) := by decide +kernel
theorem d_R_idAt_2 : decode c_R_idAt 2 = .ok (.if_icmp .lt 11, 3) := by decide +kernel
theorem d_R_idAt_5 : decode c_R_idAt 5 = .ok (.iload_n 1, 1) := by decide +kernel
theorem d_R_idAt_6 : decode c_R_idAt 6 = .ok (.aload_n 0, 1) := by decide +kernel
theorem d_R_idAt_7 : decode c_R_idAt 7 = .ok (.getfield 15, 3) := by decide +kernel
theorem d_R_idAt_10 : decode c_R_idAt 10 = .ok (.if_icmp .le 7, 3) := by decide +kernel
theorem d_R_idAt_13 : decode c_R_idAt 13 = .ok (.iconst (-1), 1) := by decide +kernel
theorem d_R_idAt_14 : decode c_R_idAt 14 = .ok (.goto 13, 3) := by decide +kernel
theorem d_R_idAt_17 : decode c_R_idAt 17 = .ok (.aload_n 0, 1) := by decide +kernel
theorem d_R_idAt_18 : decode c_R_idAt 18 = .ok (.getfield 9, 3) := by decide +kernel
theorem d_R_idAt_21 : decode c_R_idAt 21 = .ok (.iload_n 1, 1) := by decide +kernel
theorem d_R_idAt_22 : decode c_R_idAt 22 = .ok (.iconst 1, 1) := by decide +kernel
theorem d_R_idAt_23 : decode c_R_idAt 23 = .ok (.isub, 1) := by decide +kernel
theorem d_R_idAt_24 : decode c_R_idAt 24 = .ok (.iaload, 1) := by decide +kernel
theorem d_R_idAt_25 : decode c_R_idAt 25 = .ok (.iconst 1, 1) := by decide +kernel
theorem d_R_idAt_26 : decode c_R_idAt 26 = .ok (.ishr, 1) := by decide +kernel
theorem d_R_idAt_27 : decode c_R_idAt 27 = .ok (.ireturn, 1) := by decide +kernel
set_option maxHeartbeats 1000000 in
theorem m_R_idAt {E : kx_E} {w : va_W} {x y h a : Nat} {l : List Nat} (hR : RowAt E w x y h a l) {j : Nat} (hj : j < l.length) : kx_S E Y_R_idAt [.ref h, .int (nI (j + 1))] w (kx_Qi w (nI (l.getD j 0 / 2))) := by
  refine kx_go (by decide) rfl rfl (Nat.le_of_ble_eq_true rfl) (kx_cc rfl (kx_cc rfl kx_c0)) (fun z => ?_)
  have hb : l.getD j 0 < 512 := hR.2.2.2 _ (row_get l hj)
  obtain ⟨hO, ⟨f, hA, hf⟩, hl, hv⟩ := hR
  refine kx_iload_n d_R_idAt_0 rfl ?_
  refine kx_iconst (nI 1) d_R_idAt_1 (by decide) ?_
  first | refine kx_icmp_lt_n 13 d_R_idAt_2 (by decide) (by omega) (by omega) ?_ ?_ | refine kx_icmp_lt 13 d_R_idAt_2 (by decide) ?_ ?_
  · intro h2
    first | exact absurd h2 (by omega) | exact absurd h10 (by omega)
  · intro h2
    refine kx_iload_n d_R_idAt_5 rfl ?_
    refine kx_aload_n d_R_idAt_6 rfl (by first | rfl | exact kx_rf _) ?_
    refine kx_get _ d_R_idAt_7 f_R_15 (by assumption) (by rfl) ?_
    first | refine kx_icmp_le_n 17 d_R_idAt_10 (by decide) (by omega) (by omega) ?_ ?_ | refine kx_icmp_le 17 d_R_idAt_10 (by decide) ?_ ?_
    · intro h10
      refine kx_aload_n d_R_idAt_17 rfl (by first | rfl | exact kx_rf _) ?_
      refine kx_get _ d_R_idAt_18 f_R_9 (by assumption) (by rfl) ?_
      refine kx_iload_n d_R_idAt_21 rfl ?_
      refine kx_iconst (nI 1) d_R_idAt_22 (by decide) ?_
      first | refine kx_isub _ d_R_idAt_23 (pk_sub (by omega)) ?_ | refine kx_isub _ d_R_idAt_23 rfl ?_
      refine kx_iald d_R_idAt_24 hA (by omega) (by decide) ?_
      rw [show j + 1 - 1 = j from rfl, hf j hj]
      refine kx_iconst (nI 1) d_R_idAt_25 (by decide) ?_
      first | refine kx_ishr _ d_R_idAt_26 (kx_shr1 (by omega)) ?_ | refine kx_ishr _ d_R_idAt_26 rfl ?_
      refine kx_iret d_R_idAt_27 rfl (by decide) (by decide) ?_
      exact ⟨rfl, rfl⟩
    · intro h10
      first | exact absurd h2 (by omega) | exact absurd h10 (by omega)
set_option maxHeartbeats 1000000 in
theorem m_R_idAt_no {E : kx_E} {w : va_W} {x y h a : Nat} {l : List Nat} (hR : RowAt E w x y h a l) {v : Int32} (hj : v < nI 1 ∨ nI l.length < v) : kx_S E Y_R_idAt [.ref h, .int v] w (kx_Qi w (-1)) := by
  refine kx_go (by decide) rfl rfl (Nat.le_of_ble_eq_true rfl) (kx_cc rfl (kx_cc rfl kx_c0)) (fun z => ?_)
  obtain ⟨hO, ⟨f, hA, hf⟩, hl, hv⟩ := hR
  refine kx_iload_n d_R_idAt_0 rfl ?_
  refine kx_iconst (nI 1) d_R_idAt_1 (by decide) ?_
  refine kx_icmp_lt 13 d_R_idAt_2 (by decide) ?_ ?_
  · intro h2
    refine kx_iconst (-1) d_R_idAt_13 (by decide) ?_
    refine kx_goto 27 d_R_idAt_14 (by decide) ?_
    refine kx_iret d_R_idAt_27 rfl (by decide) (by decide) ?_
    exact ⟨rfl, rfl⟩
  · intro h2
    refine kx_iload_n d_R_idAt_5 rfl ?_
    refine kx_aload_n d_R_idAt_6 rfl (by first | rfl | exact kx_rf _) ?_
    refine kx_get _ d_R_idAt_7 f_R_15 (by assumption) (by rfl) ?_
    refine kx_icmp_le 17 d_R_idAt_10 (by decide) ?_ ?_
    · intro h10
      exact absurd h10 (fun h9 => by rcases hj with h | h; exact h2 h; exact absurd (Int32.lt_iff_toInt_lt.mp h) (Int.not_lt.mpr (Int32.le_iff_toInt_le.mp h9)))
    · intro h10
      refine kx_iconst (-1) d_R_idAt_13 (by decide) ?_
      refine kx_goto 27 d_R_idAt_14 (by decide) ?_
      refine kx_iret d_R_idAt_27 rfl (by decide) (by decide) ?_
      exact ⟨rfl, rfl⟩
theorem d_R_endAt_0 : decode c_R_endAt 0 = .ok (.iload_n 1, 1) := by decide +kernel
theorem d_R_endAt_1 : decode c_R_endAt 1 = .ok (.iconst 1, 1) := by decide +kernel
theorem d_R_endAt_2 : decode c_R_endAt 2 = .ok (.if_icmp .lt 11, 3) := by decide +kernel
theorem d_R_endAt_5 : decode c_R_endAt 5 = .ok (.iload_n 1, 1) := by decide +kernel
theorem d_R_endAt_6 : decode c_R_endAt 6 = .ok (.aload_n 0, 1) := by decide +kernel
theorem d_R_endAt_7 : decode c_R_endAt 7 = .ok (.getfield 15, 3) := by decide +kernel
theorem d_R_endAt_10 : decode c_R_endAt 10 = .ok (.if_icmp .le 7, 3) := by decide +kernel
theorem d_R_endAt_13 : decode c_R_endAt 13 = .ok (.iconst (-1), 1) := by decide +kernel
theorem d_R_endAt_14 : decode c_R_endAt 14 = .ok (.goto 13, 3) := by decide +kernel
theorem d_R_endAt_17 : decode c_R_endAt 17 = .ok (.aload_n 0, 1) := by decide +kernel
theorem d_R_endAt_18 : decode c_R_endAt 18 = .ok (.getfield 9, 3) := by decide +kernel
theorem d_R_endAt_21 : decode c_R_endAt 21 = .ok (.iload_n 1, 1) := by decide +kernel
theorem d_R_endAt_22 : decode c_R_endAt 22 = .ok (.iconst 1, 1) := by decide +kernel
theorem d_R_endAt_23 : decode c_R_endAt 23 = .ok (.isub, 1) := by decide +kernel
theorem d_R_endAt_24 : decode c_R_endAt 24 = .ok (.iaload, 1) := by decide +kernel
theorem d_R_endAt_25 : decode c_R_endAt 25 = .ok (.iconst 1, 1) := by decide +kernel
theorem d_R_endAt_26 : decode c_R_endAt 26 = .ok (.iand, 1) := by decide +kernel
theorem d_R_endAt_27 : decode c_R_endAt 27 = .ok (.ireturn, 1) := by decide +kernel
set_option maxHeartbeats 1000000 in
theorem m_R_endAt {E : kx_E} {w : va_W} {x y h a : Nat} {l : List Nat} (hR : RowAt E w x y h a l) {j : Nat} (hj : j < l.length) : kx_S E Y_R_endAt [.ref h, .int (nI (j + 1))] w (kx_Qi w (nI (l.getD j 0 % 2))) := by
  refine kx_go (by decide) rfl rfl (Nat.le_of_ble_eq_true rfl) (kx_cc rfl (kx_cc rfl kx_c0)) (fun z => ?_)
  have hb : l.getD j 0 < 512 := hR.2.2.2 _ (row_get l hj)
  obtain ⟨hO, ⟨f, hA, hf⟩, hl, hv⟩ := hR
  refine kx_iload_n d_R_endAt_0 rfl ?_
  refine kx_iconst (nI 1) d_R_endAt_1 (by decide) ?_
  first | refine kx_icmp_lt_n 13 d_R_endAt_2 (by decide) (by omega) (by omega) ?_ ?_ | refine kx_icmp_lt 13 d_R_endAt_2 (by decide) ?_ ?_
  · intro h2
    first | exact absurd h2 (by omega) | exact absurd h10 (by omega)
  · intro h2
    refine kx_iload_n d_R_endAt_5 rfl ?_
    refine kx_aload_n d_R_endAt_6 rfl (by first | rfl | exact kx_rf _) ?_
    refine kx_get _ d_R_endAt_7 f_R_15 (by assumption) (by rfl) ?_
    first | refine kx_icmp_le_n 17 d_R_endAt_10 (by decide) (by omega) (by omega) ?_ ?_ | refine kx_icmp_le 17 d_R_endAt_10 (by decide) ?_ ?_
    · intro h10
      refine kx_aload_n d_R_endAt_17 rfl (by first | rfl | exact kx_rf _) ?_
      refine kx_get _ d_R_endAt_18 f_R_9 (by assumption) (by rfl) ?_
      refine kx_iload_n d_R_endAt_21 rfl ?_
      refine kx_iconst (nI 1) d_R_endAt_22 (by decide) ?_
      first | refine kx_isub _ d_R_endAt_23 (pk_sub (by omega)) ?_ | refine kx_isub _ d_R_endAt_23 rfl ?_
      refine kx_iald d_R_endAt_24 hA (by omega) (by decide) ?_
      rw [show j + 1 - 1 = j from rfl, hf j hj]
      refine kx_iconst (nI 1) d_R_endAt_25 (by decide) ?_
      first | refine kx_iand _ d_R_endAt_26 (kx_and1 (by omega)) ?_ | refine kx_iand _ d_R_endAt_26 rfl ?_
      refine kx_iret d_R_endAt_27 rfl (by decide) (by decide) ?_
      exact ⟨rfl, rfl⟩
    · intro h10
      first | exact absurd h2 (by omega) | exact absurd h10 (by omega)
set_option maxHeartbeats 1000000 in
theorem m_R_endAt_no {E : kx_E} {w : va_W} {x y h a : Nat} {l : List Nat} (hR : RowAt E w x y h a l) {v : Int32} (hj : v < nI 1 ∨ nI l.length < v) : kx_S E Y_R_endAt [.ref h, .int v] w (kx_Qi w (-1)) := by
  refine kx_go (by decide) rfl rfl (Nat.le_of_ble_eq_true rfl) (kx_cc rfl (kx_cc rfl kx_c0)) (fun z => ?_)
  obtain ⟨hO, ⟨f, hA, hf⟩, hl, hv⟩ := hR
  refine kx_iload_n d_R_endAt_0 rfl ?_
  refine kx_iconst (nI 1) d_R_endAt_1 (by decide) ?_
  refine kx_icmp_lt 13 d_R_endAt_2 (by decide) ?_ ?_
  · intro h2
    refine kx_iconst (-1) d_R_endAt_13 (by decide) ?_
    refine kx_goto 27 d_R_endAt_14 (by decide) ?_
    refine kx_iret d_R_endAt_27 rfl (by decide) (by decide) ?_
    exact ⟨rfl, rfl⟩
  · intro h2
    refine kx_iload_n d_R_endAt_5 rfl ?_
    refine kx_aload_n d_R_endAt_6 rfl (by first | rfl | exact kx_rf _) ?_
    refine kx_get _ d_R_endAt_7 f_R_15 (by assumption) (by rfl) ?_
    refine kx_icmp_le 17 d_R_endAt_10 (by decide) ?_ ?_
    · intro h10
      exact absurd h10 (fun h9 => by rcases hj with h | h; exact h2 h; exact absurd (Int32.lt_iff_toInt_lt.mp h) (Int.not_lt.mpr (Int32.le_iff_toInt_le.mp h9)))
    · intro h10
      refine kx_iconst (-1) d_R_endAt_13 (by decide) ?_
      refine kx_goto 27 d_R_endAt_14 (by decide) ?_
      refine kx_iret d_R_endAt_27 rfl (by decide) (by decide) ?_
      exact ⟨rfl, rfl⟩
theorem d_R_copyFrom_0 : decode c_R_copyFrom 0 = .ok (.aload_n 1, 1) := by decide +kernel
theorem d_R_copyFrom_1 : decode c_R_copyFrom 1 = .ok (.getfield 9, 3) := by decide +kernel
theorem d_R_copyFrom_4 : decode c_R_copyFrom 4 = .ok (.iconst 0, 1) := by decide +kernel
theorem d_R_copyFrom_5 : decode c_R_copyFrom 5 = .ok (.aload_n 0, 1) := by decide +kernel
theorem d_R_copyFrom_6 : decode c_R_copyFrom 6 = .ok (.getfield 9, 3) := by decide +kernel
theorem d_R_copyFrom_9 : decode c_R_copyFrom 9 = .ok (.iconst 0, 1) := by decide +kernel
theorem d_R_copyFrom_10 : decode c_R_copyFrom 10 = .ok (.aload_n 1, 1) := by decide +kernel
theorem d_R_copyFrom_11 : decode c_R_copyFrom 11 = .ok (.getfield 15, 3) := by decide +kernel
theorem d_R_copyFrom_14 : decode c_R_copyFrom 14 = .ok (.invokestatic 25, 3) := by decide +kernel
theorem d_R_copyFrom_17 : decode c_R_copyFrom 17 = .ok (.aload_n 0, 1) := by decide +kernel
theorem d_R_copyFrom_18 : decode c_R_copyFrom 18 = .ok (.aload_n 1, 1) := by decide +kernel
theorem d_R_copyFrom_19 : decode c_R_copyFrom 19 = .ok (.getfield 15, 3) := by decide +kernel
theorem d_R_copyFrom_22 : decode c_R_copyFrom 22 = .ok (.putfield 15, 3) := by decide +kernel
theorem d_R_copyFrom_25 : decode c_R_copyFrom 25 = .ok (.return_, 1) := by decide +kernel
set_option maxHeartbeats 1000000 in
theorem m_R_copyFrom {E : kx_E} {w : va_W} {x y h a : Nat} {l : List Nat} (hR : RowAt E w x y h a l) {x1 y1 h1 a1 : Nat} {l1 : List Nat} (hR1 : RowAt E w x1 y1 h1 a1 l1) (hx : x1 ≠ x) (hy : y1 ≠ y) : kx_S E Y_R_copyFrom [.ref h, .ref h1] w (RowQ E w x y h a l1) := by
  refine kx_go (by decide) rfl rfl (Nat.le_of_ble_eq_true rfl) (kx_cc rfl (kx_cc rfl kx_c0)) (fun z => ?_)
  have hne := hR.ne
  have hne1 := hR1.ne
  obtain ⟨hO, ⟨f, hA, hf⟩, hl, hv⟩ := hR
  obtain ⟨hO1, ⟨f1, hA1, hf1⟩, hl1, hv1⟩ := hR1
  have hxy : x1 ≠ y := kx_ne hO1 hA (fun e => by cases e)
  refine kx_aload_n d_R_copyFrom_0 rfl (by first | rfl | exact kx_rf _) ?_
  refine kx_get _ d_R_copyFrom_1 f_R_9 hO1 (by rfl) ?_
  refine kx_iconst (nI 0) d_R_copyFrom_4 (by decide) ?_
  refine kx_aload_n d_R_copyFrom_5 rfl (by first | rfl | exact kx_rf _) ?_
  refine kx_get _ d_R_copyFrom_6 f_R_9 hO (by rfl) ?_
  refine kx_iconst (nI 0) d_R_copyFrom_9 (by decide) ?_
  refine kx_aload_n d_R_copyFrom_10 rfl (by first | rfl | exact kx_rf _) ?_
  refine kx_get _ d_R_copyFrom_11 f_R_15 hO1 (by rfl) ?_
  refine kx_copy d_R_copyFrom_14 cp_R_25 hA1 hA (by decide) (by decide) (by omega) (by omega) (by decide) (by decide) ?_
  have hO2 := kx_s2 (c1 := (a, kx_ai E 24 (va_cpy f1 f 0 0 l1.length))) hne hO
  have hO3 := kx_s2 (c1 := (a, kx_ai E 24 (va_cpy f1 f 0 0 l1.length))) hxy hO1
  have hA2 := kx_s1 (c1 := (a, kx_ai E 24 (va_cpy f1 f 0 0 l1.length))) hA
  refine kx_aload_n d_R_copyFrom_17 rfl (by first | rfl | exact kx_rf _) ?_
  refine kx_aload_n d_R_copyFrom_18 rfl (by first | rfl | exact kx_rf _) ?_
  refine kx_get _ d_R_copyFrom_19 f_R_15 hO3 (by rfl) ?_
  refine kx_put d_R_copyFrom_22 f_R_15 (p_R_1 _) hO2 (by simp) ?_
  refine kx_vret d_R_copyFrom_25 rfl (by decide) (by decide) ?_
  refine ⟨rfl, ⟨kx_s1 hO2, ⟨_, kx_s2 (Ne.symm hne) hA2, fun k hk => ?_⟩, hl1, hv1⟩, (kx_off.rf.set (Or.inr rfl)).set (Or.inl rfl)⟩
  rw [pk_cpy_in (by omega) (by omega), ← hf1 k hk]
  simp
theorem d_R_appendAll_0 : decode c_R_appendAll 0 = .ok (.aload_n 1, 1) := by decide +kernel
theorem d_R_appendAll_1 : decode c_R_appendAll 1 = .ok (.getfield 15, 3) := by decide +kernel
theorem d_R_appendAll_4 : decode c_R_appendAll 4 = .ok (.aload_n 0, 1) := by decide +kernel
theorem d_R_appendAll_5 : decode c_R_appendAll 5 = .ok (.getfield 9, 3) := by decide +kernel
theorem d_R_appendAll_8 : decode c_R_appendAll 8 = .ok (.arraylength, 1) := by decide +kernel
theorem d_R_appendAll_9 : decode c_R_appendAll 9 = .ok (.aload_n 0, 1) := by decide +kernel
theorem d_R_appendAll_10 : decode c_R_appendAll 10 = .ok (.getfield 15, 3) := by decide +kernel
theorem d_R_appendAll_13 : decode c_R_appendAll 13 = .ok (.isub, 1) := by decide +kernel
theorem d_R_appendAll_14 : decode c_R_appendAll 14 = .ok (.invokestatic 19, 3) := by decide +kernel
theorem d_R_appendAll_17 : decode c_R_appendAll 17 = .ok (.istore_n 2, 1) := by decide +kernel
theorem d_R_appendAll_18 : decode c_R_appendAll 18 = .ok (.aload_n 1, 1) := by decide +kernel
theorem d_R_appendAll_19 : decode c_R_appendAll 19 = .ok (.getfield 9, 3) := by decide +kernel
theorem d_R_appendAll_22 : decode c_R_appendAll 22 = .ok (.iconst 0, 1) := by decide +kernel
theorem d_R_appendAll_23 : decode c_R_appendAll 23 = .ok (.aload_n 0, 1) := by decide +kernel
theorem d_R_appendAll_24 : decode c_R_appendAll 24 = .ok (.getfield 9, 3) := by decide +kernel
theorem d_R_appendAll_27 : decode c_R_appendAll 27 = .ok (.aload_n 0, 1) := by decide +kernel
theorem d_R_appendAll_28 : decode c_R_appendAll 28 = .ok (.getfield 15, 3) := by decide +kernel
theorem d_R_appendAll_31 : decode c_R_appendAll 31 = .ok (.iload_n 2, 1) := by decide +kernel
theorem d_R_appendAll_32 : decode c_R_appendAll 32 = .ok (.invokestatic 25, 3) := by decide +kernel
theorem d_R_appendAll_35 : decode c_R_appendAll 35 = .ok (.aload_n 0, 1) := by decide +kernel
theorem d_R_appendAll_36 : decode c_R_appendAll 36 = .ok (.dup, 1) := by decide +kernel
theorem d_R_appendAll_37 : decode c_R_appendAll 37 = .ok (.getfield 15, 3) := by decide +kernel
theorem d_R_appendAll_40 : decode c_R_appendAll 40 = .ok (.iload_n 2, 1) := by decide +kernel
theorem d_R_appendAll_41 : decode c_R_appendAll 41 = .ok (.iadd, 1) := by decide +kernel
theorem d_R_appendAll_42 : decode c_R_appendAll 42 = .ok (.putfield 15, 3) := by decide +kernel
theorem d_R_appendAll_45 : decode c_R_appendAll 45 = .ok (.return_, 1) := by decide +kernel
set_option maxHeartbeats 1000000 in
theorem m_R_appendAll {E : kx_E} {w : va_W} {x y h a : Nat} {l : List Nat} (hR : RowAt E w x y h a l) {x1 y1 h1 a1 : Nat} {l1 : List Nat} (hR1 : RowAt E w x1 y1 h1 a1 l1) (hx : x1 ≠ x) (hy : y1 ≠ y) : kx_S E Y_R_appendAll [.ref h, .ref h1] w (RowQ E w x y h a ((l ++ l1).take 24)) := by
  refine kx_go (by decide) rfl rfl (Nat.le_of_ble_eq_true rfl) (kx_cc rfl (kx_cc rfl kx_c0)) (fun z => ?_)
  have hne := hR.ne
  have hne1 := hR1.ne
  obtain ⟨hO, ⟨f, hA, hf⟩, hl, hv⟩ := hR
  obtain ⟨hO1, ⟨f1, hA1, hf1⟩, hl1, hv1⟩ := hR1
  have hxy : x1 ≠ y := kx_ne hO1 hA (fun e => by cases e)
  obtain ⟨q, hq⟩ : ∃ q, q = min l1.length (24 - l.length) := ⟨_, rfl⟩
  refine kx_aload_n d_R_appendAll_0 rfl (by first | rfl | exact kx_rf _) ?_
  refine kx_get _ d_R_appendAll_1 f_R_15 hO1 (by rfl) ?_
  refine kx_aload_n d_R_appendAll_4 rfl (by first | rfl | exact kx_rf _) ?_
  refine kx_get _ d_R_appendAll_5 f_R_9 hO (by rfl) ?_
  refine kx_alen (t := 0) d_R_appendAll_8 hA rfl ?_
  refine kx_aload_n d_R_appendAll_9 rfl (by first | rfl | exact kx_rf _) ?_
  refine kx_get _ d_R_appendAll_10 f_R_15 hO (by rfl) ?_
  refine kx_isub (nI (24 - l.length)) d_R_appendAll_13 (pk_sub (by omega)) ?_
  refine kx_min d_R_appendAll_14 mn_R_19 (by omega) (by omega) (by decide) (by decide) (by decide) (by decide) ?_
  rw [← hq]
  refine kx_istore_n d_R_appendAll_17 (by decide) ?_
  refine kx_aload_n d_R_appendAll_18 rfl (by first | rfl | exact kx_rf _) ?_
  refine kx_get _ d_R_appendAll_19 f_R_9 hO1 (by rfl) ?_
  refine kx_iconst (nI 0) d_R_appendAll_22 (by decide) ?_
  refine kx_aload_n d_R_appendAll_23 rfl (by first | rfl | exact kx_rf _) ?_
  refine kx_get _ d_R_appendAll_24 f_R_9 hO (by rfl) ?_
  refine kx_aload_n d_R_appendAll_27 rfl (by first | rfl | exact kx_rf _) ?_
  refine kx_get _ d_R_appendAll_28 f_R_15 hO (by rfl) ?_
  refine kx_iload_n d_R_appendAll_31 rfl ?_
  refine kx_copy d_R_appendAll_32 cp_R_25 hA1 hA (by decide) (by decide) (by omega) (by omega) (by decide) (by decide) ?_
  have hO2 := kx_s2 (c1 := (a, kx_ai E 24 (va_cpy f1 f 0 l.length q))) hne hO
  have hA2 := kx_s1 (c1 := (a, kx_ai E 24 (va_cpy f1 f 0 l.length q))) hA
  refine kx_aload_n d_R_appendAll_35 rfl (by first | rfl | exact kx_rf _) ?_
  refine kx_dup d_R_appendAll_36 (by first | rfl | exact kx_rfc _) ?_
  refine kx_get _ d_R_appendAll_37 f_R_15 hO2 (by rfl) ?_
  refine kx_iload_n d_R_appendAll_40 rfl ?_
  first | refine kx_iadd _ d_R_appendAll_41 (nI_add _ _) ?_ | refine kx_iadd _ d_R_appendAll_41 rfl ?_
  refine kx_put d_R_appendAll_42 f_R_15 (p_R_1 _) hO2 (by simp) ?_
  refine kx_vret d_R_appendAll_45 rfl (by decide) (by decide) ?_
  have hlen : ((l ++ l1).take 24).length = l.length + q := by rw [List.length_take, List.length_append]; omega
  refine ⟨rfl, ⟨by rw [hlen]; exact kx_s1 hO2, ⟨_, kx_s2 (Ne.symm hne) hA2, fun k hk => ?_⟩, by omega, fun u hu => ?_⟩, (kx_off.rf.set (Or.inr rfl)).set (Or.inl rfl)⟩
  · rw [hlen] at hk
    by_cases e : k < l.length
    · rw [pk_cpy_out (Or.inl e), hf k e]
      congr 1
      rw [List.getD_eq_getElem?_getD, List.getD_eq_getElem?_getD, List.getElem?_take_of_lt (by omega), List.getElem?_append_left e]
    · rw [pk_cpy_in (by omega) hk, show 0 + (k - l.length) = k - l.length by omega, hf1 _ (by omega)]
      congr 1
      rw [List.getD_eq_getElem?_getD, List.getD_eq_getElem?_getD, List.getElem?_take_of_lt (by omega), List.getElem?_append_right (by omega)]
  · rcases List.mem_append.mp (List.mem_of_mem_take hu) with hu | hu
    · exact hv u hu
    · exact hv1 u hu
