theorem d_R_turnRound_0 : decode c_R_turnRound 0 = .ok (.iconst 0, 1) := by decide +kernel
theorem d_R_turnRound_1 : decode c_R_turnRound 1 = .ok (.istore_n 1, 1) := by decide +kernel
theorem d_R_turnRound_2 : decode c_R_turnRound 2 = .ok (.iconst 2, 1) := by decide +kernel
theorem d_R_turnRound_3 : decode c_R_turnRound 3 = .ok (.iload_n 1, 1) := by decide +kernel
theorem d_R_turnRound_4 : decode c_R_turnRound 4 = .ok (.imul, 1) := by decide +kernel
theorem d_R_turnRound_5 : decode c_R_turnRound 5 = .ok (.aload_n 0, 1) := by decide +kernel
theorem d_R_turnRound_6 : decode c_R_turnRound 6 = .ok (.getfield 15, 3) := by decide +kernel
theorem d_R_turnRound_9 : decode c_R_turnRound 9 = .ok (.if_icmp .ge 48, 3) := by decide +kernel
theorem d_R_turnRound_12 : decode c_R_turnRound 12 = .ok (.aload_n 0, 1) := by decide +kernel
theorem d_R_turnRound_13 : decode c_R_turnRound 13 = .ok (.getfield 15, 3) := by decide +kernel
theorem d_R_turnRound_16 : decode c_R_turnRound 16 = .ok (.iconst 1, 1) := by decide +kernel
theorem d_R_turnRound_17 : decode c_R_turnRound 17 = .ok (.isub, 1) := by decide +kernel
theorem d_R_turnRound_18 : decode c_R_turnRound 18 = .ok (.iload_n 1, 1) := by decide +kernel
theorem d_R_turnRound_19 : decode c_R_turnRound 19 = .ok (.isub, 1) := by decide +kernel
theorem d_R_turnRound_20 : decode c_R_turnRound 20 = .ok (.istore_n 2, 1) := by decide +kernel
theorem d_R_turnRound_21 : decode c_R_turnRound 21 = .ok (.aload_n 0, 1) := by decide +kernel
theorem d_R_turnRound_22 : decode c_R_turnRound 22 = .ok (.getfield 9, 3) := by decide +kernel
theorem d_R_turnRound_25 : decode c_R_turnRound 25 = .ok (.iload_n 1, 1) := by decide +kernel
theorem d_R_turnRound_26 : decode c_R_turnRound 26 = .ok (.iaload, 1) := by decide +kernel
theorem d_R_turnRound_27 : decode c_R_turnRound 27 = .ok (.istore_n 3, 1) := by decide +kernel
theorem d_R_turnRound_28 : decode c_R_turnRound 28 = .ok (.aload_n 0, 1) := by decide +kernel
theorem d_R_turnRound_29 : decode c_R_turnRound 29 = .ok (.getfield 9, 3) := by decide +kernel
theorem d_R_turnRound_32 : decode c_R_turnRound 32 = .ok (.iload_n 1, 1) := by decide +kernel
theorem d_R_turnRound_33 : decode c_R_turnRound 33 = .ok (.aload_n 0, 1) := by decide +kernel
theorem d_R_turnRound_34 : decode c_R_turnRound 34 = .ok (.getfield 9, 3) := by decide +kernel
theorem d_R_turnRound_37 : decode c_R_turnRound 37 = .ok (.iload_n 2, 1) := by decide +kernel
theorem d_R_turnRound_38 : decode c_R_turnRound 38 = .ok (.iaload, 1) := by decide +kernel
theorem d_R_turnRound_39 : decode c_R_turnRound 39 = .ok (.iconst 1, 1) := by decide +kernel
theorem d_R_turnRound_40 : decode c_R_turnRound 40 = .ok (.ixor, 1) := by decide +kernel
theorem d_R_turnRound_41 : decode c_R_turnRound 41 = .ok (.iastore, 1) := by decide +kernel
theorem d_R_turnRound_42 : decode c_R_turnRound 42 = .ok (.aload_n 0, 1) := by decide +kernel
theorem d_R_turnRound_43 : decode c_R_turnRound 43 = .ok (.getfield 9, 3) := by decide +kernel
theorem d_R_turnRound_46 : decode c_R_turnRound 46 = .ok (.iload_n 2, 1) := by decide +kernel
theorem d_R_turnRound_47 : decode c_R_turnRound 47 = .ok (.iload_n 3, 1) := by decide +kernel
theorem d_R_turnRound_48 : decode c_R_turnRound 48 = .ok (.iconst 1, 1) := by decide +kernel
theorem d_R_turnRound_49 : decode c_R_turnRound 49 = .ok (.ixor, 1) := by decide +kernel
theorem d_R_turnRound_50 : decode c_R_turnRound 50 = .ok (.iastore, 1) := by decide +kernel
theorem d_R_turnRound_51 : decode c_R_turnRound 51 = .ok (.iinc 1 1, 3) := by decide +kernel
theorem d_R_turnRound_54 : decode c_R_turnRound 54 = .ok (.goto (-52), 3) := by decide +kernel
theorem d_R_turnRound_57 : decode c_R_turnRound 57 = .ok (.return_, 1) := by decide +kernel
/-- the list seen from the other side -/
def rowTurn (l : List Nat) : List Nat := l.reverse.map (· ^^^ 1)
theorem rowTurn_len (l : List Nat) : (rowTurn l).length = l.length := by unfold rowTurn; rw [List.length_map, List.length_reverse]
theorem rowTurn_get (l : List Nat) {j : Nat} (h : j < l.length) : (rowTurn l).getD j 0 = l.getD (l.length - 1 - j) 0 ^^^ 1 := by
  unfold rowTurn
  rw [List.getD_eq_getElem?_getD, List.getD_eq_getElem?_getD, List.getElem?_map, List.getElem?_reverse h, List.getElem?_eq_getElem (by omega)]
  rfl
theorem row_x1 {v : Nat} (h : v < 512) : v ^^^ 1 < 512 := Nat.xor_lt_two_pow (n := 9) h (by decide)
def trnI (l : List Nat) (f : Nat → Int32) (k : Nat) : Prop := ∀ j, j < l.length → f j = nI (if j < k ∨ l.length - 1 - j < k then l.getD (l.length - 1 - j) 0 ^^^ 1 else l.getD j 0)
theorem trnI_step {l : List Nat} {f : Nat → Int32} {k : Nat} (h : trnI l f k) (hk : 2 * k < l.length) : trnI l (upd (upd f k (nI (l.getD (l.length - 1 - k) 0 ^^^ 1))) (l.length - 1 - k) (nI (l.getD k 0 ^^^ 1))) (k + 1) := by
  intro j hj
  by_cases e : j = l.length - 1 - k
  · subst e
    rw [pk_us, if_pos (Or.inr (by omega)), show l.length - 1 - (l.length - 1 - k) = k by omega]
  · rw [pk_un e]
    by_cases e2 : j = k
    · subst e2
      rw [pk_us, if_pos (Or.inl (by omega))]
    · rw [pk_un e2, h j hj]
      by_cases c : j < k ∨ l.length - 1 - j < k
      · rw [if_pos c, if_pos (by omega)]
      · rw [if_neg c, if_neg (by omega)]
set_option maxHeartbeats 2000000 in
theorem l_R_turnRound {E : kx_E} {w : va_W} {x y h a : Nat} {l : List Nat} (hR : RowAt E w x y h a l) {z : kx_Z} : ∀ (n k : Nat) (w1 : va_W) (f : Nat → Int32), l.length ≤ 2 * (n + k) → k ≤ 24 → w1[x]? = some (h, .inr (3, [.ref a, .int (nI l.length)])) → w1[y]? = some (a, kx_ai E 24 f) → trnI l f k → kx_off w w1 (RowP x y) → kx_R E Y_R_turnRound z 2 [(0, .ref h), (1, .int (nI k))] [] w1 0 0 (RowQ E w x y h a (rowTurn l)) := by
  have hne := hR.ne
  obtain ⟨-, -, hl, hv⟩ := hR
  have fin : ∀ (k : Nat) (w1 : va_W) (f : Nat → Int32), l.length ≤ 2 * k → w1[x]? = some (h, .inr (3, [.ref a, .int (nI l.length)])) → w1[y]? = some (a, kx_ai E 24 f) → trnI l f k → kx_off w w1 (RowP x y) → RowQ E w x y h a (rowTurn l) (.inl none) w1 := by
    intro k w1 f hk hO hA hf ho
    refine ⟨rfl, ⟨by rw [rowTurn_len]; exact hO, ⟨f, hA, fun j hj => ?_⟩, by rw [rowTurn_len]; exact hl, fun v h9 => ?_⟩, ho⟩
    · rw [rowTurn_len] at hj
      rw [hf j hj, if_pos (by omega), rowTurn_get l hj]
    · unfold rowTurn at h9
      obtain ⟨u, hu, rfl⟩ := List.mem_map.mp h9
      exact row_x1 (hv u (List.mem_reverse.mp hu))
  intro n
  induction n with
  | zero =>
    intro k w1 f hn h24 hO hA hf ho
    refine kx_iconst (nI 2) d_R_turnRound_2 (by decide) ?_
    refine kx_iload_n d_R_turnRound_3 rfl ?_
    first | refine kx_imul _ d_R_turnRound_4 (pk_mul _ _) ?_ | refine kx_imul _ d_R_turnRound_4 rfl ?_
    refine kx_aload_n d_R_turnRound_5 rfl (by first | rfl | exact kx_rf _) ?_
    refine kx_get _ d_R_turnRound_6 f_R_15 (by assumption) (by rfl) ?_
    first | refine kx_icmp_ge_n 57 d_R_turnRound_9 (by decide) (by omega) (by omega) ?_ ?_ | refine kx_icmp_ge 57 d_R_turnRound_9 (by decide) ?_ ?_
    · intro h9
      refine kx_vret d_R_turnRound_57 rfl (by decide) (by decide) ?_
      exact fin k w1 f (by omega) hO hA hf ho
    · intro h9
      exact absurd h9 (by omega)
  | succ n ih =>
    intro k w1 f hn h24 hO hA hf ho
    refine kx_iconst (nI 2) d_R_turnRound_2 (by decide) ?_
    refine kx_iload_n d_R_turnRound_3 rfl ?_
    first | refine kx_imul _ d_R_turnRound_4 (pk_mul _ _) ?_ | refine kx_imul _ d_R_turnRound_4 rfl ?_
    refine kx_aload_n d_R_turnRound_5 rfl (by first | rfl | exact kx_rf _) ?_
    refine kx_get _ d_R_turnRound_6 f_R_15 (by assumption) (by rfl) ?_
    first | refine kx_icmp_ge_n 57 d_R_turnRound_9 (by decide) (by omega) (by omega) ?_ ?_ | refine kx_icmp_ge 57 d_R_turnRound_9 (by decide) ?_ ?_
    · intro h9
      refine kx_vret d_R_turnRound_57 rfl (by decide) (by decide) ?_
      exact fin k w1 f (by omega) hO hA hf ho
    · intro h9
      have hk2 : 2 * k < l.length := h9
      have hfk : f k = nI (l.getD k 0) := by rw [hf k (by omega), if_neg (by omega)]
      have hfl : f (l.length - 1 - k) = nI (l.getD (l.length - 1 - k) 0) := by rw [hf _ (by omega), if_neg (by omega)]
      refine kx_aload_n d_R_turnRound_12 rfl (by first | rfl | exact kx_rf _) ?_
      refine kx_get _ d_R_turnRound_13 f_R_15 (by assumption) (by rfl) ?_
      refine kx_iconst (nI 1) d_R_turnRound_16 (by decide) ?_
      first | refine kx_isub _ d_R_turnRound_17 (pk_sub (by omega)) ?_ | refine kx_isub _ d_R_turnRound_17 rfl ?_
      refine kx_iload_n d_R_turnRound_18 rfl ?_
      first | refine kx_isub _ d_R_turnRound_19 (pk_sub (by omega)) ?_ | refine kx_isub _ d_R_turnRound_19 rfl ?_
      refine kx_istore_n d_R_turnRound_20 (by decide) ?_
      refine kx_aload_n d_R_turnRound_21 rfl (by first | rfl | exact kx_rf _) ?_
      refine kx_get _ d_R_turnRound_22 f_R_9 (by assumption) (by rfl) ?_
      refine kx_iload_n d_R_turnRound_25 rfl ?_
      refine kx_iald d_R_turnRound_26 hA (by omega) (by decide) ?_
      rw [hfk]
      refine kx_istore_n d_R_turnRound_27 (by decide) ?_
      refine kx_aload_n d_R_turnRound_28 rfl (by first | rfl | exact kx_rf _) ?_
      refine kx_get _ d_R_turnRound_29 f_R_9 (by assumption) (by rfl) ?_
      refine kx_iload_n d_R_turnRound_32 rfl ?_
      refine kx_aload_n d_R_turnRound_33 rfl (by first | rfl | exact kx_rf _) ?_
      refine kx_get _ d_R_turnRound_34 f_R_9 (by assumption) (by rfl) ?_
      refine kx_iload_n d_R_turnRound_37 rfl ?_
      refine kx_iald d_R_turnRound_38 hA (by omega) (by decide) ?_
      rw [hfl]
      refine kx_iconst (nI 1) d_R_turnRound_39 (by decide) ?_
      first | refine kx_ixor _ d_R_turnRound_40 (kx_xor _ _) ?_ | refine kx_ixor _ d_R_turnRound_40 rfl ?_
      refine kx_iast d_R_turnRound_41 hA (by omega) (by decide) ?_
      have hO2 := kx_s2 (c1 := (a, kx_ai E 24 (upd f k (nI (l.getD (l.length - 1 - k) 0 ^^^ 1))))) hne hO
      have hA2 := kx_s1 (c1 := (a, kx_ai E 24 (upd f k (nI (l.getD (l.length - 1 - k) 0 ^^^ 1))))) hA
      refine kx_aload_n d_R_turnRound_42 rfl (by first | rfl | exact kx_rf _) ?_
      refine kx_get _ d_R_turnRound_43 f_R_9 hO2 (by rfl) ?_
      refine kx_iload_n d_R_turnRound_46 rfl ?_
      refine kx_iload_n d_R_turnRound_47 rfl ?_
      refine kx_iconst (nI 1) d_R_turnRound_48 (by decide) ?_
      first | refine kx_ixor _ d_R_turnRound_49 (kx_xor _ _) ?_ | refine kx_ixor _ d_R_turnRound_49 rfl ?_
      refine kx_iast d_R_turnRound_50 hA2 (by omega) (by decide) ?_
      refine kx_iinc _ d_R_turnRound_51 rfl (by decide) (nI_1 _) ?_
      refine kx_goto 2 d_R_turnRound_54 (by decide) ?_
      refine kx_loc (L1 := [(0, .ref h), (1, .int (nI (k + 1)))]) ⟨rfl, rfl, trivial⟩ ?_
      exact ih (k + 1) _ _ (by omega) (by omega) (kx_s2 hne hO2) (kx_s1 hA2) (trnI_step hf hk2) ((ho.set (Or.inr rfl)).set (Or.inr rfl))
theorem m_R_turnRound {E : kx_E} {w : va_W} {x y h a : Nat} {l : List Nat} (hR : RowAt E w x y h a l) : kx_S E Y_R_turnRound [.ref h] w (RowQ E w x y h a (rowTurn l)) := by
  refine kx_go (by decide) rfl rfl (Nat.le_of_ble_eq_true rfl) (kx_cc rfl kx_c0) (fun z => ?_)
  refine kx_iconst (nI 0) d_R_turnRound_0 (by decide) ?_
  refine kx_istore_n d_R_turnRound_1 (by decide) ?_
  refine kx_loc (L1 := [(0, .ref h), (1, .int (nI 0))]) ⟨rfl, rfl, trivial⟩ ?_
  have hR0 := hR
  obtain ⟨hO, ⟨f, hA, hf⟩, hl, hv⟩ := hR
  exact l_R_turnRound hR0 l.length 0 w f (by omega) (by omega) hO hA (fun j hj => by rw [hf j hj, if_neg (by omega)]) kx_off.rf
theorem d_R_hasCarTwice_0 : decode c_R_hasCarTwice 0 = .ok (.iconst 0, 1) := by decide +kernel
theorem d_R_hasCarTwice_1 : decode c_R_hasCarTwice 1 = .ok (.istore_n 2, 1) := by decide +kernel
theorem d_R_hasCarTwice_2 : decode c_R_hasCarTwice 2 = .ok (.iconst 0, 1) := by decide +kernel
theorem d_R_hasCarTwice_3 : decode c_R_hasCarTwice 3 = .ok (.istore_n 3, 1) := by decide +kernel
theorem d_R_hasCarTwice_4 : decode c_R_hasCarTwice 4 = .ok (.iload_n 3, 1) := by decide +kernel
theorem d_R_hasCarTwice_5 : decode c_R_hasCarTwice 5 = .ok (.aload_n 0, 1) := by decide +kernel
theorem d_R_hasCarTwice_6 : decode c_R_hasCarTwice 6 = .ok (.getfield 15, 3) := by decide +kernel
theorem d_R_hasCarTwice_9 : decode c_R_hasCarTwice 9 = .ok (.if_icmp .ge 41, 3) := by decide +kernel
theorem d_R_hasCarTwice_12 : decode c_R_hasCarTwice 12 = .ok (.aload_n 0, 1) := by decide +kernel
theorem d_R_hasCarTwice_13 : decode c_R_hasCarTwice 13 = .ok (.getfield 9, 3) := by decide +kernel
theorem d_R_hasCarTwice_16 : decode c_R_hasCarTwice 16 = .ok (.iload_n 3, 1) := by decide +kernel
theorem d_R_hasCarTwice_17 : decode c_R_hasCarTwice 17 = .ok (.iaload, 1) := by decide +kernel
theorem d_R_hasCarTwice_18 : decode c_R_hasCarTwice 18 = .ok (.iconst 1, 1) := by decide +kernel
theorem d_R_hasCarTwice_19 : decode c_R_hasCarTwice 19 = .ok (.ishr, 1) := by decide +kernel
theorem d_R_hasCarTwice_20 : decode c_R_hasCarTwice 20 = .ok (.istore 4, 2) := by decide +kernel
theorem d_R_hasCarTwice_22 : decode c_R_hasCarTwice 22 = .ok (.iload_n 2, 1) := by decide +kernel
theorem d_R_hasCarTwice_23 : decode c_R_hasCarTwice 23 = .ok (.ifCond .ne 10, 3) := by decide +kernel
theorem d_R_hasCarTwice_26 : decode c_R_hasCarTwice 26 = .ok (.aload_n 1, 1) := by decide +kernel
theorem d_R_hasCarTwice_27 : decode c_R_hasCarTwice 27 = .ok (.iload 4, 2) := by decide +kernel
theorem d_R_hasCarTwice_29 : decode c_R_hasCarTwice 29 = .ok (.baload, 1) := by decide +kernel
theorem d_R_hasCarTwice_30 : decode c_R_hasCarTwice 30 = .ok (.ifCond .eq 7, 3) := by decide +kernel
theorem d_R_hasCarTwice_33 : decode c_R_hasCarTwice 33 = .ok (.iconst 1, 1) := by decide +kernel
theorem d_R_hasCarTwice_34 : decode c_R_hasCarTwice 34 = .ok (.goto 4, 3) := by decide +kernel
theorem d_R_hasCarTwice_37 : decode c_R_hasCarTwice 37 = .ok (.iconst 0, 1) := by decide +kernel
theorem d_R_hasCarTwice_38 : decode c_R_hasCarTwice 38 = .ok (.istore_n 2, 1) := by decide +kernel
theorem d_R_hasCarTwice_39 : decode c_R_hasCarTwice 39 = .ok (.aload_n 1, 1) := by decide +kernel
theorem d_R_hasCarTwice_40 : decode c_R_hasCarTwice 40 = .ok (.iload 4, 2) := by decide +kernel
theorem d_R_hasCarTwice_42 : decode c_R_hasCarTwice 42 = .ok (.iconst 1, 1) := by decide +kernel
theorem d_R_hasCarTwice_43 : decode c_R_hasCarTwice 43 = .ok (.bastore, 1) := by decide +kernel
theorem d_R_hasCarTwice_44 : decode c_R_hasCarTwice 44 = .ok (.iinc 3 1, 3) := by decide +kernel
theorem d_R_hasCarTwice_47 : decode c_R_hasCarTwice 47 = .ok (.goto (-43), 3) := by decide +kernel
theorem d_R_hasCarTwice_50 : decode c_R_hasCarTwice 50 = .ok (.iconst 0, 1) := by decide +kernel
theorem d_R_hasCarTwice_51 : decode c_R_hasCarTwice 51 = .ok (.istore_n 3, 1) := by decide +kernel
theorem d_R_hasCarTwice_52 : decode c_R_hasCarTwice 52 = .ok (.iload_n 3, 1) := by decide +kernel
theorem d_R_hasCarTwice_53 : decode c_R_hasCarTwice 53 = .ok (.aload_n 0, 1) := by decide +kernel
theorem d_R_hasCarTwice_54 : decode c_R_hasCarTwice 54 = .ok (.getfield 15, 3) := by decide +kernel
theorem d_R_hasCarTwice_57 : decode c_R_hasCarTwice 57 = .ok (.if_icmp .ge 20, 3) := by decide +kernel
theorem d_R_hasCarTwice_60 : decode c_R_hasCarTwice 60 = .ok (.aload_n 1, 1) := by decide +kernel
theorem d_R_hasCarTwice_61 : decode c_R_hasCarTwice 61 = .ok (.aload_n 0, 1) := by decide +kernel
theorem d_R_hasCarTwice_62 : decode c_R_hasCarTwice 62 = .ok (.getfield 9, 3) := by decide +kernel
theorem d_R_hasCarTwice_65 : decode c_R_hasCarTwice 65 = .ok (.iload_n 3, 1) := by decide +kernel
theorem d_R_hasCarTwice_66 : decode c_R_hasCarTwice 66 = .ok (.iaload, 1) := by decide +kernel
theorem d_R_hasCarTwice_67 : decode c_R_hasCarTwice 67 = .ok (.iconst 1, 1) := by decide +kernel
theorem d_R_hasCarTwice_68 : decode c_R_hasCarTwice 68 = .ok (.ishr, 1) := by decide +kernel
theorem d_R_hasCarTwice_69 : decode c_R_hasCarTwice 69 = .ok (.iconst 0, 1) := by decide +kernel
theorem d_R_hasCarTwice_70 : decode c_R_hasCarTwice 70 = .ok (.bastore, 1) := by decide +kernel
theorem d_R_hasCarTwice_71 : decode c_R_hasCarTwice 71 = .ok (.iinc 3 1, 3) := by decide +kernel
theorem d_R_hasCarTwice_74 : decode c_R_hasCarTwice 74 = .ok (.goto (-22), 3) := by decide +kernel
theorem d_R_hasCarTwice_77 : decode c_R_hasCarTwice 77 = .ok (.iload_n 2, 1) := by decide +kernel
theorem d_R_hasCarTwice_78 : decode c_R_hasCarTwice 78 = .ok (.ireturn, 1) := by decide +kernel
/-- the marks, all off -/
def MarksAt (E : kx_E) (w : va_W) (m b : Nat) : Prop := ∃ g, w[m]? = some (b, kx_az E 256 g) ∧ ∀ i, i < 256 → g i = nI 0
abbrev rowIds (l : List Nat) : List Nat := l.map (· / 2)
def rowTw (l : List Nat) : Nat := if (rowIds l).Nodup then 0 else 1
theorem rowTw_01 (l : List Nat) : rowTw l = 0 ∨ rowTw l = 1 := by unfold rowTw; split <;> simp
theorem row_take {l : List Nat} {k : Nat} (h : k < l.length) : rowIds (l.take (k + 1)) = rowIds (l.take k) ++ [l.getD k 0 / 2] := by
  show List.map _ (l.take (k + 1)) = _
  rw [List.take_succ_eq_append_getElem h, List.map_append, List.getD_eq_getElem?_getD, List.getElem?_eq_getElem h]
  rfl
theorem rowTw_step {l : List Nat} {k : Nat} (h : k < l.length) : rowTw (l.take (k + 1)) = if rowTw (l.take k) = 1 ∨ l.getD k 0 / 2 ∈ rowIds (l.take k) then 1 else 0 := by
  unfold rowTw
  rw [row_take h]
  by_cases n : (rowIds (l.take k)).Nodup
  · by_cases e : l.getD k 0 / 2 ∈ rowIds (l.take k)
    · rw [if_neg (fun q => (List.nodup_append.mp q).2.2 _ e _ (List.mem_singleton.mpr rfl) rfl), if_pos (Or.inr e)]
    · rw [if_pos, if_neg]
      · rintro (q | q)
        · rw [if_pos n] at q; cases q
        · exact e q
      · refine List.nodup_append.mpr ⟨n, by simp, fun a ha b hb => ?_⟩
        rw [List.mem_singleton.mp hb]
        exact fun q => e (q ▸ ha)
  · rw [if_neg (fun q => n (List.nodup_append.mp q).1), if_pos (Or.inl (by rw [if_neg n]))]
set_option maxHeartbeats 2000000 in
theorem l_R_hasCarTwice2 {E : kx_E} {w : va_W} {x y h a : Nat} {l : List Nat} (hR : RowAt E w x y h a l) {m b : Nat} (hm : m ≠ x) (hm1 : m ≠ y) {z : kx_Z} {Q : kx_O → va_W → Prop} {t : Nat} (ht : t = 0 ∨ t = 1) (hQ : ∀ w1, RowAt E w1 x y h a l → MarksAt E w1 m b → kx_off w w1 (fun n => n = m) → Q (.inl (some (.int (nI t)))) w1) : ∀ (n k : Nat) (w1 : va_W) (g : Nat → Int32), n + k = l.length → RowAt E w1 x y h a l → w1[m]? = some (b, kx_az E 256 g) → (∀ i, i < 256 → g i = nI (if i ∈ rowIds l ∧ i ∉ rowIds (l.take k) then 1 else 0)) → kx_off w w1 (fun n => n = m) → kx_R E Y_R_hasCarTwice z 52 [(0, .ref h), (1, .ref b), (2, .int (nI t)), (3, .int (nI k))] [] w1 0 0 Q := by
  clear hR
  intro n
  induction n with
  | zero =>
    intro k w1 g hk hR hM hg ho
    have hR0 := hR
    obtain ⟨hO, ⟨f, hA, hf⟩, hl, hv⟩ := hR
    have hkl : k = l.length := by omega
    refine kx_iload_n d_R_hasCarTwice_52 rfl ?_
    refine kx_aload_n d_R_hasCarTwice_53 rfl (by first | rfl | exact kx_rf _) ?_
    refine kx_get _ d_R_hasCarTwice_54 f_R_15 (by assumption) (by rfl) ?_
    first | refine kx_icmp_ge_n 77 d_R_hasCarTwice_57 (by decide) (by omega) (by omega) ?_ ?_ | refine kx_icmp_ge 77 d_R_hasCarTwice_57 (by decide) ?_ ?_
    · intro h57
      refine kx_iload_n d_R_hasCarTwice_77 rfl ?_
      refine kx_zret d_R_hasCarTwice_78 rfl (by rcases ht with rfl | rfl <;> decide) (by decide) (by decide) (hQ w1 hR0 ⟨g, hM, fun i hi => ?_⟩ ho)
      rw [hg i hi, hkl, List.take_length, if_neg (fun q => q.2 q.1)]
    · intro h57
      exact absurd h57 (by omega)
  | succ n ih =>
    intro k w1 g hk hR hM hg ho
    have hR0 := hR
    obtain ⟨hO, ⟨f, hA, hf⟩, hl, hv⟩ := hR
    have hk1 : k < l.length := by omega
    have hb : l.getD k 0 < 512 := hv _ (row_get l hk1)
    refine kx_iload_n d_R_hasCarTwice_52 rfl ?_
    refine kx_aload_n d_R_hasCarTwice_53 rfl (by first | rfl | exact kx_rf _) ?_
    refine kx_get _ d_R_hasCarTwice_54 f_R_15 hO (by rfl) ?_
    first | refine kx_icmp_ge_n 77 d_R_hasCarTwice_57 (by decide) (by omega) (by omega) ?_ ?_ | refine kx_icmp_ge 77 d_R_hasCarTwice_57 (by decide) ?_ ?_
    · intro h57
      exact absurd h57 (by omega)
    · intro h57
      refine kx_aload_n d_R_hasCarTwice_60 rfl (by first | rfl | exact kx_rf _) ?_
      refine kx_aload_n d_R_hasCarTwice_61 rfl (by first | rfl | exact kx_rf _) ?_
      refine kx_get _ d_R_hasCarTwice_62 f_R_9 hO (by rfl) ?_
      refine kx_iload_n d_R_hasCarTwice_65 rfl ?_
      refine kx_iald d_R_hasCarTwice_66 hA (by omega) (by decide) ?_
      rw [hf k hk1]
      refine kx_iconst (nI 1) d_R_hasCarTwice_67 (by decide) ?_
      first | refine kx_ishr _ d_R_hasCarTwice_68 (kx_shr1 (by omega)) ?_ | refine kx_ishr _ d_R_hasCarTwice_68 rfl ?_
      refine kx_iconst (nI 0) d_R_hasCarTwice_69 (by decide) ?_
      refine kx_zast d_R_hasCarTwice_70 hM (by omega) (by decide) (by decide) ?_
      refine kx_iinc _ d_R_hasCarTwice_71 rfl (by decide) (nI_1 _) ?_
      refine kx_goto 52 d_R_hasCarTwice_74 (by decide) ?_
      refine kx_loc (L1 := [(0, .ref h), (1, .ref b), (2, .int (nI t)), (3, .int (nI (k + 1)))]) ⟨rfl, rfl, rfl, rfl, trivial⟩ ?_
      refine ih (k + 1) _ _ (by omega) (hR0.off (kx_off.rf.set (P := fun n => n = m) rfl) (fun e => hm e.symm) (fun e => hm1 e.symm)) (kx_s1 hM) (fun i hi => ?_) (ho.set rfl)
      rw [row_take hk1]
      by_cases e : i = l.getD k 0 / 2
      · rw [e, pk_us, if_neg (fun q => q.2 (List.mem_append_right _ (List.mem_singleton.mpr rfl)))]
      · rw [pk_un e, hg i hi]
        by_cases c : i ∈ rowIds l ∧ i ∉ rowIds (l.take k)
        · rw [if_pos c, if_pos ⟨c.1, fun q => (List.mem_append.mp q).elim c.2 (fun q => e (List.mem_singleton.mp q))⟩]
        · rw [if_neg c, if_neg (fun q => c ⟨q.1, fun r => q.2 (List.mem_append_left _ r)⟩)]
set_option maxHeartbeats 2000000 in
theorem l_R_hasCarTwice1 {E : kx_E} {w : va_W} {x y h a : Nat} {l : List Nat} (hR : RowAt E w x y h a l) {m b : Nat} (hm : m ≠ x) (hm1 : m ≠ y) {z : kx_Z} {Q : kx_O → va_W → Prop} (hQ : ∀ w1, RowAt E w1 x y h a l → MarksAt E w1 m b → kx_off w w1 (fun n => n = m) → Q (.inl (some (.int (nI (rowTw l))))) w1) : ∀ (n k : Nat) (w1 : va_W) (g : Nat → Int32), n + k = l.length → RowAt E w1 x y h a l → w1[m]? = some (b, kx_az E 256 g) → (∀ i, i < 256 → g i = nI (if i ∈ rowIds (l.take k) then 1 else 0)) → kx_off w w1 (fun n => n = m) → kx_R E Y_R_hasCarTwice z 4 [(0, .ref h), (1, .ref b), (2, .int (nI (rowTw (l.take k)))), (3, .int (nI k))] [] w1 0 0 Q := by
  intro n
  induction n with
  | zero =>
    intro k w1 g hk hR9 hM hg ho
    have hR0 := hR9
    obtain ⟨hO, ⟨f, hA, hf⟩, hl, hv⟩ := hR9
    have hkl : k = l.length := by omega
    refine kx_iload_n d_R_hasCarTwice_4 rfl ?_
    refine kx_aload_n d_R_hasCarTwice_5 rfl (by first | rfl | exact kx_rf _) ?_
    refine kx_get _ d_R_hasCarTwice_6 f_R_15 (by assumption) (by rfl) ?_
    first | refine kx_icmp_ge_n 50 d_R_hasCarTwice_9 (by decide) (by omega) (by omega) ?_ ?_ | refine kx_icmp_ge 50 d_R_hasCarTwice_9 (by decide) ?_ ?_
    · intro h9
      refine kx_iconst (nI 0) d_R_hasCarTwice_50 (by decide) ?_
      refine kx_istore_n d_R_hasCarTwice_51 (by decide) ?_
      refine kx_loc (L1 := [(0, .ref h), (1, .ref b), (2, .int (nI (rowTw l))), (3, .int (nI 0))]) ⟨rfl, rfl, by rw [hkl, List.take_length]; rfl, rfl, trivial⟩ ?_
      refine l_R_hasCarTwice2 hR hm hm1 (rowTw_01 l) hQ l.length 0 w1 g rfl hR0 hM (fun i hi => ?_) ho
      rw [hg i hi, hkl, List.take_length, List.take_zero]
      by_cases c : i ∈ rowIds l
      · rw [if_pos c, if_pos ⟨c, fun q => by cases q⟩]
      · rw [if_neg c, if_neg (fun q => c q.1)]
    · intro h9
      exact absurd h9 (by omega)
  | succ n ih =>
    intro k w1 g hk hR9 hM hg ho
    have hR0 := hR9
    obtain ⟨hO, ⟨f, hA, hf⟩, hl, hv⟩ := hR9
    have hk1 : k < l.length := by omega
    have hb : l.getD k 0 < 512 := hv _ (row_get l hk1)
    have hid : l.getD k 0 / 2 < 256 := by omega
    have key : ∀ t, t = rowTw (l.take (k + 1)) → kx_R E Y_R_hasCarTwice z 38 [(4, .int (nI (l.getD k 0 / 2))), (0, .ref h), (1, .ref b), (2, .int (nI (rowTw (l.take k)))), (3, .int (nI k))] [.int (nI t)] w1 0 0 Q := by
      intro t ht
      subst ht
      refine kx_istore_n d_R_hasCarTwice_38 (by decide) ?_
      refine kx_aload_n d_R_hasCarTwice_39 rfl (by first | rfl | exact kx_rf _) ?_
      refine kx_iload d_R_hasCarTwice_40 rfl ?_
      refine kx_iconst (nI 1) d_R_hasCarTwice_42 (by decide) ?_
      refine kx_zast d_R_hasCarTwice_43 hM hid (by decide) (by decide) ?_
      refine kx_iinc _ d_R_hasCarTwice_44 rfl (by decide) (nI_1 _) ?_
      refine kx_goto 4 d_R_hasCarTwice_47 (by decide) ?_
      refine kx_loc (L1 := [(0, .ref h), (1, .ref b), (2, .int (nI (rowTw (l.take (k + 1))))), (3, .int (nI (k + 1)))]) ⟨rfl, rfl, rfl, rfl, trivial⟩ ?_
      refine ih (k + 1) _ _ (by omega) (hR0.off (kx_off.rf.set (P := fun n => n = m) rfl) (fun e => hm e.symm) (fun e => hm1 e.symm)) (kx_s1 hM) (fun i hi => ?_) (ho.set rfl)
      rw [row_take hk1]
      by_cases e : i = l.getD k 0 / 2
      · rw [e, pk_us, if_pos (List.mem_append_right _ (List.mem_singleton.mpr rfl))]
      · rw [pk_un e, hg i hi]
        by_cases c : i ∈ rowIds (l.take k)
        · rw [if_pos c, if_pos (List.mem_append_left _ c)]
        · rw [if_neg c, if_neg (fun q => (List.mem_append.mp q).elim c (fun q => e (List.mem_singleton.mp q)))]
    have ht01 := rowTw_01 (l.take k)
    refine kx_iload_n d_R_hasCarTwice_4 rfl ?_
    refine kx_aload_n d_R_hasCarTwice_5 rfl (by first | rfl | exact kx_rf _) ?_
    refine kx_get _ d_R_hasCarTwice_6 f_R_15 hO (by rfl) ?_
    first | refine kx_icmp_ge_n 50 d_R_hasCarTwice_9 (by decide) (by omega) (by omega) ?_ ?_ | refine kx_icmp_ge 50 d_R_hasCarTwice_9 (by decide) ?_ ?_
    · intro h9
      exact absurd h9 (by omega)
    · intro h9
      refine kx_aload_n d_R_hasCarTwice_12 rfl (by first | rfl | exact kx_rf _) ?_
      refine kx_get _ d_R_hasCarTwice_13 f_R_9 hO (by rfl) ?_
      refine kx_iload_n d_R_hasCarTwice_16 rfl ?_
      refine kx_iald d_R_hasCarTwice_17 hA (by omega) (by decide) ?_
      rw [hf k hk1]
      refine kx_iconst (nI 1) d_R_hasCarTwice_18 (by decide) ?_
      first | refine kx_ishr _ d_R_hasCarTwice_19 (kx_shr1 (by omega)) ?_ | refine kx_ishr _ d_R_hasCarTwice_19 rfl ?_
      refine kx_istore d_R_hasCarTwice_20 (by decide) ?_
      refine kx_iload_n d_R_hasCarTwice_22 rfl ?_
      refine kx_if_ne_n 33 d_R_hasCarTwice_23 (by decide) (by omega) ?_ ?_
      · intro h23
        refine kx_iconst (nI 1) d_R_hasCarTwice_33 (by decide) ?_
        refine kx_goto 38 d_R_hasCarTwice_34 (by decide) ?_
        refine kx_loc (L1 := [(4, .int (nI (l.getD k 0 / 2))), (0, .ref h), (1, .ref b), (2, .int (nI (rowTw (l.take k)))), (3, .int (nI k))]) ⟨rfl, rfl, rfl, rfl, rfl, trivial⟩ ?_
        refine key _ ?_
        rw [rowTw_step hk1]
        first
          | (rw [if_pos (Or.inl (by omega))]; done)
          | (rw [if_neg]; rintro (q | q); · omega
             · rw [if_pos q] at h30; cases h30)
          | (rw [if_pos (Or.inr (Decidable.byContradiction (fun q => h30 (by rw [if_neg q]))))])
      · intro h23
        refine kx_aload_n d_R_hasCarTwice_26 rfl (by first | rfl | exact kx_rf _) ?_
        refine kx_iload d_R_hasCarTwice_27 rfl ?_
        refine kx_zald d_R_hasCarTwice_29 hM hid (by decide) ?_
        rw [hg _ hid]
        refine kx_if_eq_n 37 d_R_hasCarTwice_30 (by decide) (by split <;> decide) ?_ ?_
        · intro h30
          refine kx_iconst (nI 0) d_R_hasCarTwice_37 (by decide) ?_
          refine kx_loc (L1 := [(4, .int (nI (l.getD k 0 / 2))), (0, .ref h), (1, .ref b), (2, .int (nI (rowTw (l.take k)))), (3, .int (nI k))]) ⟨rfl, rfl, rfl, rfl, rfl, trivial⟩ ?_
          refine key _ ?_
          rw [rowTw_step hk1]
          first
            | (rw [if_pos (Or.inl (by omega))]; done)
            | (rw [if_neg]; rintro (q | q); · omega
               · rw [if_pos q] at h30; cases h30)
            | (rw [if_pos (Or.inr (Decidable.byContradiction (fun q => h30 (by rw [if_neg q]))))])
        · intro h30
          refine kx_iconst (nI 1) d_R_hasCarTwice_33 (by decide) ?_
          refine kx_goto 38 d_R_hasCarTwice_34 (by decide) ?_
          refine kx_loc (L1 := [(4, .int (nI (l.getD k 0 / 2))), (0, .ref h), (1, .ref b), (2, .int (nI (rowTw (l.take k)))), (3, .int (nI k))]) ⟨rfl, rfl, rfl, rfl, rfl, trivial⟩ ?_
          refine key _ ?_
          rw [rowTw_step hk1]
          first
            | (rw [if_pos (Or.inl (by omega))]; done)
            | (rw [if_neg]; rintro (q | q); · omega
               · rw [if_pos q] at h30; cases h30)
            | (rw [if_pos (Or.inr (Decidable.byContradiction (fun q => h30 (by rw [if_neg q]))))])
theorem m_R_hasCarTwice {E : kx_E} {w : va_W} {x y h a : Nat} {l : List Nat} (hR : RowAt E w x y h a l) {m b : Nat} (hm : m ≠ x) (hm1 : m ≠ y) (hM : MarksAt E w m b) : kx_S E Y_R_hasCarTwice [.ref h, .ref b] w (fun o w1 => o = .inl (some (.int (nI (rowTw l)))) ∧ RowAt E w1 x y h a l ∧ MarksAt E w1 m b ∧ kx_off w w1 (fun n => n = m)) := by
  refine kx_go (by decide) rfl rfl (Nat.le_of_ble_eq_true rfl) (kx_cc rfl (kx_cc rfl kx_c0)) (fun z => ?_)
  obtain ⟨g, hM, hg⟩ := hM
  refine kx_iconst (nI 0) d_R_hasCarTwice_0 (by decide) ?_
  refine kx_istore_n d_R_hasCarTwice_1 (by decide) ?_
  refine kx_iconst (nI 0) d_R_hasCarTwice_2 (by decide) ?_
  refine kx_istore_n d_R_hasCarTwice_3 (by decide) ?_
  refine kx_loc (L1 := [(0, .ref h), (1, .ref b), (2, .int (nI (rowTw (l.take 0)))), (3, .int (nI 0))]) ⟨rfl, rfl, rfl, rfl, trivial⟩ ?_
  exact l_R_hasCarTwice1 hR hm hm1 (fun w1 h1 h2 h3 => ⟨rfl, h1, h2, h3⟩) l.length 0 w g rfl hR hM (fun i hi => by rw [hg i hi]; rfl) kx_off.rf
theorem d_R_init_0 : decode c_R_init 0 = .ok (.aload_n 0, 1) := by decide +kernel
theorem d_R_init_1 : decode c_R_init 1 = .ok (.invokespecial 3, 3) := by decide +kernel
theorem d_R_init_4 : decode c_R_init 4 = .ok (.aload_n 0, 1) := by decide +kernel
theorem d_R_init_5 : decode c_R_init 5 = .ok (.bipush 24, 2) := by decide +kernel
theorem d_R_init_7 : decode c_R_init 7 = .ok (.newarray .int, 2) := by decide +kernel
theorem d_R_init_9 : decode c_R_init 9 = .ok (.putfield 9, 3) := by decide +kernel
theorem d_R_init_12 : decode c_R_init 12 = .ok (.return_, 1) := by decide +kernel
set_option maxHeartbeats 2000000 in
theorem m_R_init {E : kx_E} {w : va_W} {x h : Nat} (hO : w[x]? = some (h, .inr (3, [.null, .int 0]))) : kx_S E Y_R_init [.ref h] w (fun o w1 => o = .inl none ∧ ∃ a, w1 = (w ++ [(a, kx_ai E 24 (fun _ => 0))]).set x (h, .inr (3, [.ref a, .int 0]))) := by
  refine kx_go (by decide) rfl rfl (Nat.le_of_ble_eq_true rfl) (kx_cc rfl kx_c0) (fun z => ?_)
  have hx : x < w.length := (List.getElem?_eq_some_iff.mp hO).1
  refine kx_aload_n d_R_init_0 rfl (by first | rfl | exact kx_rf _) ?_
  refine kx_obj d_R_init_1 o_R_3 o_im o_cd (by decide) ?_
  refine kx_aload_n d_R_init_4 rfl (by first | rfl | exact kx_rf _) ?_
  refine kx_bipush (nI 24) d_R_init_5 (by decide) ?_
  refine kx_newa (t := 0) (n := 24) (24, .inl (fun _ => 0)) d_R_init_7 ac_int rfl rfl (fun cA => rfl) (by decide) (by decide) (by decide) (by decide) (fun q => ?_)
  have hO1 : (w ++ [(q, kx_ai E 24 (fun _ => 0))])[x]? = some (h, .inr (3, [.null, .int 0])) := by rw [List.getElem?_append_left hx]; exact hO
  refine kx_putF d_R_init_9 f_R_9 (p_R_0 q) rfl rfl rfl hO1 (by decide) ?_
  refine kx_vret d_R_init_12 rfl (by decide) (by decide) ?_
  exact ⟨rfl, q, rfl⟩
