/-! Row: a list of items, at most 24 -/
def RowAt (E : kx_E) (w : va_W) (x y h a : Nat) (l : List Nat) : Prop := w[x]? = some (h, .inr (3, [.ref a, .int (nI l.length)])) ∧ (∃ f, w[y]? = some (a, kx_ai E 24 f) ∧ ∀ k, k < l.length → f k = nI (l.getD k 0)) ∧ l.length ≤ 24 ∧ ∀ v ∈ l, v < 512
abbrev RowP (x y : Nat) : Nat → Prop := fun n => n = x ∨ n = y
def RowQ (E : kx_E) (w : va_W) (x y h a : Nat) (l : List Nat) : kx_O → va_W → Prop := fun o w1 => o = .inl none ∧ RowAt E w1 x y h a l ∧ kx_off w w1 (RowP x y)
def kx_Qi (w : va_W) (v : Int32) : kx_O → va_W → Prop := fun o w1 => o = .inl (some (.int v)) ∧ w1 = w
theorem RowAt.ne {E : kx_E} {w : va_W} {x y h a : Nat} {l : List Nat} (hR : RowAt E w x y h a l) : x ≠ y := by
  obtain ⟨h1, ⟨f, h2, -⟩, -⟩ := hR
  exact kx_ne h1 h2 (fun e => by cases e)
theorem RowAt.off {E : kx_E} {w w1 : va_W} {x y h a : Nat} {l : List Nat} {P : Nat → Prop} (hR : RowAt E w x y h a l) (ho : kx_off w w1 P) (hx : ¬ P x) (hy : ¬ P y) : RowAt E w1 x y h a l := by
  obtain ⟨h1, ⟨f, h2, h3⟩, h4⟩ := hR
  exact ⟨ho.at hx h1, ⟨f, ho.at hy h2, h3⟩, h4⟩
theorem row_get (l : List Nat) {k : Nat} (h : k < l.length) : l.getD k 0 ∈ l := by
  rw [List.getD_eq_getElem?_getD, List.getElem?_eq_getElem h]
  exact List.getElem_mem h

theorem d_R_clear_0 : decode c_R_clear 0 = .ok (.aload_n 0, 1) := by decide +kernel
theorem d_R_clear_1 : decode c_R_clear 1 = .ok (.iconst 0, 1) := by decide +kernel
theorem d_R_clear_2 : decode c_R_clear 2 = .ok (.putfield 15, 3) := by decide +kernel
theorem d_R_clear_5 : decode c_R_clear 5 = .ok (.return_, 1) := by decide +kernel
set_option maxHeartbeats 1000000 in
theorem m_R_clear {E : kx_E} {w : va_W} {x y h a : Nat} {l : List Nat} (hR : RowAt E w x y h a l) : kx_S E Y_R_clear [.ref h] w (RowQ E w x y h a []) := by
  refine kx_go (by decide) rfl rfl (Nat.le_of_ble_eq_true rfl) (kx_cc rfl kx_c0) (fun z => ?_)
  have hne := hR.ne
  obtain ⟨hO, ⟨f, hA, hf⟩, hl, hv⟩ := hR
  refine kx_aload_n d_R_clear_0 rfl (by first | rfl | exact kx_rf _) ?_
  refine kx_iconst (nI 0) d_R_clear_1 (by decide) ?_
  refine kx_put d_R_clear_2 f_R_15 (p_R_1 _) hO (by simp) ?_
  refine kx_vret d_R_clear_5 rfl (by decide) (by decide) ?_
  exact ⟨rfl, ⟨kx_s1 hO, ⟨f, kx_s2 (Ne.symm hne) hA, fun k hk => by cases hk⟩, by simp, fun v h => by cases h⟩, kx_off.rf.set (Or.inl rfl)⟩
theorem d_R_append_0 : decode c_R_append 0 = .ok (.aload_n 0, 1) := by decide +kernel
theorem d_R_append_1 : decode c_R_append 1 = .ok (.getfield 15, 3) := by decide +kernel
theorem d_R_append_4 : decode c_R_append 4 = .ok (.aload_n 0, 1) := by decide +kernel
theorem d_R_append_5 : decode c_R_append 5 = .ok (.getfield 9, 3) := by decide +kernel
theorem d_R_append_8 : decode c_R_append 8 = .ok (.arraylength, 1) := by decide +kernel
theorem d_R_append_9 : decode c_R_append 9 = .ok (.if_icmp .ge 23, 3) := by decide +kernel
theorem d_R_append_12 : decode c_R_append 12 = .ok (.aload_n 0, 1) := by decide +kernel
theorem d_R_append_13 : decode c_R_append 13 = .ok (.getfield 9, 3) := by decide +kernel
theorem d_R_append_16 : decode c_R_append 16 = .ok (.aload_n 0, 1) := by decide +kernel
theorem d_R_append_17 : decode c_R_append 17 = .ok (.getfield 15, 3) := by decide +kernel
theorem d_R_append_20 : decode c_R_append 20 = .ok (.iload_n 1, 1) := by decide +kernel
theorem d_R_append_21 : decode c_R_append 21 = .ok (.iastore, 1) := by decide +kernel
theorem d_R_append_22 : decode c_R_append 22 = .ok (.aload_n 0, 1) := by decide +kernel
theorem d_R_append_23 : decode c_R_append 23 = .ok (.dup, 1) := by decide +kernel
theorem d_R_append_24 : decode c_R_append 24 = .ok (.getfield 15, 3) := by decide +kernel
theorem d_R_append_27 : decode c_R_append 27 = .ok (.iconst 1, 1) := by decide +kernel
theorem d_R_append_28 : decode c_R_append 28 = .ok (.iadd, 1) := by decide +kernel
theorem d_R_append_29 : decode c_R_append 29 = .ok (.putfield 15, 3) := by decide +kernel
theorem d_R_append_32 : decode c_R_append 32 = .ok (.return_, 1) := by decide +kernel
set_option maxHeartbeats 1000000 in
theorem m_R_append {E : kx_E} {w : va_W} {x y h a : Nat} {l : List Nat} (hR : RowAt E w x y h a l) {v : Nat} (hv9 : v < 512) : kx_S E Y_R_append [.ref h, .int (nI v)] w (RowQ E w x y h a (if l.length < 24 then l ++ [v] else l)) := by
  refine kx_go (by decide) rfl rfl (Nat.le_of_ble_eq_true rfl) (kx_cc rfl (kx_cc rfl kx_c0)) (fun z => ?_)
  have hne := hR.ne
  have hR0 := hR
  obtain ⟨hO, ⟨f, hA, hf⟩, hl, hv⟩ := hR
  refine kx_aload_n d_R_append_0 rfl (by first | rfl | exact kx_rf _) ?_
  refine kx_get _ d_R_append_1 f_R_15 (by assumption) (by rfl) ?_
  refine kx_aload_n d_R_append_4 rfl (by first | rfl | exact kx_rf _) ?_
  refine kx_get _ d_R_append_5 f_R_9 (by assumption) (by rfl) ?_
  refine kx_alen (t := 0) d_R_append_8 (by assumption) rfl ?_
  first | refine kx_icmp_ge_n 32 d_R_append_9 (by decide) (by omega) (by omega) ?_ ?_ | refine kx_icmp_ge 32 d_R_append_9 (by decide) ?_ ?_
  · intro h9
    rw [if_neg (by omega)]
    exact kx_vret d_R_append_32 rfl (by decide) (by decide) ⟨rfl, hR0, kx_off.rf⟩
  · intro h9
    have h9 : l.length < 24 := h9
    rw [if_pos h9]
    refine kx_aload_n d_R_append_12 rfl (by first | rfl | exact kx_rf _) ?_
    refine kx_get _ d_R_append_13 f_R_9 (by assumption) (by rfl) ?_
    refine kx_aload_n d_R_append_16 rfl (by first | rfl | exact kx_rf _) ?_
    refine kx_get _ d_R_append_17 f_R_15 (by assumption) (by rfl) ?_
    refine kx_iload_n d_R_append_20 rfl ?_
    refine kx_iast d_R_append_21 hA h9 (by decide) ?_
    have hO1 := kx_s2 (c1 := (a, kx_ai E 24 (upd f l.length (nI v)))) hne hO
    have hA1 := kx_s1 (c1 := (a, kx_ai E 24 (upd f l.length (nI v)))) hA
    refine kx_aload_n d_R_append_22 rfl (by first | rfl | exact kx_rf _) ?_
    refine kx_dup d_R_append_23 (by first | rfl | exact kx_rfc _) ?_
    refine kx_get _ d_R_append_24 f_R_15 hO1 (by rfl) ?_
    refine kx_iconst (nI 1) d_R_append_27 (by decide) ?_
    first | refine kx_iadd _ d_R_append_28 (nI_add _ _) ?_ | refine kx_iadd _ d_R_append_28 rfl ?_
    refine kx_put d_R_append_29 f_R_15 (p_R_1 _) hO1 (by simp) ?_
    refine kx_vret d_R_append_32 rfl (by decide) (by decide) ⟨rfl, ⟨?_, ⟨_, kx_s2 (Ne.symm hne) hA1, ?_⟩, ?_, ?_⟩, (kx_off.rf.set (Or.inr rfl)).set (Or.inl rfl)⟩
    · rw [kx_s1 hO1, List.length_append]; rfl
    · intro k hk
      rw [List.length_append] at hk
      by_cases e : k = l.length
      · subst e; simp [upd]
      · have h1 : k < l.length := by simp at hk; omega
        rw [pk_un e, hf k h1]; simp [List.getElem?_append_left h1]
    · rw [List.length_append]; simp; omega
    · intro u hu
      rcases List.mem_append.mp hu with hu | hu
      · exact hv u hu
      · rw [List.mem_singleton.mp hu]; exact hv9
theorem d_R_numberOf_0 : decode c_R_numberOf 0 = .ok (.iconst 0, 1) := by decide +kernel
theorem d_R_numberOf_1 : decode c_R_numberOf 1 = .ok (.istore_n 2, 1) := by decide +kernel
theorem d_R_numberOf_2 : decode c_R_numberOf 2 = .ok (.iload_n 2, 1) := by decide +kernel
theorem d_R_numberOf_3 : decode c_R_numberOf 3 = .ok (.aload_n 0, 1) := by decide +kernel
theorem d_R_numberOf_4 : decode c_R_numberOf 4 = .ok (.getfield 15, 3) := by decide +kernel
theorem d_R_numberOf_7 : decode c_R_numberOf 7 = .ok (.if_icmp .ge 25, 3) := by decide +kernel
theorem d_R_numberOf_10 : decode c_R_numberOf 10 = .ok (.aload_n 0, 1) := by decide +kernel
theorem d_R_numberOf_11 : decode c_R_numberOf 11 = .ok (.getfield 9, 3) := by decide +kernel
theorem d_R_numberOf_14 : decode c_R_numberOf 14 = .ok (.iload_n 2, 1) := by decide +kernel
theorem d_R_numberOf_15 : decode c_R_numberOf 15 = .ok (.iaload, 1) := by decide +kernel
theorem d_R_numberOf_16 : decode c_R_numberOf 16 = .ok (.iconst 1, 1) := by decide +kernel
theorem d_R_numberOf_17 : decode c_R_numberOf 17 = .ok (.ishr, 1) := by decide +kernel
theorem d_R_numberOf_18 : decode c_R_numberOf 18 = .ok (.iload_n 1, 1) := by decide +kernel
theorem d_R_numberOf_19 : decode c_R_numberOf 19 = .ok (.if_icmp .ne 7, 3) := by decide +kernel
theorem d_R_numberOf_22 : decode c_R_numberOf 22 = .ok (.iload_n 2, 1) := by decide +kernel
theorem d_R_numberOf_23 : decode c_R_numberOf 23 = .ok (.iconst 1, 1) := by decide +kernel
theorem d_R_numberOf_24 : decode c_R_numberOf 24 = .ok (.iadd, 1) := by decide +kernel
theorem d_R_numberOf_25 : decode c_R_numberOf 25 = .ok (.ireturn, 1) := by decide +kernel
theorem d_R_numberOf_26 : decode c_R_numberOf 26 = .ok (.iinc 2 1, 3) := by decide +kernel
theorem d_R_numberOf_29 : decode c_R_numberOf 29 = .ok (.goto (-27), 3) := by decide +kernel
theorem d_R_numberOf_32 : decode c_R_numberOf 32 = .ok (.iconst 0, 1) := by decide +kernel
theorem d_R_numberOf_33 : decode c_R_numberOf 33 = .ok (.ireturn, 1) := by decide +kernel
/-- the place, from 1, of the first item with this id; 0 if there is none -/
def rowNo (id : Nat) : List Nat → Nat → Nat
  | [], _ => 0
  | v :: t, k => if v / 2 = id then k + 1 else rowNo id t (k + 1)
theorem rowNo_drop (id : Nat) (l : List Nat) (k : Nat) (h : k < l.length) : rowNo id (l.drop k) k = if l.getD k 0 / 2 = id then k + 1 else rowNo id (l.drop (k + 1)) (k + 1) := by
  have e : l.drop k = l.getD k 0 :: l.drop (k + 1) := by
    rw [List.drop_eq_getElem_cons h, List.getD_eq_getElem?_getD, List.getElem?_eq_getElem h]; rfl
  rw [e]; rfl
set_option maxHeartbeats 1000000 in
theorem l_R_numberOf {E : kx_E} {w : va_W} {x y h a : Nat} {l : List Nat} (hR : RowAt E w x y h a l) {z : kx_Z} {Q : kx_O → va_W → Prop} {id : Nat} (hid : id < 2 ^ 31) (hQ : Q (.inl (some (.int (nI (rowNo id l 0))))) w) : ∀ (n k : Nat), n + k = l.length → rowNo id l 0 = rowNo id (l.drop k) k → kx_R E Y_R_numberOf z 2 [(0, .ref h), (1, .int (nI id)), (2, .int (nI k))] [] w 0 0 Q := by
  obtain ⟨hO, ⟨f, hA, hf⟩, hl, hv⟩ := hR
  intro n
  induction n with
  | zero =>
    intro k hk hr
    have hkl : k = l.length := by omega
    rw [hkl, List.drop_length] at hr
    refine kx_iload_n d_R_numberOf_2 rfl ?_
    refine kx_aload_n d_R_numberOf_3 rfl (by first | rfl | exact kx_rf _) ?_
    refine kx_get _ d_R_numberOf_4 f_R_15 (by assumption) (by rfl) ?_
    first | refine kx_icmp_ge_n 32 d_R_numberOf_7 (by decide) (by omega) (by omega) ?_ ?_ | refine kx_icmp_ge 32 d_R_numberOf_7 (by decide) ?_ ?_
    · intro h7
      refine kx_iconst (nI 0) d_R_numberOf_32 (by decide) ?_
      refine kx_iret d_R_numberOf_33 rfl (by decide) (by decide) ?_
      rw [hr] at hQ
      exact hQ
    · intro h7
      exact absurd h7 (by omega)
  | succ n ih =>
    intro k hk hr
    have hk1 : k < l.length := by omega
    have hb : l.getD k 0 < 512 := hv _ (row_get l hk1)
    rw [rowNo_drop id l k hk1] at hr
    refine kx_iload_n d_R_numberOf_2 rfl ?_
    refine kx_aload_n d_R_numberOf_3 rfl (by first | rfl | exact kx_rf _) ?_
    refine kx_get _ d_R_numberOf_4 f_R_15 (by assumption) (by rfl) ?_
    first | refine kx_icmp_ge_n 32 d_R_numberOf_7 (by decide) (by omega) (by omega) ?_ ?_ | refine kx_icmp_ge 32 d_R_numberOf_7 (by decide) ?_ ?_
    · intro h7
      exact absurd h7 (by omega)
    · intro h7
      refine kx_aload_n d_R_numberOf_10 rfl (by first | rfl | exact kx_rf _) ?_
      refine kx_get _ d_R_numberOf_11 f_R_9 (by assumption) (by rfl) ?_
      refine kx_iload_n d_R_numberOf_14 rfl ?_
      refine kx_iald d_R_numberOf_15 (by assumption) (by omega) (by decide) ?_
      rw [hf k hk1]
      refine kx_iconst (nI 1) d_R_numberOf_16 (by decide) ?_
      first | refine kx_ishr _ d_R_numberOf_17 (kx_shr1 (by omega)) ?_ | refine kx_ishr _ d_R_numberOf_17 rfl ?_
      refine kx_iload_n d_R_numberOf_18 rfl ?_
      first | refine kx_icmp_ne_n 26 d_R_numberOf_19 (by decide) (by omega) (by omega) ?_ ?_ | refine kx_icmp_ne 26 d_R_numberOf_19 (by decide) ?_ ?_
      · intro h19
        refine kx_iinc _ d_R_numberOf_26 rfl (by decide) (nI_1 _) ?_
        refine kx_goto 2 d_R_numberOf_29 (by decide) ?_
        refine kx_loc (L1 := [(0, .ref h), (1, .int (nI id)), (2, .int (nI (k + 1)))]) ⟨rfl, rfl, rfl, trivial⟩ ?_
        rw [if_neg h19] at hr
        exact ih (k + 1) (by omega) hr
      · intro h19
        refine kx_iload_n d_R_numberOf_22 rfl ?_
        refine kx_iconst (nI 1) d_R_numberOf_23 (by decide) ?_
        first | refine kx_iadd _ d_R_numberOf_24 (nI_add _ _) ?_ | refine kx_iadd _ d_R_numberOf_24 rfl ?_
        rw [if_pos h19] at hr
        rw [hr] at hQ
        exact kx_iret d_R_numberOf_25 rfl (by decide) (by decide) hQ
theorem m_R_numberOf {E : kx_E} {w : va_W} {x y h a : Nat} {l : List Nat} (hR : RowAt E w x y h a l) {id : Nat} (hid : id < 2 ^ 31) : kx_S E Y_R_numberOf [.ref h, .int (nI id)] w (kx_Qi w (nI (rowNo id l 0))) := by
  refine kx_go (by decide) rfl rfl (Nat.le_of_ble_eq_true rfl) (kx_cc rfl (kx_cc rfl kx_c0)) (fun z => ?_)
  refine kx_iconst (nI 0) d_R_numberOf_0 (by decide) ?_
  refine kx_istore_n d_R_numberOf_1 (by decide) ?_
  refine kx_loc (L1 := [(0, .ref h), (1, .int (nI id)), (2, .int (nI 0))]) ⟨rfl, rfl, rfl, trivial⟩ ?_
  exact l_R_numberOf hR hid ⟨rfl, rfl⟩ l.length 0 rfl rfl
