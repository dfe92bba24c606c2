/-! The reference: turn, run, together -/
def LnR (A : Nat → Nat → Int32) (l : List Nat) : Prop := ∀ k, k < l.length → A 25 k = nI (l.getD k 0)
def lnO (A A1 : Nat → Nat → Int32) : Prop := ∀ j, j ≠ 24 → j ≠ 25 → A1 j = A j
theorem lnO.rf {A : Nat → Nat → Int32} : lnO A A := fun _ _ _ => rfl
theorem lnO.tr {A A1 A2 : Nat → Nat → Int32} (h : lnO A A1) (g : lnO A1 A2) : lnO A A2 := fun j h1 h2 => (g j h1 h2).trans (h j h1 h2)
theorem lnO.up {A A1 : Nat → Nat → Int32} (h : lnO A A1) {f : Nat → Int32} : lnO A (up1 A1 25 f) := fun j h1 h2 => by rw [up1_n h2]; exact h j h1 h2
theorem lnO.up4 {A A1 : Nat → Nat → Int32} (h : lnO A A1) {f : Nat → Int32} : lnO A (up1 A1 24 f) := fun j h1 h2 => by rw [up1_n h1]; exact h j h1 h2
theorem ModR.ln {n : Nat} {X : Fx} {D : Dy} {A A1 : Nat → Nat → Int32} (h : ModR n X D A) (e : lnO A A1) : ModR n X D A1 := h.cg (fun j hj => e j (by omega) (by omega))
theorem OldR.ln {n : Nat} {D : Dy} {A A1 : Nat → Nat → Int32} (h : OldR n D A) (e : lnO A A1) : OldR n D A1 := h.cg (fun j h1 hj => e j (by omega) (by omega))
theorem LnR.snoc {A : Nat → Nat → Int32} {l : List Nat} (h : LnR A l) (x : Nat) : LnR (up1 A 25 (upd (A 25) l.length (nI x))) (l ++ [x]) := by
  intro k hk
  rw [up1_s]
  rw [List.length_append, List.length_singleton] at hk
  by_cases e : k = l.length
  · subst e
    rw [upd_s, List.getD_eq_getElem?_getD, List.getElem?_append_right (Nat.le_refl _), Nat.sub_self]
    rfl
  · rw [upd_n e, h k (by omega), List.getD_eq_getElem?_getD, List.getD_eq_getElem?_getD, List.getElem?_append_left (by omega)]
theorem d_M_turn_0 : decode c_M_turn 0 = .ok (.iconst 0, 1) := by decide +kernel
theorem d_M_turn_1 : decode c_M_turn 1 = .ok (.istore_n 2, 1) := by decide +kernel
theorem d_M_turn_2 : decode c_M_turn 2 = .ok (.iload_n 2, 1) := by decide +kernel
theorem d_M_turn_3 : decode c_M_turn 3 = .ok (.iload_n 1, 1) := by decide +kernel
theorem d_M_turn_4 : decode c_M_turn 4 = .ok (.if_icmp .ge 27, 3) := by decide +kernel
theorem d_M_turn_7 : decode c_M_turn 7 = .ok (.aload_n 0, 1) := by decide +kernel
theorem d_M_turn_8 : decode c_M_turn 8 = .ok (.getfield 83, 3) := by decide +kernel
theorem d_M_turn_11 : decode c_M_turn 11 = .ok (.iload_n 2, 1) := by decide +kernel
theorem d_M_turn_12 : decode c_M_turn 12 = .ok (.aload_n 0, 1) := by decide +kernel
theorem d_M_turn_13 : decode c_M_turn 13 = .ok (.getfield 86, 3) := by decide +kernel
theorem d_M_turn_16 : decode c_M_turn 16 = .ok (.iload_n 1, 1) := by decide +kernel
theorem d_M_turn_17 : decode c_M_turn 17 = .ok (.iconst 1, 1) := by decide +kernel
theorem d_M_turn_18 : decode c_M_turn 18 = .ok (.isub, 1) := by decide +kernel
theorem d_M_turn_19 : decode c_M_turn 19 = .ok (.iload_n 2, 1) := by decide +kernel
theorem d_M_turn_20 : decode c_M_turn 20 = .ok (.isub, 1) := by decide +kernel
theorem d_M_turn_21 : decode c_M_turn 21 = .ok (.iaload, 1) := by decide +kernel
theorem d_M_turn_22 : decode c_M_turn 22 = .ok (.iconst 1, 1) := by decide +kernel
theorem d_M_turn_23 : decode c_M_turn 23 = .ok (.ixor, 1) := by decide +kernel
theorem d_M_turn_24 : decode c_M_turn 24 = .ok (.iastore, 1) := by decide +kernel
theorem d_M_turn_25 : decode c_M_turn 25 = .ok (.iinc 2 1, 3) := by decide +kernel
theorem d_M_turn_28 : decode c_M_turn 28 = .ok (.goto (-26), 3) := by decide +kernel
theorem d_M_turn_31 : decode c_M_turn 31 = .ok (.iconst 0, 1) := by decide +kernel
theorem d_M_turn_32 : decode c_M_turn 32 = .ok (.istore_n 2, 1) := by decide +kernel
theorem d_M_turn_33 : decode c_M_turn 33 = .ok (.iload_n 2, 1) := by decide +kernel
theorem d_M_turn_34 : decode c_M_turn 34 = .ok (.iload_n 1, 1) := by decide +kernel
theorem d_M_turn_35 : decode c_M_turn 35 = .ok (.if_icmp .ge 21, 3) := by decide +kernel
theorem d_M_turn_38 : decode c_M_turn 38 = .ok (.aload_n 0, 1) := by decide +kernel
theorem d_M_turn_39 : decode c_M_turn 39 = .ok (.getfield 86, 3) := by decide +kernel
theorem d_M_turn_42 : decode c_M_turn 42 = .ok (.iload_n 2, 1) := by decide +kernel
theorem d_M_turn_43 : decode c_M_turn 43 = .ok (.aload_n 0, 1) := by decide +kernel
theorem d_M_turn_44 : decode c_M_turn 44 = .ok (.getfield 83, 3) := by decide +kernel
theorem d_M_turn_47 : decode c_M_turn 47 = .ok (.iload_n 2, 1) := by decide +kernel
theorem d_M_turn_48 : decode c_M_turn 48 = .ok (.iaload, 1) := by decide +kernel
theorem d_M_turn_49 : decode c_M_turn 49 = .ok (.iastore, 1) := by decide +kernel
theorem d_M_turn_50 : decode c_M_turn 50 = .ok (.iinc 2 1, 3) := by decide +kernel
theorem d_M_turn_53 : decode c_M_turn 53 = .ok (.goto (-20), 3) := by decide +kernel
theorem d_M_turn_56 : decode c_M_turn 56 = .ok (.return_, 1) := by decide +kernel
set_option maxRecDepth 20000 in
set_option maxHeartbeats 4000000 in
theorem l_M_turn1 {E : kx_E} {w0 : va_W} {ma : Nat → Nat} {F : Nat → Int32} {A0 : Nat → Nat → Int32} {l : List Nat} (h24 : l.length ≤ 24) (hL : LnR A0 l) {z : kx_Z} {Q : kx_O → va_W → Prop}
    (hQ : ∀ w A, Mdl E w ma F A → kx_off w0 w mdlN → (∀ j, j ≠ 24 → A j = A0 j) → (∀ i, i < l.length → A 24 i = nI ((rowTurn l).getD i 0)) → kx_R E Y_M_turn z 31 [(0, .ref (ma 0)), (1, .int (nI l.length))] [] w 0 0 Q) :
    ∀ (m k : Nat) (w : va_W) (A : Nat → Nat → Int32), m + k = l.length → Mdl E w ma F A → kx_off w0 w mdlN → (∀ j, j ≠ 24 → A j = A0 j) → (∀ i, i < k → A 24 i = nI ((rowTurn l).getD i 0)) → kx_R E Y_M_turn z 2 [(0, .ref (ma 0)), (1, .int (nI l.length)), (2, .int (nI k))] [] w 0 0 Q := by
  intro m
  induction m with
  | zero =>
    intro k w A hk hM hO hA hr
    have hk : k = l.length := by omega
    subst hk
    have hQ9 := hQ w A hM hO hA hr
    clear hr
    refine kx_iload_n d_M_turn_2 rfl ?_
    refine kx_iload_n d_M_turn_3 rfl ?_
    first | refine kx_icmp_ge_n 31 d_M_turn_4 (by decide) (by omega) (by omega) ?_ ?_ | refine kx_icmp_ge 31 d_M_turn_4 (by decide) ?_ ?_
    · intro h4
      exact kx_loc (L1 := [(0, .ref (ma 0)), (1, .int (nI l.length))]) ⟨rfl, rfl, trivial⟩ hQ9
    · intro h4
      exact absurd h4 (by omega)
  | succ m ih =>
    intro k w A hk hM hO hA hr
    have hkl : k < l.length := by omega
    have h25 := hA 25 (by decide)
    have hg := rowTurn_get l hkl
    have hv : A 25 (l.length - 1 - k) = nI (l.getD (l.length - 1 - k) 0) := by rw [h25]; exact hL _ (by omega)
    have g1 : ∀ i, i < k + 1 → up1 A 24 (upd (A 24) k (nI (l.getD (l.length - 1 - k) 0 ^^^ 1))) 24 i = nI ((rowTurn l).getD i 0) := fun i hi => by
      rw [up1_s]
      by_cases e : i = k
      · subst e; rw [upd_s, hg]
      · rw [upd_n e]; exact hr i (by omega)
    have g2 : ∀ f, ∀ j, j ≠ 24 → up1 A 24 f j = A0 j := fun f j hj => by rw [up1_n hj]; exact hA j hj
    clear hr
    refine kx_iload_n d_M_turn_2 rfl ?_
    refine kx_iload_n d_M_turn_3 rfl ?_
    first | refine kx_icmp_ge_n 31 d_M_turn_4 (by decide) (by omega) (by omega) ?_ ?_ | refine kx_icmp_ge 31 d_M_turn_4 (by decide) ?_ ?_
    · intro h4
      exact absurd h4 (by omega)
    · intro h4
      refine kx_aload_n d_M_turn_7 rfl (by first | rfl | exact kx_rf _) ?_
      refine kx_get _ d_M_turn_8 f_M_83 hM.1 (by rfl) ?_
      refine kx_iload_n d_M_turn_11 rfl ?_
      refine kx_aload_n d_M_turn_12 rfl (by first | rfl | exact kx_rf _) ?_
      refine kx_get _ d_M_turn_13 f_M_86 hM.1 (by rfl) ?_
      refine kx_iload_n d_M_turn_16 rfl ?_
      refine kx_iconst (nI 1) d_M_turn_17 (by decide) ?_
      refine kx_isub _ d_M_turn_18 (pk_sub (by omega)) ?_
      refine kx_iload_n d_M_turn_19 rfl ?_
      refine kx_isub _ d_M_turn_20 (pk_sub (by omega)) ?_
      refine kx_iald d_M_turn_21 hM.a25 (by omega) (by decide) ?_
      rw [hv]
      refine kx_iconst (nI 1) d_M_turn_22 (by decide) ?_
      refine kx_ixor _ d_M_turn_23 (kx_xor _ _) ?_
      refine mA_put (j := 24) d_M_turn_24 hM hO (by decide) (len := 64) rfl (by decide) (by omega) (fun w hM hO => ?_)
      refine kx_iinc _ d_M_turn_25 rfl (by decide) (nI_1 _) ?_
      refine kx_goto 2 d_M_turn_28 (by decide) ?_
      refine kx_loc (L1 := [(0, .ref (ma 0)), (1, .int (nI l.length)), (2, .int (nI (k + 1)))]) ⟨rfl, rfl, rfl, trivial⟩ ?_
      exact ih (k + 1) w _ (by omega) hM hO (g2 _) g1
set_option maxRecDepth 20000 in
set_option maxHeartbeats 4000000 in
theorem l_M_turn2 {E : kx_E} {w0 : va_W} {ma : Nat → Nat} {F : Nat → Int32} {A0 : Nat → Nat → Int32} {l t : List Nat} (h24 : l.length ≤ 24) (htl : t.length = l.length) (hL : ∀ i, i < l.length → A0 24 i = nI (t.getD i 0)) {z : kx_Z} {Q : kx_O → va_W → Prop}
    (hQ : ∀ w A, Mdl E w ma F A → kx_off w0 w mdlN → (∀ j, j ≠ 25 → A j = A0 j) → LnR A t → Q (.inl none) w) :
    ∀ (m k : Nat) (w : va_W) (A : Nat → Nat → Int32), m + k = l.length → Mdl E w ma F A → kx_off w0 w mdlN → (∀ j, j ≠ 25 → A j = A0 j) → (∀ i, i < k → A 25 i = nI (t.getD i 0)) → kx_R E Y_M_turn z 33 [(0, .ref (ma 0)), (1, .int (nI l.length)), (2, .int (nI k))] [] w 0 0 Q := by
  intro m
  induction m with
  | zero =>
    intro k w A hk hM hO hA hr
    have hk : k = l.length := by omega
    subst hk
    have hQ9 := hQ w A hM hO hA (fun i hi => hr i (by omega))
    clear hr
    refine kx_iload_n d_M_turn_33 rfl ?_
    refine kx_iload_n d_M_turn_34 rfl ?_
    first | refine kx_icmp_ge_n 56 d_M_turn_35 (by decide) (by omega) (by omega) ?_ ?_ | refine kx_icmp_ge 56 d_M_turn_35 (by decide) ?_ ?_
    · intro h35
      refine kx_vret d_M_turn_56 rfl (by decide) (by decide) ?_
      exact hQ9
    · intro h35
      exact absurd h35 (by omega)
  | succ m ih =>
    intro k w A hk hM hO hA hr
    have hkl : k < l.length := by omega
    have hv : A 24 k = nI (t.getD k 0) := by rw [hA 24 (by decide)]; exact hL k hkl
    have g1 : ∀ i, i < k + 1 → up1 A 25 (upd (A 25) k (nI (t.getD k 0))) 25 i = nI (t.getD i 0) := fun i hi => by
      rw [up1_s]
      by_cases e : i = k
      · subst e; rw [upd_s]
      · rw [upd_n e]; exact hr i (by omega)
    have g2 : ∀ f, ∀ j, j ≠ 25 → up1 A 25 f j = A0 j := fun f j hj => by rw [up1_n hj]; exact hA j hj
    clear hr
    refine kx_iload_n d_M_turn_33 rfl ?_
    refine kx_iload_n d_M_turn_34 rfl ?_
    first | refine kx_icmp_ge_n 56 d_M_turn_35 (by decide) (by omega) (by omega) ?_ ?_ | refine kx_icmp_ge 56 d_M_turn_35 (by decide) ?_ ?_
    · intro h35
      exact absurd h35 (by omega)
    · intro h35
      refine kx_aload_n d_M_turn_38 rfl (by first | rfl | exact kx_rf _) ?_
      refine kx_get _ d_M_turn_39 f_M_86 hM.1 (by rfl) ?_
      refine kx_iload_n d_M_turn_42 rfl ?_
      refine kx_aload_n d_M_turn_43 rfl (by first | rfl | exact kx_rf _) ?_
      refine kx_get _ d_M_turn_44 f_M_83 hM.1 (by rfl) ?_
      refine kx_iload_n d_M_turn_47 rfl ?_
      refine kx_iald d_M_turn_48 hM.a24 (by omega) (by decide) ?_
      rw [hv]
      refine mA_put (j := 25) d_M_turn_49 hM hO (by decide) (len := 24) rfl (by decide) (by omega) (fun w hM hO => ?_)
      refine kx_iinc _ d_M_turn_50 rfl (by decide) (nI_1 _) ?_
      refine kx_goto 33 d_M_turn_53 (by decide) ?_
      refine kx_loc (L1 := [(0, .ref (ma 0)), (1, .int (nI l.length)), (2, .int (nI (k + 1)))]) ⟨rfl, rfl, rfl, trivial⟩ ?_
      exact ih (k + 1) w _ (by omega) hM hO (g2 _) g1
set_option maxRecDepth 20000 in
set_option maxHeartbeats 4000000 in
theorem m_M_turn {E : kx_E} {w : va_W} {ma : Nat → Nat} {F : Nat → Int32} {A : Nat → Nat → Int32} (hM : Mdl E w ma F A) {l : List Nat} (h24 : l.length ≤ 24) (hL : LnR A l) : kx_S E Y_M_turn [.ref (ma 0), .int (nI l.length)] w (MP E w ma F (fun A1 => lnO A A1 ∧ LnR A1 (rowTurn l)) none) := by
  refine kx_go (by decide) rfl rfl (Nat.le_of_ble_eq_true rfl) (kx_cc rfl (kx_cc rfl kx_c0)) (fun z => ?_)
  have hO : kx_off w w mdlN := kx_off.rf
  refine kx_iconst (nI 0) d_M_turn_0 (by decide) ?_
  refine kx_istore_n d_M_turn_1 (by decide) ?_
  refine kx_loc (L1 := [(0, .ref (ma 0)), (1, .int (nI l.length)), (2, .int (nI 0))]) ⟨rfl, rfl, rfl, trivial⟩ ?_
  refine l_M_turn1 h24 hL (fun w A1 hM hO hA1 hr => ?_) l.length 0 w A rfl hM hO (fun _ _ => rfl) (fun i hi => absurd hi (Nat.not_lt_zero _))
  refine kx_iconst (nI 0) d_M_turn_31 (by decide) ?_
  refine kx_istore_n d_M_turn_32 (by decide) ?_
  refine kx_loc (L1 := [(0, .ref (ma 0)), (1, .int (nI l.length)), (2, .int (nI 0))]) ⟨rfl, rfl, rfl, trivial⟩ ?_
  exact l_M_turn2 h24 (rowTurn_len l) hr (fun w A2 hM hO hA2 hr2 => ⟨rfl, A2, hM, ⟨fun j h1 h2 => (hA2 j h2).trans (hA1 j h1), hr2⟩, hO⟩) l.length 0 w A1 rfl hM hO (fun _ _ => rfl) (fun i hi => absurd hi (Nat.not_lt_zero _))
def outM (lk : Nat → Option Nat) : Nat → Nat → Nat
  | 0, p => p
  | k + 1, p => match lk p with
    | none => p
    | some q => outM lk k (q ^^^ 1)
def runM (lk : Nat → Option Nat) : Nat → Option Nat → List Nat
  | 0, _ => []
  | _ + 1, none => []
  | m + 1, some x => x :: runM lk m (lk (x ^^^ 1))
def endM (lk : Nat → Option Nat) : Nat → Option Nat → Option Nat
  | 0, o => o
  | _ + 1, none => none
  | m + 1, some x => endM lk m (lk (x ^^^ 1))
theorem runM_len (lk : Nat → Option Nat) : ∀ (m : Nat) (o : Option Nat), (runM lk m o).length ≤ m
  | 0, _ => Nat.le_refl _
  | _ + 1, none => Nat.zero_le _
  | m + 1, some x => Nat.succ_le_succ (runM_len lk m _)
/-- the true run of car c, from the lower outer id on -/
def trM (X : Fx) (c : Nat) : List Nat := runM (xLk X) 24 (some (outM (xLk X) 24 (2 * c)))
def trN (X : Fx) (c : Nat) : List Nat := if xId X ((trM X c).getD ((trM X c).length - 1) 0 / 2) < xId X ((trM X c).getD 0 0 / 2) then rowTurn (trM X c) else trM X c
def trR (X : Fx) (c : Nat) : List Nat := if (trM X c).length = 1 then [2 * c] else trN X c
def Acy (n : Nat) (X : Fx) : Prop := ∀ p, p < 2 * n → xLk X (outM (xLk X) 24 p) = none ∧ endM (xLk X) 24 (some (outM (xLk X) 24 p)) = none
theorem x1_div (x : Nat) : (x ^^^ 1) / 2 = x / 2 := by
  rw [Nat.xor_div_two]
  exact Nat.xor_zero _
theorem x1_mod (x : Nat) : (x ^^^ 1) % 2 = 1 - x % 2 := by
  have h := Nat.xor_mod_two_eq_one (a := x) (b := 1)
  rcases Nat.mod_two_eq_zero_or_one x with e | e <;> rcases Nat.mod_two_eq_zero_or_one (x ^^^ 1) with f | f
  · exfalso
    have := h.mpr (by rw [e]; decide)
    omega
  · omega
  · omega
  · exfalso
    exact (h.mp f) (by rw [e])
theorem x1_lt {n x : Nat} (h : x < 2 * n) : x ^^^ 1 < 2 * n := by
  have h1 := x1_div x
  have h2 := x1_mod x
  omega
theorem x1_x1 (x : Nat) : x ^^^ 1 ^^^ 1 = x := by rw [Nat.xor_assoc]; exact Nat.xor_zero x
