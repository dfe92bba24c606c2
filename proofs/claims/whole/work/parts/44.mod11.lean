/-! The reference: learn -/
/-- what car c takes of car k out of car f's words -/
def tkC (D0 D : Dy) (c f k : Nat) : Prop := ¬ k = c ∧ ¬ rowNo k (dDi D c) 0 = 0 ∧ ¬ dAg D0 f k = -1 ∧ (dAg D c k = -1 ∨ dAg D0 f k + nI 1 < dAg D c k)
def tkB (D0 D : Dy) (c f k : Nat) : Bool := !decide (k = c) && (!decide (rowNo k (dDi D c) 0 = 0) && (!decide (dAg D0 f k = -1) && (decide (dAg D c k = -1) || decide (dAg D0 f k + nI 1 < dAg D c k))))
theorem tkB_C {D0 D : Dy} {c f k : Nat} : tkB D0 D c f k = true ↔ tkC D0 D c f k := by
  unfold tkB tkC
  simp only [Bool.and_eq_true, Bool.or_eq_true, Bool.not_eq_true', decide_eq_true_eq, decide_eq_false_iff_not]
def lnD (X : Fx) (losses : Int32) (D0 D : Dy) (p : Nat) : Dy := match heaQ X losses p with
  | none => D
  | some q => if dTo D p = some [] then D
    else if agrM D p = 0 then (dVw D, dWh D, dSi D, dTo D, dDi D, dAg D, dBy D, up1 (dCr D) (p / 2) (dCr D (p / 2) + nI 1), dCh D)
    else (dVw D, dWh D, dSi D, dTo D, dDi D, up1 (dAg D) (p / 2) (fun k => if tkB D0 D (p / 2) (q / 2) k = true then dAg D0 (q / 2) k + nI 1 else dAg D (p / 2) k), up1 (dBy D) (p / 2) (fun k i => if tkB D0 D (p / 2) (q / 2) k = true then dBy D0 (q / 2) k i else dBy D (p / 2) k i), dCr D, dCh D)
def LnI (c k : Nat) (tk : Nat → Bool) (av : Nat → Int32) (yv : Nat → Nat → Int32) (B A : Nat → Nat → Int32) : Prop :=
  (∀ j, j ≠ 13 → j ≠ 14 → A j = B j) ∧ (∀ i, (i < 24 * c ∨ 24 * c + 24 ≤ i) → A 13 i = B 13 i) ∧ (∀ j, j < 24 → A 13 (24 * c + j) = if j < k ∧ tk j = true then av j else B 13 (24 * c + j)) ∧
  (∀ i, (i < 96 * c ∨ 96 * c + 96 ≤ i) → A 14 i = B 14 i) ∧ (∀ j i, j < 24 → i < 4 → A 14 (4 * (24 * c + j) + i) = if j < k ∧ tk j = true then yv j i else B 14 (4 * (24 * c + j) + i))
theorem LnI.rf (c : Nat) (tk : Nat → Bool) (av : Nat → Int32) (yv : Nat → Nat → Int32) (B : Nat → Nat → Int32) : LnI c 0 tk av yv B B :=
  ⟨fun _ _ _ => rfl, fun _ _ => rfl, fun j _ => by rw [if_neg (fun q => Nat.not_lt_zero _ q.1)], fun _ _ => rfl, fun j i _ _ => by rw [if_neg (fun q => Nat.not_lt_zero _ q.1)]⟩
theorem LnI.skip {c k : Nat} {tk : Nat → Bool} {av : Nat → Int32} {yv : Nat → Nat → Int32} {B A : Nat → Nat → Int32} (h : LnI c k tk av yv B A) (hk : ¬ tk k = true) : LnI c (k + 1) tk av yv B A := by
  have e : ∀ j, (j < k + 1 ∧ tk j = true) ↔ (j < k ∧ tk j = true) := fun j => ⟨fun q => ⟨by
    by_cases e : j = k
    · subst e; exact absurd q.2 hk
    · have := q.1; omega, q.2⟩, fun q => ⟨by have := q.1; omega, q.2⟩⟩
  obtain ⟨h1, h2, h3, h4, h5⟩ := h
  exact ⟨h1, h2, fun j hj => by rw [h3 j hj]; simp only [e], h4, fun j i hj hi => by rw [h5 j i hj hi]; simp only [e]⟩
theorem LnI.take {c k : Nat} {tk : Nat → Bool} {av : Nat → Int32} {yv : Nat → Nat → Int32} {B A A1 : Nat → Nat → Int32} (h : LnI c k tk av yv B A) (hk : tk k = true) (hk24 : k < 24) (f : ∀ j, j ≠ 13 → j ≠ 14 → A1 j = A j) (f3 : A1 13 = upd (A 13) (24 * c + k) (av k)) (f4 : ∀ i, i < 4 → A1 14 (4 * (24 * c + k) + i) = yv k i) (f5 : ∀ i, (i < 4 * (24 * c + k) ∨ 4 * (24 * c + k) + 4 ≤ i) → A1 14 i = A 14 i) : LnI c (k + 1) tk av yv B A1 := by
  obtain ⟨h1, h2, h3, h4, h5⟩ := h
  refine ⟨fun j q r => (f j q r).trans (h1 j q r), fun i hi => ?_, fun j hj => ?_, fun i hi => ?_, fun j i hj hi => ?_⟩
  · rw [f3, upd_n (by omega)]; exact h2 i hi
  · rw [f3]
    by_cases e : j = k
    · subst e; rw [upd_s, if_pos ⟨by omega, hk⟩]
    · rw [upd_n (by omega), h3 j hj]
      by_cases e2 : j < k ∧ tk j = true
      · rw [if_pos e2, if_pos ⟨by omega, e2.2⟩]
      · rw [if_neg e2, if_neg (fun q => e2 ⟨by have := q.1; omega, q.2⟩)]
  · rw [f5 i (by omega)]; exact h4 i hi
  · by_cases e : j = k
    · subst e; rw [f4 i hi, if_pos ⟨by omega, hk⟩]
    · rw [f5 _ (by omega), h5 j i hj hi]
      by_cases e2 : j < k ∧ tk j = true
      · rw [if_pos e2, if_pos ⟨by omega, e2.2⟩]
      · rw [if_neg e2, if_neg (fun q => e2 ⟨by have := q.1; omega, q.2⟩)]
theorem rowNo_no {x : Nat} : ∀ {l : List Nat} {k : Nat}, (∀ v ∈ l, v / 2 ≠ x) → rowNo x l k = 0
  | [], _, _ => rfl
  | v :: l, k, h => by
    unfold rowNo
    rw [if_neg (h v (List.mem_cons_self ..))]
    exact rowNo_no (fun u hu => h u (List.mem_cons_of_mem _ hu))
theorem d_M_learn_0 : decode c_M_learn 0 = .ok (.aload_n 0, 1) := by decide +kernel
theorem d_M_learn_1 : decode c_M_learn 1 = .ok (.iload_n 1, 1) := by decide +kernel
theorem d_M_learn_2 : decode c_M_learn 2 = .ok (.iload_n 2, 1) := by decide +kernel
theorem d_M_learn_3 : decode c_M_learn 3 = .ok (.invokevirtual 126, 3) := by decide +kernel
theorem d_M_learn_6 : decode c_M_learn 6 = .ok (.ifCond .eq 12, 3) := by decide +kernel
theorem d_M_learn_9 : decode c_M_learn 9 = .ok (.aload_n 0, 1) := by decide +kernel
theorem d_M_learn_10 : decode c_M_learn 10 = .ok (.getfield 47, 3) := by decide +kernel
theorem d_M_learn_13 : decode c_M_learn 13 = .ok (.iload_n 1, 1) := by decide +kernel
theorem d_M_learn_14 : decode c_M_learn 14 = .ok (.iaload, 1) := by decide +kernel
theorem d_M_learn_15 : decode c_M_learn 15 = .ok (.ifCond .ne 4, 3) := by decide +kernel
theorem d_M_learn_18 : decode c_M_learn 18 = .ok (.return_, 1) := by decide +kernel
theorem d_M_learn_19 : decode c_M_learn 19 = .ok (.iload_n 1, 1) := by decide +kernel
theorem d_M_learn_20 : decode c_M_learn 20 = .ok (.iconst 2, 1) := by decide +kernel
theorem d_M_learn_21 : decode c_M_learn 21 = .ok (.idiv, 1) := by decide +kernel
theorem d_M_learn_22 : decode c_M_learn 22 = .ok (.istore_n 3, 1) := by decide +kernel
theorem d_M_learn_23 : decode c_M_learn 23 = .ok (.aload_n 0, 1) := by decide +kernel
theorem d_M_learn_24 : decode c_M_learn 24 = .ok (.iload_n 1, 1) := by decide +kernel
theorem d_M_learn_25 : decode c_M_learn 25 = .ok (.invokevirtual 132, 3) := by decide +kernel
theorem d_M_learn_28 : decode c_M_learn 28 = .ok (.ifCond .ne 14, 3) := by decide +kernel
theorem d_M_learn_31 : decode c_M_learn 31 = .ok (.aload_n 0, 1) := by decide +kernel
theorem d_M_learn_32 : decode c_M_learn 32 = .ok (.getfield 56, 3) := by decide +kernel
theorem d_M_learn_35 : decode c_M_learn 35 = .ok (.iload_n 3, 1) := by decide +kernel
theorem d_M_learn_36 : decode c_M_learn 36 = .ok (.dup2, 1) := by decide +kernel
theorem d_M_learn_37 : decode c_M_learn 37 = .ok (.iaload, 1) := by decide +kernel
theorem d_M_learn_38 : decode c_M_learn 38 = .ok (.iconst 1, 1) := by decide +kernel
theorem d_M_learn_39 : decode c_M_learn 39 = .ok (.iadd, 1) := by decide +kernel
theorem d_M_learn_40 : decode c_M_learn 40 = .ok (.iastore, 1) := by decide +kernel
theorem d_M_learn_41 : decode c_M_learn 41 = .ok (.return_, 1) := by decide +kernel
theorem d_M_learn_42 : decode c_M_learn 42 = .ok (.aload_n 0, 1) := by decide +kernel
theorem d_M_learn_43 : decode c_M_learn 43 = .ok (.getfield 16, 3) := by decide +kernel
theorem d_M_learn_46 : decode c_M_learn 46 = .ok (.iload_n 1, 1) := by decide +kernel
theorem d_M_learn_47 : decode c_M_learn 47 = .ok (.iaload, 1) := by decide +kernel
theorem d_M_learn_48 : decode c_M_learn 48 = .ok (.iconst 2, 1) := by decide +kernel
theorem d_M_learn_49 : decode c_M_learn 49 = .ok (.idiv, 1) := by decide +kernel
theorem d_M_learn_50 : decode c_M_learn 50 = .ok (.istore 4, 2) := by decide +kernel
theorem d_M_learn_52 : decode c_M_learn 52 = .ok (.iconst 0, 1) := by decide +kernel
theorem d_M_learn_53 : decode c_M_learn 53 = .ok (.istore 5, 2) := by decide +kernel
theorem d_M_learn_55 : decode c_M_learn 55 = .ok (.iload 5, 2) := by decide +kernel
theorem d_M_learn_57 : decode c_M_learn 57 = .ok (.aload_n 0, 1) := by decide +kernel
theorem d_M_learn_58 : decode c_M_learn 58 = .ok (.getfield 93, 3) := by decide +kernel
theorem d_M_learn_61 : decode c_M_learn 61 = .ok (.if_icmp .ge 137, 3) := by decide +kernel
theorem d_M_learn_64 : decode c_M_learn 64 = .ok (.bipush 24, 2) := by decide +kernel
theorem d_M_learn_66 : decode c_M_learn 66 = .ok (.iload_n 3, 1) := by decide +kernel
theorem d_M_learn_67 : decode c_M_learn 67 = .ok (.imul, 1) := by decide +kernel
theorem d_M_learn_68 : decode c_M_learn 68 = .ok (.iload 5, 2) := by decide +kernel
theorem d_M_learn_70 : decode c_M_learn 70 = .ok (.iadd, 1) := by decide +kernel
theorem d_M_learn_71 : decode c_M_learn 71 = .ok (.istore 6, 2) := by decide +kernel
theorem d_M_learn_73 : decode c_M_learn 73 = .ok (.aload_n 0, 1) := by decide +kernel
theorem d_M_learn_74 : decode c_M_learn 74 = .ok (.getfield 77, 3) := by decide +kernel
theorem d_M_learn_77 : decode c_M_learn 77 = .ok (.bipush 24, 2) := by decide +kernel
theorem d_M_learn_79 : decode c_M_learn 79 = .ok (.iload 4, 2) := by decide +kernel
theorem d_M_learn_81 : decode c_M_learn 81 = .ok (.imul, 1) := by decide +kernel
theorem d_M_learn_82 : decode c_M_learn 82 = .ok (.iload 5, 2) := by decide +kernel
theorem d_M_learn_84 : decode c_M_learn 84 = .ok (.iadd, 1) := by decide +kernel
theorem d_M_learn_85 : decode c_M_learn 85 = .ok (.iaload, 1) := by decide +kernel
theorem d_M_learn_86 : decode c_M_learn 86 = .ok (.istore 7, 2) := by decide +kernel
theorem d_M_learn_88 : decode c_M_learn 88 = .ok (.iload 5, 2) := by decide +kernel
theorem d_M_learn_90 : decode c_M_learn 90 = .ok (.iload_n 3, 1) := by decide +kernel
theorem d_M_learn_91 : decode c_M_learn 91 = .ok (.if_icmp .eq 101, 3) := by decide +kernel
theorem d_M_learn_94 : decode c_M_learn 94 = .ok (.aload_n 0, 1) := by decide +kernel
theorem d_M_learn_95 : decode c_M_learn 95 = .ok (.iload_n 3, 1) := by decide +kernel
theorem d_M_learn_96 : decode c_M_learn 96 = .ok (.iload 5, 2) := by decide +kernel
theorem d_M_learn_98 : decode c_M_learn 98 = .ok (.invokevirtual 135, 3) := by decide +kernel
theorem d_M_learn_101 : decode c_M_learn 101 = .ok (.iconst (-1), 1) := by decide +kernel
theorem d_M_learn_102 : decode c_M_learn 102 = .ok (.if_icmp .eq 90, 3) := by decide +kernel
theorem d_M_learn_105 : decode c_M_learn 105 = .ok (.iload 7, 2) := by decide +kernel
theorem d_M_learn_107 : decode c_M_learn 107 = .ok (.iconst (-1), 1) := by decide +kernel
theorem d_M_learn_108 : decode c_M_learn 108 = .ok (.if_icmp .eq 84, 3) := by decide +kernel
theorem d_M_learn_111 : decode c_M_learn 111 = .ok (.aload_n 0, 1) := by decide +kernel
theorem d_M_learn_112 : decode c_M_learn 112 = .ok (.getfield 50, 3) := by decide +kernel
theorem d_M_learn_115 : decode c_M_learn 115 = .ok (.iload 6, 2) := by decide +kernel
theorem d_M_learn_117 : decode c_M_learn 117 = .ok (.iaload, 1) := by decide +kernel
theorem d_M_learn_118 : decode c_M_learn 118 = .ok (.iconst (-1), 1) := by decide +kernel
theorem d_M_learn_119 : decode c_M_learn 119 = .ok (.if_icmp .eq 17, 3) := by decide +kernel
theorem d_M_learn_122 : decode c_M_learn 122 = .ok (.iload 7, 2) := by decide +kernel
theorem d_M_learn_124 : decode c_M_learn 124 = .ok (.iconst 1, 1) := by decide +kernel
theorem d_M_learn_125 : decode c_M_learn 125 = .ok (.iadd, 1) := by decide +kernel
theorem d_M_learn_126 : decode c_M_learn 126 = .ok (.aload_n 0, 1) := by decide +kernel
theorem d_M_learn_127 : decode c_M_learn 127 = .ok (.getfield 50, 3) := by decide +kernel
theorem d_M_learn_130 : decode c_M_learn 130 = .ok (.iload 6, 2) := by decide +kernel
theorem d_M_learn_132 : decode c_M_learn 132 = .ok (.iaload, 1) := by decide +kernel
theorem d_M_learn_133 : decode c_M_learn 133 = .ok (.if_icmp .ge 59, 3) := by decide +kernel
theorem d_M_learn_136 : decode c_M_learn 136 = .ok (.aload_n 0, 1) := by decide +kernel
theorem d_M_learn_137 : decode c_M_learn 137 = .ok (.getfield 50, 3) := by decide +kernel
theorem d_M_learn_140 : decode c_M_learn 140 = .ok (.iload 6, 2) := by decide +kernel
theorem d_M_learn_142 : decode c_M_learn 142 = .ok (.iload 7, 2) := by decide +kernel
theorem d_M_learn_144 : decode c_M_learn 144 = .ok (.iconst 1, 1) := by decide +kernel
theorem d_M_learn_145 : decode c_M_learn 145 = .ok (.iadd, 1) := by decide +kernel
theorem d_M_learn_146 : decode c_M_learn 146 = .ok (.iastore, 1) := by decide +kernel
theorem d_M_learn_147 : decode c_M_learn 147 = .ok (.iconst 0, 1) := by decide +kernel
theorem d_M_learn_148 : decode c_M_learn 148 = .ok (.istore 8, 2) := by decide +kernel
theorem d_M_learn_150 : decode c_M_learn 150 = .ok (.iload 8, 2) := by decide +kernel
theorem d_M_learn_152 : decode c_M_learn 152 = .ok (.iconst 4, 1) := by decide +kernel
theorem d_M_learn_153 : decode c_M_learn 153 = .ok (.if_icmp .ge 39, 3) := by decide +kernel
theorem d_M_learn_156 : decode c_M_learn 156 = .ok (.aload_n 0, 1) := by decide +kernel
theorem d_M_learn_157 : decode c_M_learn 157 = .ok (.getfield 53, 3) := by decide +kernel
theorem d_M_learn_160 : decode c_M_learn 160 = .ok (.iconst 4, 1) := by decide +kernel
theorem d_M_learn_161 : decode c_M_learn 161 = .ok (.iload 6, 2) := by decide +kernel
theorem d_M_learn_163 : decode c_M_learn 163 = .ok (.imul, 1) := by decide +kernel
theorem d_M_learn_164 : decode c_M_learn 164 = .ok (.iload 8, 2) := by decide +kernel
theorem d_M_learn_166 : decode c_M_learn 166 = .ok (.iadd, 1) := by decide +kernel
theorem d_M_learn_167 : decode c_M_learn 167 = .ok (.aload_n 0, 1) := by decide +kernel
theorem d_M_learn_168 : decode c_M_learn 168 = .ok (.getfield 80, 3) := by decide +kernel
theorem d_M_learn_171 : decode c_M_learn 171 = .ok (.bipush 96, 2) := by decide +kernel
theorem d_M_learn_173 : decode c_M_learn 173 = .ok (.iload 4, 2) := by decide +kernel
theorem d_M_learn_175 : decode c_M_learn 175 = .ok (.imul, 1) := by decide +kernel
theorem d_M_learn_176 : decode c_M_learn 176 = .ok (.iconst 4, 1) := by decide +kernel
theorem d_M_learn_177 : decode c_M_learn 177 = .ok (.iload 5, 2) := by decide +kernel
theorem d_M_learn_179 : decode c_M_learn 179 = .ok (.imul, 1) := by decide +kernel
theorem d_M_learn_180 : decode c_M_learn 180 = .ok (.iadd, 1) := by decide +kernel
theorem d_M_learn_181 : decode c_M_learn 181 = .ok (.iload 8, 2) := by decide +kernel
theorem d_M_learn_183 : decode c_M_learn 183 = .ok (.iadd, 1) := by decide +kernel
theorem d_M_learn_184 : decode c_M_learn 184 = .ok (.iaload, 1) := by decide +kernel
theorem d_M_learn_185 : decode c_M_learn 185 = .ok (.iastore, 1) := by decide +kernel
theorem d_M_learn_186 : decode c_M_learn 186 = .ok (.iinc 8 1, 3) := by decide +kernel
theorem d_M_learn_189 : decode c_M_learn 189 = .ok (.goto (-39), 3) := by decide +kernel
theorem d_M_learn_192 : decode c_M_learn 192 = .ok (.iinc 5 1, 3) := by decide +kernel
theorem d_M_learn_195 : decode c_M_learn 195 = .ok (.goto (-140), 3) := by decide +kernel
theorem d_M_learn_198 : decode c_M_learn 198 = .ok (.return_, 1) := by decide +kernel
set_option maxRecDepth 20000 in
set_option maxHeartbeats 4000000 in
theorem l_M_learn2 {E : kx_E} {w0 : va_W} {ma : Nat → Nat} {F : Nat → Int32} {B : Nat → Nat → Int32} {c f k : Nat} (hc : c < 24) (hf : f < 24) (hk : k < 24) {y : Nat → Int32} (hy : ∀ i, i < 4 → B 23 (96 * f + 4 * k + i) = y i) {z : kx_Z} {Q : kx_O → va_W → Prop}
    (hQ : ∀ w A, Mdl E w ma F A → kx_off w0 w mdlN → (∀ j, j ≠ 14 → A j = B j) → (∀ i, i < 4 → A 14 (4 * (24 * c + k) + i) = y i) → (∀ i, (i < 4 * (24 * c + k) ∨ 4 * (24 * c + k) + 4 ≤ i) → A 14 i = B 14 i) → kx_R E Y_M_learn z 192 [(0, .ref (ma 0)), (3, .int (nI c)), (4, .int (nI f)), (5, .int (nI k))] [] w 0 0 Q) :
    ∀ (m i : Nat) (w : va_W) (A : Nat → Nat → Int32), m + i = 4 → Mdl E w ma F A → kx_off w0 w mdlN → (∀ j, j ≠ 14 → A j = B j) → (∀ r, r < i → A 14 (4 * (24 * c + k) + r) = y r) → (∀ r, (r < 4 * (24 * c + k) ∨ 4 * (24 * c + k) + 4 ≤ r) → A 14 r = B 14 r) → kx_R E Y_M_learn z 150 [(0, .ref (ma 0)), (3, .int (nI c)), (4, .int (nI f)), (5, .int (nI k)), (6, .int (nI (24 * c + k))), (8, .int (nI i))] [] w 0 0 Q := by
  intro m
  induction m with
  | zero =>
    intro i w A hi hM hO h0 h1 h2
    have hi : i = 4 := by omega
    subst hi
    have hQ9 := hQ w A hM hO h0 h1 h2
    clear h1 h2
    refine kx_iload d_M_learn_150 rfl ?_
    refine kx_iconst (nI 4) d_M_learn_152 (by decide) ?_
    first | refine kx_icmp_ge_n 192 d_M_learn_153 (by decide) (by omega) (by omega) ?_ ?_ | refine kx_icmp_ge 192 d_M_learn_153 (by decide) ?_ ?_
    · intro h153
      exact kx_loc (L1 := [(0, .ref (ma 0)), (3, .int (nI c)), (4, .int (nI f)), (5, .int (nI k))]) ⟨rfl, rfl, rfl, rfl, trivial⟩ hQ9
    · intro h153
      exact absurd h153 (by omega)
  | succ m ih =>
    intro i w A hi hM hO h0 h1 h2
    have hv : A 23 (96 * f + 4 * k + i) = y i := by rw [h0 23 (by decide)]; exact hy i (by omega)
    have g0 : ∀ g, ∀ j, j ≠ 14 → up1 A 14 g j = B j := fun g j hj => by rw [up1_n hj]; exact h0 j hj
    have g1 : ∀ r, r < i + 1 → up1 A 14 (upd (A 14) (4 * (24 * c + k) + i) (y i)) 14 (4 * (24 * c + k) + r) = y r := fun r hr => by
      rw [up1_s]
      by_cases e : r = i
      · subst e; rw [upd_s]
      · rw [upd_n (by omega)]; exact h1 r (by omega)
    have g2 : ∀ r, (r < 4 * (24 * c + k) ∨ 4 * (24 * c + k) + 4 ≤ r) → up1 A 14 (upd (A 14) (4 * (24 * c + k) + i) (y i)) 14 r = B 14 r := fun r hr => by rw [up1_s, upd_n (by omega)]; exact h2 r hr
    have hih := fun w => ih (i + 1) w (up1 A 14 (upd (A 14) (4 * (24 * c + k) + i) (y i))) (by omega)
    clear h1 h2 ih
    refine kx_iload d_M_learn_150 rfl ?_
    refine kx_iconst (nI 4) d_M_learn_152 (by decide) ?_
    first | refine kx_icmp_ge_n 192 d_M_learn_153 (by decide) (by omega) (by omega) ?_ ?_ | refine kx_icmp_ge 192 d_M_learn_153 (by decide) ?_ ?_
    · intro h153
      exact absurd h153 (by omega)
    · intro h153
      refine kx_aload_n d_M_learn_156 rfl (by first | rfl | exact kx_rf _) ?_
      refine kx_get _ d_M_learn_157 f_M_53 hM.1 (by rfl) ?_
      refine kx_iconst (nI 4) d_M_learn_160 (by decide) ?_
      refine kx_iload d_M_learn_161 rfl ?_
      first | refine kx_imul _ d_M_learn_163 (pk_mul _ _) ?_ | refine kx_imul _ d_M_learn_163 rfl ?_
      refine kx_iload d_M_learn_164 rfl ?_
      first | refine kx_iadd _ d_M_learn_166 (nI_add _ _) ?_ | refine kx_iadd _ d_M_learn_166 rfl ?_
      refine kx_aload_n d_M_learn_167 rfl (by first | rfl | exact kx_rf _) ?_
      refine kx_get _ d_M_learn_168 f_M_80 hM.1 (by rfl) ?_
      refine kx_bipush (nI 96) d_M_learn_171 (by decide) ?_
      refine kx_iload d_M_learn_173 rfl ?_
      first | refine kx_imul _ d_M_learn_175 (pk_mul _ _) ?_ | refine kx_imul _ d_M_learn_175 rfl ?_
      refine kx_iconst (nI 4) d_M_learn_176 (by decide) ?_
      refine kx_iload d_M_learn_177 rfl ?_
      first | refine kx_imul _ d_M_learn_179 (pk_mul _ _) ?_ | refine kx_imul _ d_M_learn_179 rfl ?_
      first | refine kx_iadd _ d_M_learn_180 (nI_add _ _) ?_ | refine kx_iadd _ d_M_learn_180 rfl ?_
      refine kx_iload d_M_learn_181 rfl ?_
      first | refine kx_iadd _ d_M_learn_183 (nI_add _ _) ?_ | refine kx_iadd _ d_M_learn_183 rfl ?_
      refine kx_iald d_M_learn_184 hM.a23 (by omega) (by decide) ?_
      rw [hv]
      refine mA_put (j := 14) d_M_learn_185 hM hO (by decide) (len := 2304) rfl (by decide) (by omega) (fun w hM hO => ?_)
      refine kx_iinc _ d_M_learn_186 rfl (by decide) (nI_1 _) ?_
      refine kx_goto 150 d_M_learn_189 (by decide) ?_
      refine kx_loc (L1 := [(0, .ref (ma 0)), (3, .int (nI c)), (4, .int (nI f)), (5, .int (nI k)), (6, .int (nI (24 * c + k))), (8, .int (nI (i + 1)))]) ⟨rfl, rfl, rfl, rfl, rfl, rfl, trivial⟩ ?_
      exact hih w hM hO (g0 _) g1 g2
set_option maxRecDepth 20000 in
set_option maxHeartbeats 4000000 in
theorem l_M_learn1 {E : kx_E} {w0 : va_W} {ma : Nat → Nat} {F : Nat → Int32} {B : Nat → Nat → Int32} {n : Nat} {X : Fx} {D D0 : Dy} (hR : ModR n X D B) (hX : WfX n X) (hD : WfD n D) (hP : OldR n D0 B) (hn : F 1 = nI n) {c f : Nat} (hc : c < n) (hf : f < n) {z : kx_Z} {Q : kx_O → va_W → Prop}
    (hQ : ∀ w A, Mdl E w ma F A → kx_off w0 w mdlN → LnI c n (tkB D0 D c f) (fun k => dAg D0 f k + nI 1) (dBy D0 f) B A → Q (.inl none) w) :
    ∀ (m k : Nat) (w : va_W) (A : Nat → Nat → Int32), m + k = n → Mdl E w ma F A → kx_off w0 w mdlN → LnI c k (tkB D0 D c f) (fun k => dAg D0 f k + nI 1) (dBy D0 f) B A → kx_R E Y_M_learn z 55 [(0, .ref (ma 0)), (3, .int (nI c)), (4, .int (nI f)), (5, .int (nI k))] [] w 0 0 Q := by
  have h24 := hX.1
  have bd := (hD.2.2 c hc).1
  have bd24 := bd.1
  have hdi := hR.dis c hc
  have hli : ∀ v ∈ dDi D c, v < 2 ^ 31 := fun v hv => by have := bd.2 v hv; omega
  intro m
  induction m with
  | zero =>
    intro k w A hk hM hO hI
    have hk : k = n := by omega
    subst hk
    have hQ9 := hQ w A hM hO hI
    clear hI
    refine kx_iload d_M_learn_55 rfl ?_
    refine kx_aload_n d_M_learn_57 rfl (by first | rfl | exact kx_rf _) ?_
    refine kx_get _ d_M_learn_58 f_M_93 hM.1 (by rfl) ?_
    rw [hn]
    first | refine kx_icmp_ge_n 198 d_M_learn_61 (by decide) (by omega) (by omega) ?_ ?_ | refine kx_icmp_ge 198 d_M_learn_61 (by decide) ?_ ?_
    · intro h61
      refine kx_vret d_M_learn_198 rfl (by decide) (by decide) ?_
      exact hQ9
    · intro h61
      exact absurd h61 (by omega)
  | succ m ih =>
    intro k w A hk hM hO hI
    have hkn : k < n := by omega
    have ho : A 22 (24 * f + k) = dAg D0 f k := by rw [hI.1 22 (by decide) (by decide)]; exact hP.oag f k hf (by omega)
    have ha : A 13 (24 * c + k) = dAg D c k := by rw [hI.2.2.1 k (by omega), if_neg (fun q => Nat.lt_irrefl _ q.1)]; exact hR.ags c k hc (by omega)
    have hdl : LisR (A 9) (A 10) c (dDi D c) := by rw [hI.1 9 (by decide) (by decide), hI.1 10 (by decide) (by decide)]; exact hdi
    have hpl : plI k (dDi D c) = -1 ↔ rowNo k (dDi D c) 0 = 0 := by
      have hle := rowNo_le k (dDi D c) 0
      unfold plI
      by_cases e : rowNo k (dDi D c) 0 = 0
      · rw [if_pos e]; exact ⟨fun _ => e, fun _ => rfl⟩
      · rw [if_neg e]; exact ⟨fun q => absurd q (nI_m1 (by omega)), fun q => absurd q e⟩
    have hsk : ¬ tkC D0 D c f k → ∀ w (A1 : Nat → Nat → Int32), Mdl E w ma F A → kx_off w0 w mdlN → kx_R E Y_M_learn z 192 [(0, .ref (ma 0)), (3, .int (nI c)), (4, .int (nI f)), (5, .int (nI k))] [] w 0 0 Q := fun hno w _ hM hO => by
      have hI2 := hI.skip (fun q => hno (tkB_C.mp q))
      clear hno
      refine kx_iinc _ d_M_learn_192 rfl (by decide) (nI_1 _) ?_
      refine kx_goto 55 d_M_learn_195 (by decide) ?_
      refine kx_loc (L1 := [(0, .ref (ma 0)), (3, .int (nI c)), (4, .int (nI f)), (5, .int (nI (k + 1)))]) ⟨rfl, rfl, rfl, rfl, trivial⟩ ?_
      exact ih (k + 1) w A (by omega) hM hO hI2
    have htk : tkC D0 D c f k → ∀ w (A1 : Nat → Nat → Int32), Mdl E w ma F A1 → kx_off w0 w mdlN → (∀ j, j ≠ 13 → j ≠ 14 → A1 j = A j) → A1 13 = upd (A 13) (24 * c + k) (dAg D0 f k + nI 1) → (∀ i, i < 4 → A1 14 (4 * (24 * c + k) + i) = dBy D0 f k i) → (∀ i, (i < 4 * (24 * c + k) ∨ 4 * (24 * c + k) + 4 ≤ i) → A1 14 i = A 14 i) → kx_R E Y_M_learn z 192 [(0, .ref (ma 0)), (3, .int (nI c)), (4, .int (nI f)), (5, .int (nI k))] [] w 0 0 Q := fun hye w A1 hM hO q1 q2 q3 q4 => by
      have hI2 := hI.take (tkB_C.mpr hye) (by omega) q1 q2 q3 q4
      clear hye q1 q2 q3 q4
      refine kx_iinc _ d_M_learn_192 rfl (by decide) (nI_1 _) ?_
      refine kx_goto 55 d_M_learn_195 (by decide) ?_
      refine kx_loc (L1 := [(0, .ref (ma 0)), (3, .int (nI c)), (4, .int (nI f)), (5, .int (nI (k + 1)))]) ⟨rfl, rfl, rfl, rfl, trivial⟩ ?_
      exact ih (k + 1) w A1 (by omega) hM hO hI2
    have hby : ∀ i, i < 4 → A 23 (96 * f + 4 * k + i) = dBy D0 f k i := fun i hi => by rw [hI.1 23 (by decide) (by decide), show 96 * f + 4 * k + i = 4 * (24 * f + k) + i by omega]; exact hP.oby f k i hf (by omega) hi
    clear ih
    refine kx_iload d_M_learn_55 rfl ?_
    refine kx_aload_n d_M_learn_57 rfl (by first | rfl | exact kx_rf _) ?_
    refine kx_get _ d_M_learn_58 f_M_93 hM.1 (by rfl) ?_
    rw [hn]
    first | refine kx_icmp_ge_n 198 d_M_learn_61 (by decide) (by omega) (by omega) ?_ ?_ | refine kx_icmp_ge 198 d_M_learn_61 (by decide) ?_ ?_
    · intro h61
      exact absurd h61 (by omega)
    · intro h61
      refine kx_bipush (nI 24) d_M_learn_64 (by decide) ?_
      refine kx_iload_n d_M_learn_66 rfl ?_
      first | refine kx_imul _ d_M_learn_67 (pk_mul _ _) ?_ | refine kx_imul _ d_M_learn_67 rfl ?_
      refine kx_iload d_M_learn_68 rfl ?_
      first | refine kx_iadd _ d_M_learn_70 (nI_add _ _) ?_ | refine kx_iadd _ d_M_learn_70 rfl ?_
      refine kx_istore d_M_learn_71 (by decide) ?_
      refine kx_aload_n d_M_learn_73 rfl (by first | rfl | exact kx_rf _) ?_
      refine kx_get _ d_M_learn_74 f_M_77 hM.1 (by rfl) ?_
      refine kx_bipush (nI 24) d_M_learn_77 (by decide) ?_
      refine kx_iload d_M_learn_79 rfl ?_
      first | refine kx_imul _ d_M_learn_81 (pk_mul _ _) ?_ | refine kx_imul _ d_M_learn_81 rfl ?_
      refine kx_iload d_M_learn_82 rfl ?_
      first | refine kx_iadd _ d_M_learn_84 (nI_add _ _) ?_ | refine kx_iadd _ d_M_learn_84 rfl ?_
      refine kx_iald d_M_learn_85 hM.a22 (by omega) (by decide) ?_
      rw [ho]
      refine kx_istore d_M_learn_86 (by decide) ?_
      refine kx_iload d_M_learn_88 rfl ?_
      refine kx_iload_n d_M_learn_90 rfl ?_
      first | refine kx_icmp_eq_n 192 d_M_learn_91 (by decide) (by omega) (by omega) ?_ ?_ | refine kx_icmp_eq 192 d_M_learn_91 (by decide) ?_ ?_
      · intro h91
        refine kx_loc (L1 := [(0, .ref (ma 0)), (3, .int (nI c)), (4, .int (nI f)), (5, .int (nI k))]) ⟨rfl, rfl, rfl, rfl, trivial⟩ ?_
        first
          | exact hsk (fun q => q.1 h91) _ A hM hO
          | exact hsk (fun q => q.2.1 (hpl.mp h102)) _ A hM hO
          | exact hsk (fun q => q.2.2.1 h108) _ A hM hO
          | exact hsk (fun q => by rcases q.2.2.2 with r | r; exact h119 r; exact absurd h133 (i32_nle.mpr r)) _ A hM hO
      · intro h91
        refine kx_aload_n d_M_learn_94 rfl (by first | rfl | exact kx_rf _) ?_
        refine kx_iload_n d_M_learn_95 rfl ?_
        refine kx_iload d_M_learn_96 rfl ?_
        refine kx_callV (as := [.int (nI c), .int (nI k)]) (rest := []) d_M_learn_98 v_M_135 rfl hM.1 rfl rfl (by decide) (by decide) (Nat.le_of_ble_eq_true rfl) (by decide) (by decide) rfl (m_M_place hM (by omega) (by omega) hdl bd24 hli) (fun X w1 h => by cases h.1) (fun v w1 hq9 => ?_)
        obtain ⟨hv, hw9⟩ := hq9
        cases hv
        subst hw9
        refine kx_stk (st1 := [.int (plI k (dDi D c))]) rfl ?_
        refine kx_iconst (-1) d_M_learn_101 (by decide) ?_
        refine kx_icmp_eq 192 d_M_learn_102 (by decide) ?_ ?_
        · intro h102
          refine kx_loc (L1 := [(0, .ref (ma 0)), (3, .int (nI c)), (4, .int (nI f)), (5, .int (nI k))]) ⟨rfl, rfl, rfl, rfl, trivial⟩ ?_
          first
            | exact hsk (fun q => q.1 h91) _ A hM hO
            | exact hsk (fun q => q.2.1 (hpl.mp h102)) _ A hM hO
            | exact hsk (fun q => q.2.2.1 h108) _ A hM hO
            | exact hsk (fun q => by rcases q.2.2.2 with r | r; exact h119 r; exact absurd h133 (i32_nle.mpr r)) _ A hM hO
        · intro h102
          refine kx_iload d_M_learn_105 rfl ?_
          refine kx_iconst (-1) d_M_learn_107 (by decide) ?_
          refine kx_icmp_eq 192 d_M_learn_108 (by decide) ?_ ?_
          · intro h108
            refine kx_loc (L1 := [(0, .ref (ma 0)), (3, .int (nI c)), (4, .int (nI f)), (5, .int (nI k))]) ⟨rfl, rfl, rfl, rfl, trivial⟩ ?_
            first
              | exact hsk (fun q => q.1 h91) _ A hM hO
              | exact hsk (fun q => q.2.1 (hpl.mp h102)) _ A hM hO
              | exact hsk (fun q => q.2.2.1 h108) _ A hM hO
              | exact hsk (fun q => by rcases q.2.2.2 with r | r; exact h119 r; exact absurd h133 (i32_nle.mpr r)) _ A hM hO
          · intro h108
            refine kx_aload_n d_M_learn_111 rfl (by first | rfl | exact kx_rf _) ?_
            refine kx_get _ d_M_learn_112 f_M_50 hM.1 (by rfl) ?_
            refine kx_iload d_M_learn_115 rfl ?_
            refine kx_iald d_M_learn_117 hM.a13 (by omega) (by decide) ?_
            rw [ha]
            refine kx_iconst (-1) d_M_learn_118 (by decide) ?_
            refine kx_icmp_eq 136 d_M_learn_119 (by decide) ?_ ?_
            · intro h119
              refine kx_aload_n d_M_learn_136 rfl (by first | rfl | exact kx_rf _) ?_
              refine kx_get _ d_M_learn_137 f_M_50 hM.1 (by rfl) ?_
              refine kx_iload d_M_learn_140 rfl ?_
              refine kx_iload d_M_learn_142 rfl ?_
              refine kx_iconst (nI 1) d_M_learn_144 (by decide) ?_
              refine kx_iadd _ d_M_learn_145 rfl ?_
              refine mA_put (j := 13) d_M_learn_146 hM hO (by decide) (len := 576) rfl (by decide) (by omega) (fun w hM hO => ?_)
              refine kx_iconst (nI 0) d_M_learn_147 (by decide) ?_
              refine kx_istore d_M_learn_148 (by decide) ?_
              refine kx_loc (L1 := [(0, .ref (ma 0)), (3, .int (nI c)), (4, .int (nI f)), (5, .int (nI k)), (6, .int (nI (24 * c + k))), (8, .int (nI 0))]) ⟨rfl, rfl, rfl, rfl, rfl, rfl, trivial⟩ ?_
              have hye : tkC D0 D c f k := by
                refine ⟨h91, fun q => h102 (hpl.mpr q), h108, ?_⟩
                first
                  | exact Or.inl h119
                  | exact Or.inr (i32_nle.mp h133)
              refine l_M_learn2 (y := dBy D0 f k) (B := up1 A 13 (upd (A 13) (24 * c + k) (dAg D0 f k + nI 1))) (by omega) (by omega) (by omega) (fun i hi => by rw [up1_n (by decide)]; exact hby i hi) (fun w A1 hM hO r1 r2 r3 => ?_) 4 0 _ _ rfl hM hO (fun _ _ => rfl) (fun i hi => absurd hi (Nat.not_lt_zero _)) (fun _ _ => rfl)
              exact htk hye w A1 hM hO (fun j q1 q2 => by rw [r1 j q2, up1_n q1]) (by rw [r1 13 (by decide), up1_s]) r2 (fun i hi => by rw [r3 i hi, up1_n (by decide)])
            · intro h119
              refine kx_iload d_M_learn_122 rfl ?_
              refine kx_iconst (nI 1) d_M_learn_124 (by decide) ?_
              refine kx_iadd _ d_M_learn_125 rfl ?_
              refine kx_aload_n d_M_learn_126 rfl (by first | rfl | exact kx_rf _) ?_
              refine kx_get _ d_M_learn_127 f_M_50 hM.1 (by rfl) ?_
              refine kx_iload d_M_learn_130 rfl ?_
              refine kx_iald d_M_learn_132 hM.a13 (by omega) (by decide) ?_
              rw [ha]
              refine kx_icmp_ge 192 d_M_learn_133 (by decide) ?_ ?_
              · intro h133
                refine kx_loc (L1 := [(0, .ref (ma 0)), (3, .int (nI c)), (4, .int (nI f)), (5, .int (nI k))]) ⟨rfl, rfl, rfl, rfl, trivial⟩ ?_
                first
                  | exact hsk (fun q => q.1 h91) _ A hM hO
                  | exact hsk (fun q => q.2.1 (hpl.mp h102)) _ A hM hO
                  | exact hsk (fun q => q.2.2.1 h108) _ A hM hO
                  | exact hsk (fun q => by rcases q.2.2.2 with r | r; exact h119 r; exact absurd h133 (i32_nle.mpr r)) _ A hM hO
              · intro h133
                refine kx_aload_n d_M_learn_136 rfl (by first | rfl | exact kx_rf _) ?_
                refine kx_get _ d_M_learn_137 f_M_50 hM.1 (by rfl) ?_
                refine kx_iload d_M_learn_140 rfl ?_
                refine kx_iload d_M_learn_142 rfl ?_
                refine kx_iconst (nI 1) d_M_learn_144 (by decide) ?_
                refine kx_iadd _ d_M_learn_145 rfl ?_
                refine mA_put (j := 13) d_M_learn_146 hM hO (by decide) (len := 576) rfl (by decide) (by omega) (fun w hM hO => ?_)
                refine kx_iconst (nI 0) d_M_learn_147 (by decide) ?_
                refine kx_istore d_M_learn_148 (by decide) ?_
                refine kx_loc (L1 := [(0, .ref (ma 0)), (3, .int (nI c)), (4, .int (nI f)), (5, .int (nI k)), (6, .int (nI (24 * c + k))), (8, .int (nI 0))]) ⟨rfl, rfl, rfl, rfl, rfl, rfl, trivial⟩ ?_
                have hye : tkC D0 D c f k := by
                  refine ⟨h91, fun q => h102 (hpl.mpr q), h108, ?_⟩
                  first
                    | exact Or.inl h119
                    | exact Or.inr (i32_nle.mp h133)
                refine l_M_learn2 (y := dBy D0 f k) (B := up1 A 13 (upd (A 13) (24 * c + k) (dAg D0 f k + nI 1))) (by omega) (by omega) (by omega) (fun i hi => by rw [up1_n (by decide)]; exact hby i hi) (fun w A1 hM hO r1 r2 r3 => ?_) 4 0 _ _ rfl hM hO (fun _ _ => rfl) (fun i hi => absurd hi (Nat.not_lt_zero _)) (fun _ _ => rfl)
                exact htk hye w A1 hM hO (fun j q1 q2 => by rw [r1 j q2, up1_n q1]) (by rw [r1 13 (by decide), up1_s]) r2 (fun i hi => by rw [r3 i hi, up1_n (by decide)])
set_option maxRecDepth 20000 in
set_option maxHeartbeats 4000000 in
theorem m_M_learn {E : kx_E} {w : va_W} {ma : Nat → Nat} {F : Nat → Int32} {A : Nat → Nat → Int32} (hM : Mdl E w ma F A) {n : Nat} {X : Fx} {D : Dy} (hR : ModR n X D A) (hX : WfX n X) (hD : WfD n D) (hn : F 1 = nI n) (hz : Bz A) {D0 : Dy} (hP : OldR n D0 A) {p : Nat} (hp : p < 2 * n) {losses : Int32} : kx_S E Y_M_learn [.ref (ma 0), .int (nI p), .int losses] w (MP E w ma F (fun A1 => ModR n X (lnD X losses D0 D p) A1 ∧ OldR n D0 A1 ∧ Bz A1) none) := by
  refine kx_go (by decide) rfl rfl (Nat.le_of_ble_eq_true rfl) (kx_cc rfl (kx_cc rfl (kx_cc rfl kx_c0))) (fun z => ?_)
  have hO : kx_off w w mdlN := kx_off.rf
  have h24 := hX.1
  have hto := hR.tos p hp
  have hc2 : p / 2 < n := by omega
  have h01 := agrM_01 D p
  have t1 : A 12 p = tolI (dTo D p) := hto.1
  have tz : tolI (dTo D p) = 0 ↔ dTo D p = some [] := by
    cases hk : dTo D p with
    | none => exact ⟨fun h => absurd h (by decide), fun h => (by cases h)⟩
    | some u =>
      have := (hD.2.1 p hp u hk).1
      constructor
      · intro h
        have : u.length = 0 := (nI_eq (by omega) (by decide)).mp h
        rw [List.eq_nil_of_length_eq_zero this]
      · intro h; cases h; rfl
  cases hh : heaQ X losses p with
  | none =>
    have e9 : lnD X losses D0 D p = D := by unfold lnD; rw [hh]
    rw [e9]
    refine kx_aload_n d_M_learn_0 rfl (by first | rfl | exact kx_rf _) ?_
    refine kx_iload_n d_M_learn_1 rfl ?_
    refine kx_iload_n d_M_learn_2 rfl ?_
    refine kx_callV (as := [.int (nI p), .int losses]) (rest := []) d_M_learn_3 v_M_126 rfl hM.1 rfl rfl (by decide) (by decide) (Nat.le_of_ble_eq_true rfl) (by decide) (by decide) rfl (m_M_hears hM hR hX hD hn hp losses) (fun X w1 h => by cases h.1) (fun v w1 hq9 => ?_)
    obtain ⟨hv, hw9⟩ := hq9
    cases hv
    subst hw9
    rw [hh]
    refine kx_stk (st1 := [.int (nI 0)]) rfl ?_
    refine kx_if_eq_n 18 d_M_learn_6 (by decide) (by decide) (fun _ => ?_) (fun h => absurd rfl h)
    refine kx_vret d_M_learn_18 rfl (by decide) (by decide) ?_
    exact ⟨rfl, A, hM, ⟨hR, hP, hz⟩, hO⟩
  | some q =>
    have hlk := heaQ_lk hh
    have hq := hX.lk hp hlk
    have hl : A 2 p = nI q := by rw [hR.lks p hp, hlk]; rfl
    have hcr := hR.crs (p / 2) hc2
    refine kx_aload_n d_M_learn_0 rfl (by first | rfl | exact kx_rf _) ?_
    refine kx_iload_n d_M_learn_1 rfl ?_
    refine kx_iload_n d_M_learn_2 rfl ?_
    refine kx_callV (as := [.int (nI p), .int losses]) (rest := []) d_M_learn_3 v_M_126 rfl hM.1 rfl rfl (by decide) (by decide) (Nat.le_of_ble_eq_true rfl) (by decide) (by decide) rfl (m_M_hears hM hR hX hD hn hp losses) (fun X w1 h => by cases h.1) (fun v w1 hq9 => ?_)
    obtain ⟨hv, hw9⟩ := hq9
    cases hv
    subst hw9
    rw [hh]
    refine kx_stk (st1 := [.int (nI 1)]) rfl ?_
    refine kx_if_eq_n 18 d_M_learn_6 (by decide) (by decide) (fun h => absurd h (by decide)) (fun _ => ?_)
    refine kx_aload_n d_M_learn_9 rfl (by first | rfl | exact kx_rf _) ?_
    refine kx_get _ d_M_learn_10 f_M_47 hM.1 (by rfl) ?_
    refine kx_iload_n d_M_learn_13 rfl ?_
    refine kx_iald d_M_learn_14 hM.a12 (by omega) (by decide) ?_
    rw [t1]
    refine kx_if_ne 19 d_M_learn_15 (by decide) ?_ ?_
    · intro h15
      refine kx_iload_n d_M_learn_19 rfl ?_
      refine kx_iconst (nI 2) d_M_learn_20 (by decide) ?_
      refine kx_idiv _ d_M_learn_21 (by decide) (pk_div (by omega) (by omega) (by omega)) ?_
      refine kx_istore_n d_M_learn_22 (by decide) ?_
      refine kx_aload_n d_M_learn_23 rfl (by first | rfl | exact kx_rf _) ?_
      refine kx_iload_n d_M_learn_24 rfl ?_
      refine kx_callV (as := [.int (nI p)]) (rest := []) d_M_learn_25 v_M_132 rfl hM.1 rfl rfl (by decide) (by decide) (Nat.le_of_ble_eq_true rfl) (by decide) (by decide) rfl (m_M_agrees hM hR hX hD hn hp) (fun X w1 h => by cases h.1) (fun v w1 hq9 => ?_)
      obtain ⟨hv, hw9⟩ := hq9
      cases hv
      subst hw9
      refine kx_stk (st1 := [.int (nI (agrM D p))]) rfl ?_
      first | refine kx_if_ne_n 42 d_M_learn_28 (by decide) (by omega) ?_ ?_ | refine kx_if_ne 42 d_M_learn_28 (by decide) ?_ ?_
      · intro h28
        refine kx_aload_n d_M_learn_42 rfl (by first | rfl | exact kx_rf _) ?_
        refine kx_get _ d_M_learn_43 f_M_16 hM.1 (by rfl) ?_
        refine kx_iload_n d_M_learn_46 rfl ?_
        refine kx_iald d_M_learn_47 hM.a2 (by omega) (by decide) ?_
        rw [hl]
        refine kx_iconst (nI 2) d_M_learn_48 (by decide) ?_
        refine kx_idiv _ d_M_learn_49 (by decide) (pk_div (by omega) (by omega) (by omega)) ?_
        refine kx_istore d_M_learn_50 (by decide) ?_
        refine kx_iconst (nI 0) d_M_learn_52 (by decide) ?_
        refine kx_istore d_M_learn_53 (by decide) ?_
        have e9 : lnD X losses D0 D p = (dVw D, dWh D, dSi D, dTo D, dDi D, up1 (dAg D) (p / 2) (fun k => if tkB D0 D (p / 2) (q / 2) k = true then dAg D0 (q / 2) k + nI 1 else dAg D (p / 2) k), up1 (dBy D) (p / 2) (fun k i => if tkB D0 D (p / 2) (q / 2) k = true then dBy D0 (q / 2) k i else dBy D (p / 2) k i), dCr D, dCh D) := by unfold lnD; rw [hh]; dsimp only; rw [if_neg (fun q => h15 (tz.mpr q)), if_neg h28]
        rw [e9]
        refine kx_loc (L1 := [(0, .ref (ma 0)), (3, .int (nI (p / 2))), (4, .int (nI (q / 2))), (5, .int (nI 0))]) ⟨rfl, rfl, rfl, rfl, trivial⟩ ?_
        refine l_M_learn1 (B := A) hR hX hD hP hn hc2 (by omega) (fun w A1 hM hO hI => ⟨rfl, A1, hM, ⟨?_, ?_, ?_⟩, hO⟩) n 0 _ A rfl hM hO (LnI.rf _ _ _ _ _)
        · obtain ⟨i1, i2, i3, i4, i5⟩ := hI
          have hno : ∀ k, ¬ k < n → ¬ tkB D0 D (p / 2) (q / 2) k = true := fun k hk ht => (tkB_C.mp ht).2.1 (rowNo_no (fun v hv => by have := (hD.2.2 (p / 2) hc2).1.2 v hv; omega))
          have hu := hR.uCar (A1 := A1) hD (c := p / 2) (l := dDi D (p / 2)) (g := fun k => if tkB D0 D (p / 2) (q / 2) k = true then dAg D0 (q / 2) k + nI 1 else dAg D (p / 2) k) (y := fun k i => if tkB D0 D (p / 2) (q / 2) k = true then dBy D0 (q / 2) k i else dBy D (p / 2) k i) (r := dCr D (p / 2)) (h := dCh D (p / 2)) (fun j _ _ _ q13 q14 _ _ => i1 j q13 q14) (fun i hi => by rw [i1 9 (by decide) (by decide)]) (fun x hx => by rw [i1 10 (by decide) (by decide)]) i2 i4 (fun x hx => by rw [i1 15 (by decide) (by decide)]) (fun x hx => by rw [i1 16 (by decide) (by decide)]) (by rw [i1 9 (by decide) (by decide), i1 10 (by decide) (by decide)]; exact hR.dis _ hc2) (fun k hk => ?_) (fun k i hk hi => ?_) (by rw [i1 15 (by decide) (by decide)]; exact hR.crs _ hc2) (by rw [i1 16 (by decide) (by decide)]; exact hR.chs _ hc2)
          · rw [up1_self, up1_self, up1_self] at hu
            exact hu
          · rw [i3 k hk, hR.ags _ k hc2 hk]
            (try dsimp only)
            by_cases e : tkB D0 D (p / 2) (q / 2) k = true
            · rw [if_pos e, if_pos ⟨Decidable.byContradiction (fun q9 => hno k q9 e), e⟩]
            · rw [if_neg e, if_neg (fun q9 => e q9.2)]
          · rw [i5 k i hk hi, hR.bys _ k i hc2 hk hi]
            (try dsimp only)
            by_cases e : tkB D0 D (p / 2) (q / 2) k = true
            · rw [if_pos e, if_pos ⟨Decidable.byContradiction (fun q9 => hno k q9 e), e⟩]
            · rw [if_neg e, if_neg (fun q9 => e q9.2)]
        · exact hP.fs (fun j _ _ q13 q14 _ _ _ _ => hI.1 j q13 q14)
        · intro i hi
          rw [hI.1 7 (by decide) (by decide)]
          exact hz i hi
      · intro h28
        refine kx_aload_n d_M_learn_31 rfl (by first | rfl | exact kx_rf _) ?_
        refine kx_get _ d_M_learn_32 f_M_56 hM.1 (by rfl) ?_
        refine kx_iload_n d_M_learn_35 rfl ?_
        refine kx_dup2 d_M_learn_36 rfl rfl ?_
        refine kx_iald d_M_learn_37 hM.a15 (by omega) (by decide) ?_
        rw [hcr]
        refine kx_iconst (nI 1) d_M_learn_38 (by decide) ?_
        refine kx_iadd _ d_M_learn_39 rfl ?_
        refine mA_put (j := 15) d_M_learn_40 hM hO (by decide) (len := 24) rfl (by decide) (by omega) (fun w hM hO => ?_)
        have e9 : lnD X losses D0 D p = (dVw D, dWh D, dSi D, dTo D, dDi D, dAg D, dBy D, up1 (dCr D) (p / 2) (dCr D (p / 2) + nI 1), dCh D) := by unfold lnD; rw [hh]; dsimp only; rw [if_neg (fun q => h15 (tz.mpr q)), if_pos h28]
        rw [e9]
        refine kx_vret d_M_learn_41 rfl (by decide) (by decide) ⟨rfl, _, hM, ⟨?_, ?_, hz.up (by decide)⟩, hO⟩
        · have hu := hR.uCar (A1 := up1 A 15 (upd (A 15) (p / 2) (dCr D (p / 2) + nI 1))) hD (c := p / 2) (l := dDi D (p / 2)) (g := dAg D (p / 2)) (y := dBy D (p / 2)) (r := dCr D (p / 2) + nI 1) (h := dCh D (p / 2)) (fun j _ _ _ _ _ q15 _ => up1_n q15) (fun i hi => by rw [up1_n (by decide)]) (fun x hx => by rw [up1_n (by decide)]) (fun i hi => by rw [up1_n (by decide)]) (fun i hi => by rw [up1_n (by decide)]) (fun x hx => by rw [up1_s, upd_n hx]) (fun x hx => by rw [up1_n (by decide)]) (by rw [up1_n (by decide), up1_n (by decide)]; exact hR.dis _ hc2) (fun k hk => by rw [up1_n (by decide)]; exact hR.ags _ k hc2 hk) (fun k i hk hi => by rw [up1_n (by decide)]; exact hR.bys _ k i hc2 hk hi) (by rw [up1_s, upd_s]) (by rw [up1_n (by decide)]; exact hR.chs _ hc2)
          rw [up1_self, up1_self, up1_self, up1_self] at hu
          exact hu
        · exact hP.fs (fun j _ _ _ _ q15 _ _ _ => up1_n q15)
    · intro h15
      have e9 : lnD X losses D0 D p = D := by unfold lnD; rw [hh]; dsimp only; rw [if_pos (tz.mp h15)]
      rw [e9]
      exact kx_vret d_M_learn_18 rfl (by decide) (by decide) ⟨rfl, A, hM, ⟨hR, hP, hz⟩, hO⟩
