/-! The reference: settle -/
theorem ModR.uCar {n : Nat} {X : Fx} {D : Dy} {A A1 : Nat → Nat → Int32} (hR : ModR n X D A) (hD : WfD n D) {c : Nat}
    (f : ∀ j, j < 17 → j ≠ 9 → j ≠ 10 → j ≠ 13 → j ≠ 14 → j ≠ 15 → j ≠ 16 → A1 j = A j)
    (h9 : ∀ i, (i < 24 * c ∨ 24 * c + 24 ≤ i) → A1 9 i = A 9 i) (h10 : ∀ x, x ≠ c → A1 10 x = A 10 x) (h13 : ∀ i, (i < 24 * c ∨ 24 * c + 24 ≤ i) → A1 13 i = A 13 i) (h14 : ∀ i, (i < 96 * c ∨ 96 * c + 96 ≤ i) → A1 14 i = A 14 i) (h15 : ∀ x, x ≠ c → A1 15 x = A 15 x) (h16 : ∀ x, x ≠ c → A1 16 x = A 16 x)
    {l : List Nat} {g : Nat → Int32} {y : Nat → Nat → Int32} {r h : Int32} (hl : LisR (A1 9) (A1 10) c l) (hg : ∀ k, k < 24 → A1 13 (24 * c + k) = g k) (hy : ∀ k i, k < 24 → i < 4 → A1 14 (4 * (24 * c + k) + i) = y k i) (hr : A1 15 c = r) (hh : A1 16 c = h) :
    ModR n X (dVw D, dWh D, dSi D, dTo D, up1 (dDi D) c l, up1 (dAg D) c g, up1 (dBy D) c y, up1 (dCr D) c r, up1 (dCh D) c h) A1 := by
  refine ⟨?_, ?_, ?_, ?_, ?_, ?_, ?_, ?_, ?_, ?_, ?_, ?_, ?_, ?_⟩
  · rw [f 0 (by decide) (by decide) (by decide) (by decide) (by decide) (by decide) (by decide)]; exact hR.ids
  · rw [f 1 (by decide) (by decide) (by decide) (by decide) (by decide) (by decide) (by decide)]; exact hR.mks
  · rw [f 2 (by decide) (by decide) (by decide) (by decide) (by decide) (by decide) (by decide)]; exact hR.lks
  · rw [f 3 (by decide) (by decide) (by decide) (by decide) (by decide) (by decide) (by decide)]; exact hR.nus
  · rw [f 4 (by decide) (by decide) (by decide) (by decide) (by decide) (by decide) (by decide)]; exact hR.uss
  · rw [f 5 (by decide) (by decide) (by decide) (by decide) (by decide) (by decide) (by decide), f 6 (by decide) (by decide) (by decide) (by decide) (by decide) (by decide) (by decide)]; exact hR.vws
  · rw [f 7 (by decide) (by decide) (by decide) (by decide) (by decide) (by decide) (by decide)]; exact hR.whs
  · rw [f 8 (by decide) (by decide) (by decide) (by decide) (by decide) (by decide) (by decide)]; exact hR.sis
  · intro x hx
    show LisR (A1 9) (A1 10) x (up1 (dDi D) c l x)
    by_cases e : x = c
    · subst e; rw [up1_s]; exact hl
    · rw [up1_n e]
      obtain ⟨g1, g2⟩ := hR.dis x hx
      have := (hD.2.2 x hx).1.1
      exact ⟨(h10 x e).trans g1, fun k hk => (h9 _ (by omega)).trans (g2 k hk)⟩
  · rw [f 11 (by decide) (by decide) (by decide) (by decide) (by decide) (by decide) (by decide), f 12 (by decide) (by decide) (by decide) (by decide) (by decide) (by decide) (by decide)]; exact hR.tos
  · intro x k hx hk
    show A1 13 (24 * x + k) = up1 (dAg D) c g x k
    by_cases e : x = c
    · subst e; rw [up1_s]; exact hg k hk
    · rw [up1_n e, h13 _ (by omega)]; exact hR.ags x k hx hk
  · intro x k i hx hk hi
    show A1 14 (4 * (24 * x + k) + i) = up1 (dBy D) c y x k i
    by_cases e : x = c
    · subst e; rw [up1_s]; exact hy k i hk hi
    · rw [up1_n e, h14 _ (by omega)]; exact hR.bys x k i hx hk hi
  · intro x hx
    show A1 15 x = up1 (dCr D) c r x
    by_cases e : x = c
    · subst e; rw [up1_s]; exact hr
    · rw [up1_n e, h15 x e]; exact hR.crs x hx
  · intro x hx
    show A1 16 x = up1 (dCh D) c h x
    by_cases e : x = c
    · subst e; rw [up1_s]; exact hh
    · rw [up1_n e, h16 x e]; exact hR.chs x hx
theorem OldR.fs {n : Nat} {D0 : Dy} {A A1 : Nat → Nat → Int32} (h : OldR n D0 A) (fr : ∀ j, j ≠ 9 → j ≠ 10 → j ≠ 13 → j ≠ 14 → j ≠ 15 → j ≠ 16 → j ≠ 24 → j ≠ 25 → A1 j = A j) : OldR n D0 A1 := h.cg (fun j h1 h2 => fr j (by omega) (by omega) (by omega) (by omega) (by omega) (by omega) (by omega) (by omega))
def agN (D : Dy) (c : Nat) (s : List Nat) : Nat → Int32 := fun k => if k = c then nI 0 else if dDi D c = s ∧ ¬ dAg D c k = -1 then dAg D c k + nI 1 else -1
def stD (X : Fx) (D : Dy) (c : Nat) : Dy := (dVw D, dWh D, dSi D, dTo D, up1 (dDi D) c (seeM X D c), up1 (dAg D) c (agN D c (seeM X D c)), dBy D, dCr D, up1 (dCh D) c (if dDi D c = seeM X D c then dCh D c else dCh D c + nI 1))
def sameI (l s : List Nat) (k : Nat) : Prop := s.length = l.length ∧ ∀ i, i < k → l.getD i 0 = s.getD i 0
theorem d_M_settle_0 : decode c_M_settle 0 = .ok (.aload_n 0, 1) := by decide +kernel
theorem d_M_settle_1 : decode c_M_settle 1 = .ok (.iload_n 1, 1) := by decide +kernel
theorem d_M_settle_2 : decode c_M_settle 2 = .ok (.invokevirtual 129, 3) := by decide +kernel
theorem d_M_settle_5 : decode c_M_settle 5 = .ok (.istore_n 2, 1) := by decide +kernel
theorem d_M_settle_6 : decode c_M_settle 6 = .ok (.iload_n 2, 1) := by decide +kernel
theorem d_M_settle_7 : decode c_M_settle 7 = .ok (.aload_n 0, 1) := by decide +kernel
theorem d_M_settle_8 : decode c_M_settle 8 = .ok (.getfield 41, 3) := by decide +kernel
theorem d_M_settle_11 : decode c_M_settle 11 = .ok (.iload_n 1, 1) := by decide +kernel
theorem d_M_settle_12 : decode c_M_settle 12 = .ok (.iaload, 1) := by decide +kernel
theorem d_M_settle_13 : decode c_M_settle 13 = .ok (.if_icmp .ne 7, 3) := by decide +kernel
theorem d_M_settle_16 : decode c_M_settle 16 = .ok (.iconst 1, 1) := by decide +kernel
theorem d_M_settle_17 : decode c_M_settle 17 = .ok (.goto 4, 3) := by decide +kernel
theorem d_M_settle_20 : decode c_M_settle 20 = .ok (.iconst 0, 1) := by decide +kernel
theorem d_M_settle_21 : decode c_M_settle 21 = .ok (.istore_n 3, 1) := by decide +kernel
theorem d_M_settle_22 : decode c_M_settle 22 = .ok (.iconst 0, 1) := by decide +kernel
theorem d_M_settle_23 : decode c_M_settle 23 = .ok (.istore 4, 2) := by decide +kernel
theorem d_M_settle_25 : decode c_M_settle 25 = .ok (.iload 4, 2) := by decide +kernel
theorem d_M_settle_27 : decode c_M_settle 27 = .ok (.iload_n 2, 1) := by decide +kernel
theorem d_M_settle_28 : decode c_M_settle 28 = .ok (.if_icmp .ge 60, 3) := by decide +kernel
theorem d_M_settle_31 : decode c_M_settle 31 = .ok (.iload_n 3, 1) := by decide +kernel
theorem d_M_settle_32 : decode c_M_settle 32 = .ok (.ifCond .eq 29, 3) := by decide +kernel
theorem d_M_settle_35 : decode c_M_settle 35 = .ok (.aload_n 0, 1) := by decide +kernel
theorem d_M_settle_36 : decode c_M_settle 36 = .ok (.getfield 38, 3) := by decide +kernel
theorem d_M_settle_39 : decode c_M_settle 39 = .ok (.bipush 24, 2) := by decide +kernel
theorem d_M_settle_41 : decode c_M_settle 41 = .ok (.iload_n 1, 1) := by decide +kernel
theorem d_M_settle_42 : decode c_M_settle 42 = .ok (.imul, 1) := by decide +kernel
theorem d_M_settle_43 : decode c_M_settle 43 = .ok (.iload 4, 2) := by decide +kernel
theorem d_M_settle_45 : decode c_M_settle 45 = .ok (.iadd, 1) := by decide +kernel
theorem d_M_settle_46 : decode c_M_settle 46 = .ok (.iaload, 1) := by decide +kernel
theorem d_M_settle_47 : decode c_M_settle 47 = .ok (.aload_n 0, 1) := by decide +kernel
theorem d_M_settle_48 : decode c_M_settle 48 = .ok (.getfield 86, 3) := by decide +kernel
theorem d_M_settle_51 : decode c_M_settle 51 = .ok (.iload 4, 2) := by decide +kernel
theorem d_M_settle_53 : decode c_M_settle 53 = .ok (.iaload, 1) := by decide +kernel
theorem d_M_settle_54 : decode c_M_settle 54 = .ok (.if_icmp .ne 7, 3) := by decide +kernel
theorem d_M_settle_57 : decode c_M_settle 57 = .ok (.iconst 1, 1) := by decide +kernel
theorem d_M_settle_58 : decode c_M_settle 58 = .ok (.goto 4, 3) := by decide +kernel
theorem d_M_settle_61 : decode c_M_settle 61 = .ok (.iconst 0, 1) := by decide +kernel
theorem d_M_settle_62 : decode c_M_settle 62 = .ok (.istore_n 3, 1) := by decide +kernel
theorem d_M_settle_63 : decode c_M_settle 63 = .ok (.aload_n 0, 1) := by decide +kernel
theorem d_M_settle_64 : decode c_M_settle 64 = .ok (.getfield 38, 3) := by decide +kernel
theorem d_M_settle_67 : decode c_M_settle 67 = .ok (.bipush 24, 2) := by decide +kernel
theorem d_M_settle_69 : decode c_M_settle 69 = .ok (.iload_n 1, 1) := by decide +kernel
theorem d_M_settle_70 : decode c_M_settle 70 = .ok (.imul, 1) := by decide +kernel
theorem d_M_settle_71 : decode c_M_settle 71 = .ok (.iload 4, 2) := by decide +kernel
theorem d_M_settle_73 : decode c_M_settle 73 = .ok (.iadd, 1) := by decide +kernel
theorem d_M_settle_74 : decode c_M_settle 74 = .ok (.aload_n 0, 1) := by decide +kernel
theorem d_M_settle_75 : decode c_M_settle 75 = .ok (.getfield 86, 3) := by decide +kernel
theorem d_M_settle_78 : decode c_M_settle 78 = .ok (.iload 4, 2) := by decide +kernel
theorem d_M_settle_80 : decode c_M_settle 80 = .ok (.iaload, 1) := by decide +kernel
theorem d_M_settle_81 : decode c_M_settle 81 = .ok (.iastore, 1) := by decide +kernel
theorem d_M_settle_82 : decode c_M_settle 82 = .ok (.iinc 4 1, 3) := by decide +kernel
theorem d_M_settle_85 : decode c_M_settle 85 = .ok (.goto (-60), 3) := by decide +kernel
theorem d_M_settle_88 : decode c_M_settle 88 = .ok (.aload_n 0, 1) := by decide +kernel
theorem d_M_settle_89 : decode c_M_settle 89 = .ok (.getfield 41, 3) := by decide +kernel
theorem d_M_settle_92 : decode c_M_settle 92 = .ok (.iload_n 1, 1) := by decide +kernel
theorem d_M_settle_93 : decode c_M_settle 93 = .ok (.iload_n 2, 1) := by decide +kernel
theorem d_M_settle_94 : decode c_M_settle 94 = .ok (.iastore, 1) := by decide +kernel
theorem d_M_settle_95 : decode c_M_settle 95 = .ok (.aload_n 0, 1) := by decide +kernel
theorem d_M_settle_96 : decode c_M_settle 96 = .ok (.getfield 59, 3) := by decide +kernel
theorem d_M_settle_99 : decode c_M_settle 99 = .ok (.iload_n 1, 1) := by decide +kernel
theorem d_M_settle_100 : decode c_M_settle 100 = .ok (.iload_n 3, 1) := by decide +kernel
theorem d_M_settle_101 : decode c_M_settle 101 = .ok (.ifCond .eq 12, 3) := by decide +kernel
theorem d_M_settle_104 : decode c_M_settle 104 = .ok (.aload_n 0, 1) := by decide +kernel
theorem d_M_settle_105 : decode c_M_settle 105 = .ok (.getfield 59, 3) := by decide +kernel
theorem d_M_settle_108 : decode c_M_settle 108 = .ok (.iload_n 1, 1) := by decide +kernel
theorem d_M_settle_109 : decode c_M_settle 109 = .ok (.iaload, 1) := by decide +kernel
theorem d_M_settle_110 : decode c_M_settle 110 = .ok (.goto 11, 3) := by decide +kernel
theorem d_M_settle_113 : decode c_M_settle 113 = .ok (.aload_n 0, 1) := by decide +kernel
theorem d_M_settle_114 : decode c_M_settle 114 = .ok (.getfield 59, 3) := by decide +kernel
theorem d_M_settle_117 : decode c_M_settle 117 = .ok (.iload_n 1, 1) := by decide +kernel
theorem d_M_settle_118 : decode c_M_settle 118 = .ok (.iaload, 1) := by decide +kernel
theorem d_M_settle_119 : decode c_M_settle 119 = .ok (.iconst 1, 1) := by decide +kernel
theorem d_M_settle_120 : decode c_M_settle 120 = .ok (.iadd, 1) := by decide +kernel
theorem d_M_settle_121 : decode c_M_settle 121 = .ok (.iastore, 1) := by decide +kernel
theorem d_M_settle_122 : decode c_M_settle 122 = .ok (.iconst 0, 1) := by decide +kernel
theorem d_M_settle_123 : decode c_M_settle 123 = .ok (.istore 4, 2) := by decide +kernel
theorem d_M_settle_125 : decode c_M_settle 125 = .ok (.iload 4, 2) := by decide +kernel
theorem d_M_settle_127 : decode c_M_settle 127 = .ok (.bipush 24, 2) := by decide +kernel
theorem d_M_settle_129 : decode c_M_settle 129 = .ok (.if_icmp .ge 63, 3) := by decide +kernel
theorem d_M_settle_132 : decode c_M_settle 132 = .ok (.bipush 24, 2) := by decide +kernel
theorem d_M_settle_134 : decode c_M_settle 134 = .ok (.iload_n 1, 1) := by decide +kernel
theorem d_M_settle_135 : decode c_M_settle 135 = .ok (.imul, 1) := by decide +kernel
theorem d_M_settle_136 : decode c_M_settle 136 = .ok (.iload 4, 2) := by decide +kernel
theorem d_M_settle_138 : decode c_M_settle 138 = .ok (.iadd, 1) := by decide +kernel
theorem d_M_settle_139 : decode c_M_settle 139 = .ok (.istore 5, 2) := by decide +kernel
theorem d_M_settle_141 : decode c_M_settle 141 = .ok (.aload_n 0, 1) := by decide +kernel
theorem d_M_settle_142 : decode c_M_settle 142 = .ok (.getfield 50, 3) := by decide +kernel
theorem d_M_settle_145 : decode c_M_settle 145 = .ok (.iload 5, 2) := by decide +kernel
theorem d_M_settle_147 : decode c_M_settle 147 = .ok (.iload 4, 2) := by decide +kernel
theorem d_M_settle_149 : decode c_M_settle 149 = .ok (.iload_n 1, 1) := by decide +kernel
theorem d_M_settle_150 : decode c_M_settle 150 = .ok (.if_icmp .ne 7, 3) := by decide +kernel
theorem d_M_settle_153 : decode c_M_settle 153 = .ok (.iconst 0, 1) := by decide +kernel
theorem d_M_settle_154 : decode c_M_settle 154 = .ok (.goto 31, 3) := by decide +kernel
theorem d_M_settle_157 : decode c_M_settle 157 = .ok (.iload_n 3, 1) := by decide +kernel
theorem d_M_settle_158 : decode c_M_settle 158 = .ok (.ifCond .eq 26, 3) := by decide +kernel
theorem d_M_settle_161 : decode c_M_settle 161 = .ok (.aload_n 0, 1) := by decide +kernel
theorem d_M_settle_162 : decode c_M_settle 162 = .ok (.getfield 50, 3) := by decide +kernel
theorem d_M_settle_165 : decode c_M_settle 165 = .ok (.iload 5, 2) := by decide +kernel
theorem d_M_settle_167 : decode c_M_settle 167 = .ok (.iaload, 1) := by decide +kernel
theorem d_M_settle_168 : decode c_M_settle 168 = .ok (.iconst (-1), 1) := by decide +kernel
theorem d_M_settle_169 : decode c_M_settle 169 = .ok (.if_icmp .eq 15, 3) := by decide +kernel
theorem d_M_settle_172 : decode c_M_settle 172 = .ok (.aload_n 0, 1) := by decide +kernel
theorem d_M_settle_173 : decode c_M_settle 173 = .ok (.getfield 50, 3) := by decide +kernel
theorem d_M_settle_176 : decode c_M_settle 176 = .ok (.iload 5, 2) := by decide +kernel
theorem d_M_settle_178 : decode c_M_settle 178 = .ok (.iaload, 1) := by decide +kernel
theorem d_M_settle_179 : decode c_M_settle 179 = .ok (.iconst 1, 1) := by decide +kernel
theorem d_M_settle_180 : decode c_M_settle 180 = .ok (.iadd, 1) := by decide +kernel
theorem d_M_settle_181 : decode c_M_settle 181 = .ok (.goto 4, 3) := by decide +kernel
theorem d_M_settle_184 : decode c_M_settle 184 = .ok (.iconst (-1), 1) := by decide +kernel
theorem d_M_settle_185 : decode c_M_settle 185 = .ok (.iastore, 1) := by decide +kernel
theorem d_M_settle_186 : decode c_M_settle 186 = .ok (.iinc 4 1, 3) := by decide +kernel
theorem d_M_settle_189 : decode c_M_settle 189 = .ok (.goto (-64), 3) := by decide +kernel
theorem d_M_settle_192 : decode c_M_settle 192 = .ok (.return_, 1) := by decide +kernel
set_option maxRecDepth 20000 in
set_option maxHeartbeats 4000000 in
theorem l_M_settle1 {E : kx_E} {w0 : va_W} {ma : Nat → Nat} {F : Nat → Int32} {B : Nat → Nat → Int32} {c : Nat} (hc : c < 24) {l s : List Nat} (hs24 : s.length ≤ 24) (hl : ∀ k, k < l.length → B 9 (24 * c + k) = nI (l.getD k 0)) (hL : LnR B s) (hli : ∀ v ∈ l, v < 2 ^ 31) (hsi : ∀ v ∈ s, v < 2 ^ 31) {z : kx_Z} {Q : kx_O → va_W → Prop}
    (hQ : ∀ w A b, Mdl E w ma F A → kx_off w0 w mdlN → (∀ j, j ≠ 9 → A j = B j) → (∀ i, (i < 24 * c ∨ 24 * c + 24 ≤ i) → A 9 i = B 9 i) → (∀ i, i < s.length → A 9 (24 * c + i) = nI (s.getD i 0)) → b < 2 → (b = 1 ↔ l = s) → kx_R E Y_M_settle z 88 [(0, .ref (ma 0)), (1, .int (nI c)), (2, .int (nI s.length)), (3, .int (nI b))] [] w 0 0 Q) :
    ∀ (m k b : Nat) (w : va_W) (A : Nat → Nat → Int32), m + k = s.length → b < 2 → (b = 1 ↔ sameI l s k) → Mdl E w ma F A → kx_off w0 w mdlN → (∀ j, j ≠ 9 → A j = B j) → (∀ i, (i < 24 * c + 0 ∨ 24 * c + 24 ≤ i) → A 9 i = B 9 i) → (∀ i, k ≤ i → i < 24 → A 9 (24 * c + i) = B 9 (24 * c + i)) → (∀ i, i < k → A 9 (24 * c + i) = nI (s.getD i 0)) → kx_R E Y_M_settle z 25 [(0, .ref (ma 0)), (1, .int (nI c)), (2, .int (nI s.length)), (3, .int (nI b)), (4, .int (nI k))] [] w 0 0 Q := by
  intro m
  induction m with
  | zero =>
    intro k b w A hk hb hbs hM hO hA h1 h2 h3
    have hk : k = s.length := by omega
    subst hk
    have hbe : b = 1 ↔ l = s := hbs.trans ⟨fun q => row_ext q.1.symm (fun j hj => q.2 j (by have := q.1; omega)), fun q => by rw [q]; exact ⟨rfl, fun _ _ => rfl⟩⟩
    have hQ9 := hQ w A b hM hO hA h1 h3 hb hbe
    clear h1 h2 h3 hbs hbe
    refine kx_iload d_M_settle_25 rfl ?_
    refine kx_iload_n d_M_settle_27 rfl ?_
    first | refine kx_icmp_ge_n 88 d_M_settle_28 (by decide) (by omega) (by omega) ?_ ?_ | refine kx_icmp_ge 88 d_M_settle_28 (by decide) ?_ ?_
    · intro h28
      exact kx_loc (L1 := [(0, .ref (ma 0)), (1, .int (nI c)), (2, .int (nI s.length)), (3, .int (nI b))]) ⟨rfl, rfl, rfl, rfl, trivial⟩ hQ9
    · intro h28
      exact absurd h28 (by omega)
  | succ m ih =>
    intro k b w A hk hb hbs hM hO hA h1 h2 h3
    have hks : k < s.length := by omega
    have hLk : ∀ f, up1 A 9 f 25 k = nI (s.getD k 0) := fun f => by rw [up1_n (by decide), hA 25 (by decide)]; exact hL k hks
    have hLk0 : A 25 k = nI (s.getD k 0) := by rw [hA 25 (by decide)]; exact hL k hks
    have vs := hsi _ (row_get s hks)
    have h9 : b = 1 → k < l.length ∧ A 9 (24 * c + k) = nI (l.getD k 0) ∧ l.getD k 0 < 2 ^ 31 := fun e => by
      have hk2 : k < l.length := by have := (hbs.mp e).1; omega
      exact ⟨hk2, (h2 k (Nat.le_refl k) (by omega)).trans (hl k hk2), hli _ (row_get l hk2)⟩
    have g0 : ∀ f, ∀ j, j ≠ 9 → up1 A 9 f j = B j := fun f j hj => by rw [up1_n hj]; exact hA j hj
    have g1 : ∀ v, ∀ i, (i < 24 * c + 0 ∨ 24 * c + 24 ≤ i) → up1 A 9 (upd (A 9) (24 * c + k) v) 9 i = B 9 i := fun v i hi => by rw [up1_s, upd_n (by omega)]; exact h1 i hi
    have g2 : ∀ v, ∀ i, k + 1 ≤ i → i < 24 → up1 A 9 (upd (A 9) (24 * c + k) v) 9 (24 * c + i) = B 9 (24 * c + i) := fun v i hi hi2 => by rw [up1_s, upd_n (by omega)]; exact h2 i (by omega) hi2
    have g3 : ∀ i, i < k + 1 → up1 A 9 (upd (A 9) (24 * c + k) (nI (s.getD k 0))) 9 (24 * c + i) = nI (s.getD i 0) := fun i hi => by
      rw [up1_s]
      by_cases e : i = k
      · subst e; rw [upd_s]
      · rw [upd_n (by omega)]; exact h3 i (by omega)
    have b1 : b = 1 → l.getD k 0 = s.getD k 0 → (1 = 1 ↔ sameI l s (k + 1)) := fun e q => ⟨fun _ => ⟨(hbs.mp e).1, fun i hi => by
      by_cases e2 : i = k
      · subst e2; exact q
      · exact (hbs.mp e).2 i (by omega)⟩, fun _ => rfl⟩
    have b0 : (b ≠ 1 ∨ l.getD k 0 ≠ s.getD k 0) → (0 = 1 ↔ sameI l s (k + 1)) := fun q => ⟨fun h => (by cases h), fun h => by
      rcases q with q | q
      · exact absurd (hbs.mpr ⟨h.1, fun i hi => h.2 i (by omega)⟩) q
      · exact absurd (h.2 k (by omega)) q⟩
    have hih := fun b w => ih (k + 1) b w (up1 A 9 (upd (A 9) (24 * c + k) (nI (s.getD k 0)))) (by omega)
    clear h1 h2 h3 hbs ih
    refine kx_iload d_M_settle_25 rfl ?_
    refine kx_iload_n d_M_settle_27 rfl ?_
    first | refine kx_icmp_ge_n 88 d_M_settle_28 (by decide) (by omega) (by omega) ?_ ?_ | refine kx_icmp_ge 88 d_M_settle_28 (by decide) ?_ ?_
    · intro h28
      exact absurd h28 (by omega)
    · intro h28
      refine kx_iload_n d_M_settle_31 rfl ?_
      refine kx_if_eq_n 61 d_M_settle_32 (by decide) (by omega) ?_ ?_
      · intro h32
        refine kx_iconst (nI 0) d_M_settle_61 (by decide) ?_
        refine kx_istore_n d_M_settle_62 (by decide) ?_
        refine kx_aload_n d_M_settle_63 rfl (by first | rfl | exact kx_rf _) ?_
        refine kx_get _ d_M_settle_64 f_M_38 hM.1 (by rfl) ?_
        refine kx_bipush (nI 24) d_M_settle_67 (by decide) ?_
        refine kx_iload_n d_M_settle_69 rfl ?_
        first | refine kx_imul _ d_M_settle_70 (pk_mul _ _) ?_ | refine kx_imul _ d_M_settle_70 rfl ?_
        refine kx_iload d_M_settle_71 rfl ?_
        first | refine kx_iadd _ d_M_settle_73 (nI_add _ _) ?_ | refine kx_iadd _ d_M_settle_73 rfl ?_
        refine kx_aload_n d_M_settle_74 rfl (by first | rfl | exact kx_rf _) ?_
        refine kx_get _ d_M_settle_75 f_M_86 hM.1 (by rfl) ?_
        refine kx_iload d_M_settle_78 rfl ?_
        refine kx_iald d_M_settle_80 hM.a25 (by omega) (by decide) ?_
        rw [hLk0]
        refine mA_put (j := 9) d_M_settle_81 hM hO (by decide) (len := 576) rfl (by decide) (by omega) (fun w hM hO => ?_)
        refine kx_iinc _ d_M_settle_82 rfl (by decide) (nI_1 _) ?_
        refine kx_goto 25 d_M_settle_85 (by decide) ?_
        first
          | (refine kx_loc (L1 := [(0, .ref (ma 0)), (1, .int (nI c)), (2, .int (nI s.length)), (3, .int (nI 1)), (4, .int (nI (k + 1)))]) ⟨rfl, rfl, rfl, rfl, rfl, trivial⟩ ?_
             exact hih 1 w (by decide) (b1 hb1 (by omega)) hM hO (g0 _) (g1 _) (g2 _) g3)
          | (refine kx_loc (L1 := [(0, .ref (ma 0)), (1, .int (nI c)), (2, .int (nI s.length)), (3, .int (nI 0)), (4, .int (nI (k + 1)))]) ⟨rfl, rfl, rfl, rfl, rfl, trivial⟩ ?_
             exact hih 0 w (by decide) (b0 (by first | exact Or.inl (by omega) | exact Or.inr (by omega))) hM hO (g0 _) (g1 _) (g2 _) g3)
      · intro h32
        have hb1 : b = 1 := by omega
        obtain ⟨p1, p2, p3⟩ := h9 hb1
        refine kx_aload_n d_M_settle_35 rfl (by first | rfl | exact kx_rf _) ?_
        refine kx_get _ d_M_settle_36 f_M_38 hM.1 (by rfl) ?_
        refine kx_bipush (nI 24) d_M_settle_39 (by decide) ?_
        refine kx_iload_n d_M_settle_41 rfl ?_
        first | refine kx_imul _ d_M_settle_42 (pk_mul _ _) ?_ | refine kx_imul _ d_M_settle_42 rfl ?_
        refine kx_iload d_M_settle_43 rfl ?_
        first | refine kx_iadd _ d_M_settle_45 (nI_add _ _) ?_ | refine kx_iadd _ d_M_settle_45 rfl ?_
        refine kx_iald d_M_settle_46 hM.a9 (by omega) (by decide) ?_
        rw [p2]
        refine kx_aload_n d_M_settle_47 rfl (by first | rfl | exact kx_rf _) ?_
        refine kx_get _ d_M_settle_48 f_M_86 hM.1 (by rfl) ?_
        refine kx_iload d_M_settle_51 rfl ?_
        refine kx_iald d_M_settle_53 hM.a25 (by omega) (by decide) ?_
        rw [hLk0]
        first | refine kx_icmp_ne_n 61 d_M_settle_54 (by decide) (by omega) (by omega) ?_ ?_ | refine kx_icmp_ne 61 d_M_settle_54 (by decide) ?_ ?_
        · intro h54
          refine kx_iconst (nI 0) d_M_settle_61 (by decide) ?_
          refine kx_istore_n d_M_settle_62 (by decide) ?_
          refine kx_aload_n d_M_settle_63 rfl (by first | rfl | exact kx_rf _) ?_
          refine kx_get _ d_M_settle_64 f_M_38 hM.1 (by rfl) ?_
          refine kx_bipush (nI 24) d_M_settle_67 (by decide) ?_
          refine kx_iload_n d_M_settle_69 rfl ?_
          first | refine kx_imul _ d_M_settle_70 (pk_mul _ _) ?_ | refine kx_imul _ d_M_settle_70 rfl ?_
          refine kx_iload d_M_settle_71 rfl ?_
          first | refine kx_iadd _ d_M_settle_73 (nI_add _ _) ?_ | refine kx_iadd _ d_M_settle_73 rfl ?_
          refine kx_aload_n d_M_settle_74 rfl (by first | rfl | exact kx_rf _) ?_
          refine kx_get _ d_M_settle_75 f_M_86 hM.1 (by rfl) ?_
          refine kx_iload d_M_settle_78 rfl ?_
          refine kx_iald d_M_settle_80 hM.a25 (by omega) (by decide) ?_
          rw [hLk0]
          refine mA_put (j := 9) d_M_settle_81 hM hO (by decide) (len := 576) rfl (by decide) (by omega) (fun w hM hO => ?_)
          refine kx_iinc _ d_M_settle_82 rfl (by decide) (nI_1 _) ?_
          refine kx_goto 25 d_M_settle_85 (by decide) ?_
          first
            | (refine kx_loc (L1 := [(0, .ref (ma 0)), (1, .int (nI c)), (2, .int (nI s.length)), (3, .int (nI 1)), (4, .int (nI (k + 1)))]) ⟨rfl, rfl, rfl, rfl, rfl, trivial⟩ ?_
               exact hih 1 w (by decide) (b1 hb1 (by omega)) hM hO (g0 _) (g1 _) (g2 _) g3)
            | (refine kx_loc (L1 := [(0, .ref (ma 0)), (1, .int (nI c)), (2, .int (nI s.length)), (3, .int (nI 0)), (4, .int (nI (k + 1)))]) ⟨rfl, rfl, rfl, rfl, rfl, trivial⟩ ?_
               exact hih 0 w (by decide) (b0 (by first | exact Or.inl (by omega) | exact Or.inr (by omega))) hM hO (g0 _) (g1 _) (g2 _) g3)
        · intro h54
          refine kx_iconst (nI 1) d_M_settle_57 (by decide) ?_
          refine kx_goto 62 d_M_settle_58 (by decide) ?_
          refine kx_istore_n d_M_settle_62 (by decide) ?_
          refine kx_aload_n d_M_settle_63 rfl (by first | rfl | exact kx_rf _) ?_
          refine kx_get _ d_M_settle_64 f_M_38 hM.1 (by rfl) ?_
          refine kx_bipush (nI 24) d_M_settle_67 (by decide) ?_
          refine kx_iload_n d_M_settle_69 rfl ?_
          first | refine kx_imul _ d_M_settle_70 (pk_mul _ _) ?_ | refine kx_imul _ d_M_settle_70 rfl ?_
          refine kx_iload d_M_settle_71 rfl ?_
          first | refine kx_iadd _ d_M_settle_73 (nI_add _ _) ?_ | refine kx_iadd _ d_M_settle_73 rfl ?_
          refine kx_aload_n d_M_settle_74 rfl (by first | rfl | exact kx_rf _) ?_
          refine kx_get _ d_M_settle_75 f_M_86 hM.1 (by rfl) ?_
          refine kx_iload d_M_settle_78 rfl ?_
          refine kx_iald d_M_settle_80 hM.a25 (by omega) (by decide) ?_
          rw [hLk0]
          refine mA_put (j := 9) d_M_settle_81 hM hO (by decide) (len := 576) rfl (by decide) (by omega) (fun w hM hO => ?_)
          refine kx_iinc _ d_M_settle_82 rfl (by decide) (nI_1 _) ?_
          refine kx_goto 25 d_M_settle_85 (by decide) ?_
          first
            | (refine kx_loc (L1 := [(0, .ref (ma 0)), (1, .int (nI c)), (2, .int (nI s.length)), (3, .int (nI 1)), (4, .int (nI (k + 1)))]) ⟨rfl, rfl, rfl, rfl, rfl, trivial⟩ ?_
               exact hih 1 w (by decide) (b1 hb1 (by omega)) hM hO (g0 _) (g1 _) (g2 _) g3)
            | (refine kx_loc (L1 := [(0, .ref (ma 0)), (1, .int (nI c)), (2, .int (nI s.length)), (3, .int (nI 0)), (4, .int (nI (k + 1)))]) ⟨rfl, rfl, rfl, rfl, rfl, trivial⟩ ?_
               exact hih 0 w (by decide) (b0 (by first | exact Or.inl (by omega) | exact Or.inr (by omega))) hM hO (g0 _) (g1 _) (g2 _) g3)
def agG (c b k : Nat) (f : Nat → Int32) : Nat → Int32 := fun i => if 24 * c ≤ i ∧ i < 24 * c + k then (if i = 24 * c + c then nI 0 else if b = 1 ∧ ¬ f i = -1 then f i + nI 1 else -1) else f i
theorem agG_0 (c b : Nat) (f : Nat → Int32) : agG c b 0 f = f := by
  funext i
  unfold agG
  rw [if_neg (by omega)]
theorem agG_g (c b k : Nat) (f : Nat → Int32) : agG c b k f (24 * c + k) = f (24 * c + k) := by
  unfold agG
  rw [if_neg (by omega)]
theorem agG_s (c b k : Nat) (f : Nat → Int32) {v : Int32} (hv : v = if k = c then nI 0 else if b = 1 ∧ ¬ f (24 * c + k) = -1 then f (24 * c + k) + nI 1 else -1) : upd (agG c b k f) (24 * c + k) v = agG c b (k + 1) f := by
  subst hv
  funext i
  by_cases h : i = 24 * c + k
  · subst h
    rw [upd_s]
    unfold agG
    rw [if_pos (show 24 * c ≤ 24 * c + k ∧ 24 * c + k < 24 * c + (k + 1) from ⟨by omega, by omega⟩)]
    by_cases e : k = c
    · rw [if_pos e, if_pos (show 24 * c + k = 24 * c + c by omega)]
    · rw [if_neg e, if_neg (show ¬ 24 * c + k = 24 * c + c by omega)]
  · rw [upd_n h]
    unfold agG
    by_cases e : 24 * c ≤ i ∧ i < 24 * c + k
    · rw [if_pos e, if_pos (show 24 * c ≤ i ∧ i < 24 * c + (k + 1) from ⟨e.1, by omega⟩)]
    · rw [if_neg e, if_neg (show ¬ (24 * c ≤ i ∧ i < 24 * c + (k + 1)) by omega)]
set_option maxRecDepth 20000 in
set_option maxHeartbeats 4000000 in
theorem l_M_settle2 {E : kx_E} {w0 : va_W} {ma : Nat → Nat} {F : Nat → Int32} {A : Nat → Nat → Int32} {c b : Nat} (hc : c < 24) (hb : b < 2) {z : kx_Z} {Q : kx_O → va_W → Prop} (hQ : ∀ w, Mdl E w ma F (up1 A 13 (agG c b 24 (A 13))) → kx_off w0 w mdlN → Q (.inl none) w) :
    ∀ (m k : Nat) (w : va_W), m + k = 24 → Mdl E w ma F (up1 A 13 (agG c b k (A 13))) → kx_off w0 w mdlN → kx_R E Y_M_settle z 125 [(0, .ref (ma 0)), (1, .int (nI c)), (3, .int (nI b)), (4, .int (nI k))] [] w 0 0 Q := by
  intro m
  induction m with
  | zero =>
    intro k w hk hM hO
    have hk : k = 24 := by omega
    subst hk
    refine kx_iload d_M_settle_125 rfl ?_
    refine kx_bipush (nI 24) d_M_settle_127 (by decide) ?_
    first | refine kx_icmp_ge_n 192 d_M_settle_129 (by decide) (by omega) (by omega) ?_ ?_ | refine kx_icmp_ge 192 d_M_settle_129 (by decide) ?_ ?_
    · intro h129
      refine kx_vret d_M_settle_192 rfl (by decide) (by decide) ?_
      exact hQ w hM hO
    · intro h129
      exact absurd h129 (by omega)
  | succ m ih =>
    intro k w hk hM hO
    have hsA : k = c → upd (agG c b k (A 13)) (24 * c + k) (nI 0) = agG c b (k + 1) (A 13) := fun e => agG_s c b k (A 13) (by rw [if_pos e])
    have hsB : ¬ k = c → b = 1 → ¬ A 13 (24 * c + k) = -1 → upd (agG c b k (A 13)) (24 * c + k) (A 13 (24 * c + k) + nI 1) = agG c b (k + 1) (A 13) := fun e e1 e2 => agG_s c b k (A 13) (by rw [if_neg e, if_pos ⟨e1, e2⟩])
    have hsC : ¬ k = c → (b = 0 ∨ A 13 (24 * c + k) = -1) → upd (agG c b k (A 13)) (24 * c + k) (-1) = agG c b (k + 1) (A 13) := fun e e1 => agG_s c b k (A 13) (by rw [if_neg e, if_neg (fun q => by rcases e1 with e1 | e1; have := q.1; omega; exact q.2 e1)])
    have hg := agG_g c b k (A 13)
    refine kx_iload d_M_settle_125 rfl ?_
    refine kx_bipush (nI 24) d_M_settle_127 (by decide) ?_
    first | refine kx_icmp_ge_n 192 d_M_settle_129 (by decide) (by omega) (by omega) ?_ ?_ | refine kx_icmp_ge 192 d_M_settle_129 (by decide) ?_ ?_
    · intro h129
      exact absurd h129 (by omega)
    · intro h129
      refine kx_bipush (nI 24) d_M_settle_132 (by decide) ?_
      refine kx_iload_n d_M_settle_134 rfl ?_
      first | refine kx_imul _ d_M_settle_135 (pk_mul _ _) ?_ | refine kx_imul _ d_M_settle_135 rfl ?_
      refine kx_iload d_M_settle_136 rfl ?_
      first | refine kx_iadd _ d_M_settle_138 (nI_add _ _) ?_ | refine kx_iadd _ d_M_settle_138 rfl ?_
      refine kx_istore d_M_settle_139 (by decide) ?_
      refine kx_aload_n d_M_settle_141 rfl (by first | rfl | exact kx_rf _) ?_
      refine kx_get _ d_M_settle_142 f_M_50 hM.1 (by rfl) ?_
      refine kx_iload d_M_settle_145 rfl ?_
      refine kx_iload d_M_settle_147 rfl ?_
      refine kx_iload_n d_M_settle_149 rfl ?_
      first | refine kx_icmp_ne_n 157 d_M_settle_150 (by decide) (by omega) (by omega) ?_ ?_ | refine kx_icmp_ne 157 d_M_settle_150 (by decide) ?_ ?_
      · intro h150
        refine kx_iload_n d_M_settle_157 rfl ?_
        first | refine kx_if_eq_n 184 d_M_settle_158 (by decide) (by omega) ?_ ?_ | refine kx_if_eq 184 d_M_settle_158 (by decide) ?_ ?_
        · intro h158
          refine kx_iconst (-1) d_M_settle_184 (by decide) ?_
          refine mA_put (j := 13) d_M_settle_185 hM hO (by decide) (len := 576) rfl (by decide) (by omega) (fun w hM hO => ?_)
          first
            | rw [up1_s, up1_up1, hsA h150] at hM
            | rw [up1_s, up1_up1, hsB h150 (by omega) h169] at hM
            | rw [up1_s, up1_up1, hsC h150 (Or.inr h169)] at hM
            | rw [up1_s, up1_up1, hsC h150 (Or.inl h158)] at hM
          refine kx_iinc _ d_M_settle_186 rfl (by decide) (nI_1 _) ?_
          refine kx_goto 125 d_M_settle_189 (by decide) ?_
          refine kx_loc (L1 := [(0, .ref (ma 0)), (1, .int (nI c)), (3, .int (nI b)), (4, .int (nI (k + 1)))]) ⟨rfl, rfl, rfl, rfl, trivial⟩ ?_
          exact ih (k + 1) w (by omega) hM hO
        · intro h158
          refine kx_aload_n d_M_settle_161 rfl (by first | rfl | exact kx_rf _) ?_
          refine kx_get _ d_M_settle_162 f_M_50 hM.1 (by rfl) ?_
          refine kx_iload d_M_settle_165 rfl ?_
          refine kx_iald d_M_settle_167 hM.a13 (by omega) (by decide) ?_
          rw [up1_s, hg]
          refine kx_iconst (-1) d_M_settle_168 (by decide) ?_
          refine kx_icmp_eq 184 d_M_settle_169 (by decide) ?_ ?_
          · intro h169
            refine kx_iconst (-1) d_M_settle_184 (by decide) ?_
            refine mA_put (j := 13) d_M_settle_185 hM hO (by decide) (len := 576) rfl (by decide) (by omega) (fun w hM hO => ?_)
            first
              | rw [up1_s, up1_up1, hsA h150] at hM
              | rw [up1_s, up1_up1, hsB h150 (by omega) h169] at hM
              | rw [up1_s, up1_up1, hsC h150 (Or.inr h169)] at hM
              | rw [up1_s, up1_up1, hsC h150 (Or.inl h158)] at hM
            refine kx_iinc _ d_M_settle_186 rfl (by decide) (nI_1 _) ?_
            refine kx_goto 125 d_M_settle_189 (by decide) ?_
            refine kx_loc (L1 := [(0, .ref (ma 0)), (1, .int (nI c)), (3, .int (nI b)), (4, .int (nI (k + 1)))]) ⟨rfl, rfl, rfl, rfl, trivial⟩ ?_
            exact ih (k + 1) w (by omega) hM hO
          · intro h169
            refine kx_aload_n d_M_settle_172 rfl (by first | rfl | exact kx_rf _) ?_
            refine kx_get _ d_M_settle_173 f_M_50 hM.1 (by rfl) ?_
            refine kx_iload d_M_settle_176 rfl ?_
            refine kx_iald d_M_settle_178 hM.a13 (by omega) (by decide) ?_
            rw [up1_s, hg]
            refine kx_iconst (nI 1) d_M_settle_179 (by decide) ?_
            refine kx_iadd _ d_M_settle_180 rfl ?_
            refine kx_goto 185 d_M_settle_181 (by decide) ?_
            refine mA_put (j := 13) d_M_settle_185 hM hO (by decide) (len := 576) rfl (by decide) (by omega) (fun w hM hO => ?_)
            first
              | rw [up1_s, up1_up1, hsA h150] at hM
              | rw [up1_s, up1_up1, hsB h150 (by omega) h169] at hM
              | rw [up1_s, up1_up1, hsC h150 (Or.inr h169)] at hM
              | rw [up1_s, up1_up1, hsC h150 (Or.inl h158)] at hM
            refine kx_iinc _ d_M_settle_186 rfl (by decide) (nI_1 _) ?_
            refine kx_goto 125 d_M_settle_189 (by decide) ?_
            refine kx_loc (L1 := [(0, .ref (ma 0)), (1, .int (nI c)), (3, .int (nI b)), (4, .int (nI (k + 1)))]) ⟨rfl, rfl, rfl, rfl, trivial⟩ ?_
            exact ih (k + 1) w (by omega) hM hO
      · intro h150
        refine kx_iconst (nI 0) d_M_settle_153 (by decide) ?_
        refine kx_goto 185 d_M_settle_154 (by decide) ?_
        refine mA_put (j := 13) d_M_settle_185 hM hO (by decide) (len := 576) rfl (by decide) (by omega) (fun w hM hO => ?_)
        first
          | rw [up1_s, up1_up1, hsA h150] at hM
          | rw [up1_s, up1_up1, hsB h150 (by omega) h169] at hM
          | rw [up1_s, up1_up1, hsC h150 (Or.inr h169)] at hM
          | rw [up1_s, up1_up1, hsC h150 (Or.inl h158)] at hM
        refine kx_iinc _ d_M_settle_186 rfl (by decide) (nI_1 _) ?_
        refine kx_goto 125 d_M_settle_189 (by decide) ?_
        refine kx_loc (L1 := [(0, .ref (ma 0)), (1, .int (nI c)), (3, .int (nI b)), (4, .int (nI (k + 1)))]) ⟨rfl, rfl, rfl, rfl, trivial⟩ ?_
        exact ih (k + 1) w (by omega) hM hO
set_option maxRecDepth 20000 in
set_option maxHeartbeats 4000000 in
theorem m_M_settle {E : kx_E} {w : va_W} {ma : Nat → Nat} {F : Nat → Int32} {A : Nat → Nat → Int32} (hM : Mdl E w ma F A) {n : Nat} {X : Fx} {D : Dy} (hR : ModR n X D A) (hX : WfX n X) (hD : WfD n D) (hn : F 1 = nI n) (hz : Bz A) {D0 : Dy} (hP : OldR n D0 A) {c : Nat} (hc : c < n) : kx_S E Y_M_settle [.ref (ma 0), .int (nI c)] w (MP E w ma F (fun A1 => ModR n X (stD X D c) A1 ∧ OldR n D0 A1 ∧ Bz A1) none) := by
  refine kx_go (by decide) rfl rfl (Nat.le_of_ble_eq_true rfl) (kx_cc rfl (kx_cc rfl kx_c0)) (fun z => ?_)
  have hO : kx_off w w mdlN := kx_off.rf
  have h24 := hX.1
  obtain ⟨w0, hw0⟩ : ∃ w0, w0 = w := ⟨_, rfl⟩
  have hO : kx_off w0 w mdlN := by rw [hw0]; exact kx_off.rf
  refine kx_q9 (Q := MP E w0 ma F (fun A1 => ModR n X (stD X D c) A1 ∧ OldR n D0 A1 ∧ Bz A1) none) (by rw [hw0]) ?_
  have hd := hR.dis c hc
  have bd := (hD.2.2 c hc).1
  have bd24 := bd.1
  have hsm := seeM_it (X := X) hD hc
  have hch := hR.chs c hc
  obtain ⟨s, hse⟩ : ∃ s, s = seeM X D c := ⟨_, rfl⟩
  rw [← hse] at hsm
  have hs24 := hsm.1
  have hli : ∀ v ∈ dDi D c, v < 2 ^ 31 := fun v hv => by have := bd.2 v hv; omega
  have hsi : ∀ v ∈ s, v < 2 ^ 31 := fun v hv => by have := hsm.2 v hv; omega
  have k25 : ∀ (w : va_W) (A1 : Nat → Nat → Int32) (b : Nat), Mdl E w ma F A1 → kx_off w0 w mdlN → lnO A A1 ∧ LnR A1 s → b < 2 → (b = 1 ↔ sameI (dDi D c) s 0) → kx_R E Y_M_settle z 25 [(0, .ref (ma 0)), (1, .int (nI c)), (2, .int (nI s.length)), (3, .int (nI b)), (4, .int (nI 0))] [] w 0 0 (MP E w0 ma F (fun A1 => ModR n X (stD X D c) A1 ∧ OldR n D0 A1 ∧ Bz A1) none) := by
    intro w A1 b hM hO hP9 hb hbs
    refine l_M_settle1 (B := A1) (c := c) (by omega) hs24 (fun k hk => by rw [hP9.1 9 (by decide) (by decide)]; exact hd.2 k hk) hP9.2 hli hsi (fun w A2 b hM hO f0 f1 f2 hb hbe => ?_) s.length 0 b w A1 rfl hb hbs hM hO (fun _ _ => rfl) (fun _ _ => rfl) (fun _ _ _ => rfl) (fun i hi => absurd hi (Nat.not_lt_zero _))
    have c16 : ∀ f, up1 A2 10 f 16 c = dCh D c := fun f => by rw [up1_n (by decide), f0 16 (by decide), hP9.1 16 (by decide) (by decide)]; exact hch
    have k125 : ∀ (w : va_W) (v : Int32), Mdl E w ma F (up1 (up1 A2 10 (upd (A2 10) c (nI s.length))) 16 (upd (A2 16) c v)) → kx_off w0 w mdlN → v = (if dDi D c = s then dCh D c else dCh D c + nI 1) → kx_R E Y_M_settle z 125 [(0, .ref (ma 0)), (1, .int (nI c)), (3, .int (nI b)), (4, .int (nI 0))] [] w 0 0 (MP E w0 ma F (fun A1 => ModR n X (stD X D c) A1 ∧ OldR n D0 A1 ∧ Bz A1) none) := by
      intro w v hM hO hv
      obtain ⟨A3, hA3⟩ : ∃ A3, A3 = up1 (up1 A2 10 (upd (A2 10) c (nI s.length))) 16 (upd (A2 16) c v) := ⟨_, rfl⟩
      rw [← hA3] at hM
      refine l_M_settle2 (A := A3) (c := c) (b := b) (by omega) hb (fun w hM hO => ?_) 24 0 w rfl (by rw [agG_0, up1_self]; exact hM) hO
      have e10 : A3 10 = upd (A 10) c (nI s.length) := by rw [hA3, up1_n (by decide), up1_s, f0 10 (by decide), hP9.1 10 (by decide) (by decide)]
      have e16 : A3 16 = upd (A 16) c v := by rw [hA3, up1_s, f0 16 (by decide), hP9.1 16 (by decide) (by decide)]
      have e9 : A3 9 = A2 9 := by rw [hA3, up1_n (by decide), up1_n (by decide)]
      have eo : ∀ j, j ≠ 9 → j ≠ 10 → j ≠ 16 → j ≠ 24 → j ≠ 25 → A3 j = A j := fun j q9 q10 q16 q24 q25 => by rw [hA3, up1_n q16, up1_n q10, f0 j q9, hP9.1 j q24 q25]
      have e13 : A3 13 = A 13 := eo 13 (by decide) (by decide) (by decide) (by decide) (by decide)
      clear hA3
      refine ⟨rfl, _, hM, ⟨?_, ?_, ?_⟩, hO⟩
      · unfold stD
        rw [← hse, ← hv]
        have hu := hR.uCar (A1 := up1 A3 13 (agG c b 24 (A3 13))) hD (c := c) (l := s) (g := agN D c s) (y := dBy D c) (r := dCr D c) (h := v) (fun j _ q9 q10 q13 q14 q15 q16 => ?_) (fun i hi => ?_) (fun x hx => ?_) (fun i hi => ?_) (fun i hi => ?_) (fun x hx => ?_) (fun x hx => ?_) ⟨?_, fun k hk => ?_⟩ (fun k hk => ?_) (fun k i hk hi => ?_) ?_ ?_
        · rw [up1_self, up1_self] at hu
          exact hu
        · rw [up1_n q13, eo j q9 q10 q16 (by omega) (by omega)]
        · rw [up1_n (by decide), e9, f1 i hi, hP9.1 9 (by decide) (by decide)]
        · rw [up1_n (by decide), e10, upd_n hx]
        · rw [up1_s, e13]; unfold agG; rw [if_neg (by omega)]
        · rw [up1_n (by decide), eo 14 (by decide) (by decide) (by decide) (by decide) (by decide)]
        · rw [up1_n (by decide), eo 15 (by decide) (by decide) (by decide) (by decide) (by decide)]
        · rw [up1_n (by decide), e16, upd_n hx]
        · rw [up1_n (by decide), e10, upd_s]
        · rw [up1_n (by decide), e9]; exact f2 k hk
        · rw [up1_s, e13]
          unfold agG agN
          rw [if_pos ⟨by omega, by omega⟩, hR.ags c k hc hk]
          by_cases e1 : k = c
          · rw [if_pos e1, if_pos (by omega)]
          · rw [if_neg e1, if_neg (by omega)]
            by_cases e2 : dDi D c = s ∧ ¬ dAg D c k = -1
            · rw [if_pos e2, if_pos ⟨hbe.mpr e2.1, e2.2⟩]
            · rw [if_neg e2, if_neg (fun q => e2 ⟨hbe.mp q.1, q.2⟩)]
        · rw [up1_n (by decide), eo 14 (by decide) (by decide) (by decide) (by decide) (by decide)]; exact hR.bys c k i hc hk hi
        · rw [up1_n (by decide), eo 15 (by decide) (by decide) (by decide) (by decide) (by decide)]; exact hR.crs c hc
        · rw [up1_n (by decide), e16, upd_s]
      · exact hP.fs (fun j q9 q10 q13 _ _ q16 q24 q25 => by rw [up1_n q13, eo j q9 q10 q16 q24 q25])
      · intro i hi
        rw [up1_n (by decide), eo 7 (by decide) (by decide) (by decide) (by decide) (by decide)]
        exact hz i hi
    refine kx_aload_n d_M_settle_88 rfl (by first | rfl | exact kx_rf _) ?_
    refine kx_get _ d_M_settle_89 f_M_41 hM.1 (by rfl) ?_
    refine kx_iload_n d_M_settle_92 rfl ?_
    refine kx_iload_n d_M_settle_93 rfl ?_
    refine mA_put (j := 10) d_M_settle_94 hM hO (by decide) (len := 24) rfl (by decide) (by omega) (fun w hM hO => ?_)
    refine kx_aload_n d_M_settle_95 rfl (by first | rfl | exact kx_rf _) ?_
    refine kx_get _ d_M_settle_96 f_M_59 hM.1 (by rfl) ?_
    refine kx_iload_n d_M_settle_99 rfl ?_
    refine kx_iload_n d_M_settle_100 rfl ?_
    first | refine kx_if_eq_n 113 d_M_settle_101 (by decide) (by omega) ?_ ?_ | refine kx_if_eq 113 d_M_settle_101 (by decide) ?_ ?_
    · intro h101
      refine kx_aload_n d_M_settle_113 rfl (by first | rfl | exact kx_rf _) ?_
      refine kx_get _ d_M_settle_114 f_M_59 hM.1 (by rfl) ?_
      refine kx_iload_n d_M_settle_117 rfl ?_
      refine kx_iald d_M_settle_118 hM.a16 (by omega) (by decide) ?_
      rw [c16]
      refine kx_iconst (nI 1) d_M_settle_119 (by decide) ?_
      refine kx_iadd _ d_M_settle_120 rfl ?_
      refine mA_put (j := 16) d_M_settle_121 hM hO (by decide) (len := 24) rfl (by decide) (by omega) (fun w hM hO => ?_)
      refine kx_iconst (nI 0) d_M_settle_122 (by decide) ?_
      refine kx_istore d_M_settle_123 (by decide) ?_
      refine kx_loc (L1 := [(0, .ref (ma 0)), (1, .int (nI c)), (3, .int (nI b)), (4, .int (nI 0))]) ⟨rfl, rfl, rfl, rfl, trivial⟩ ?_
      first
        | exact k125 w (dCh D c) hM hO (by rw [if_pos (hbe.mp (by omega))])
        | exact k125 w (dCh D c + nI 1) hM hO (by rw [if_neg (fun q => by have := hbe.mpr q; omega)])
    · intro h101
      refine kx_aload_n d_M_settle_104 rfl (by first | rfl | exact kx_rf _) ?_
      refine kx_get _ d_M_settle_105 f_M_59 hM.1 (by rfl) ?_
      refine kx_iload_n d_M_settle_108 rfl ?_
      refine kx_iald d_M_settle_109 hM.a16 (by omega) (by decide) ?_
      rw [c16]
      refine kx_goto 121 d_M_settle_110 (by decide) ?_
      refine mA_put (j := 16) d_M_settle_121 hM hO (by decide) (len := 24) rfl (by decide) (by omega) (fun w hM hO => ?_)
      refine kx_iconst (nI 0) d_M_settle_122 (by decide) ?_
      refine kx_istore d_M_settle_123 (by decide) ?_
      refine kx_loc (L1 := [(0, .ref (ma 0)), (1, .int (nI c)), (3, .int (nI b)), (4, .int (nI 0))]) ⟨rfl, rfl, rfl, rfl, trivial⟩ ?_
      first
        | exact k125 w (dCh D c) hM hO (by rw [if_pos (hbe.mp (by omega))])
        | exact k125 w (dCh D c + nI 1) hM hO (by rw [if_neg (fun q => by have := hbe.mpr q; omega)])
  refine kx_aload_n d_M_settle_0 rfl (by first | rfl | exact kx_rf _) ?_
  refine kx_iload_n d_M_settle_1 rfl ?_
  refine kx_callV (as := [.int (nI c)]) (rest := []) d_M_settle_2 v_M_129 rfl hM.1 rfl rfl (by decide) (by decide) (Nat.le_of_ble_eq_true rfl) (by decide) (by decide) rfl (m_M_seen hM hR hX hD hn hc) (fun X w1 h => by cases h.1) (fun v w hq9 => ?_)
  obtain ⟨hv, A1, hM, hP9, hO9⟩ := hq9
  cases hv
  have hO := hO.tr hO9 (fun _ h => h) (fun _ h => h)
  rw [← hse] at hP9 ⊢
  refine kx_stk (st1 := [.int (nI s.length)]) rfl ?_
  refine kx_istore_n d_M_settle_5 (by decide) ?_
  refine kx_iload_n d_M_settle_6 rfl ?_
  refine kx_aload_n d_M_settle_7 rfl (by first | rfl | exact kx_rf _) ?_
  refine kx_get _ d_M_settle_8 f_M_41 hM.1 (by rfl) ?_
  refine kx_iload_n d_M_settle_11 rfl ?_
  refine kx_iald d_M_settle_12 hM.a10 (by omega) (by decide) ?_
  rw [hP9.1 10 (by decide) (by decide), hd.1]
  first | refine kx_icmp_ne_n 20 d_M_settle_13 (by decide) (by omega) (by omega) ?_ ?_ | refine kx_icmp_ne 20 d_M_settle_13 (by decide) ?_ ?_
  · intro h13
    refine kx_iconst (nI 0) d_M_settle_20 (by decide) ?_
    refine kx_istore_n d_M_settle_21 (by decide) ?_
    refine kx_iconst (nI 0) d_M_settle_22 (by decide) ?_
    refine kx_istore d_M_settle_23 (by decide) ?_
    first
      | (have hbs : 1 = 1 ↔ sameI (dDi D c) s 0 := ⟨fun _ => ⟨by omega, fun i hi => absurd hi (Nat.not_lt_zero _)⟩, fun _ => rfl⟩
         refine kx_loc (L1 := [(0, .ref (ma 0)), (1, .int (nI c)), (2, .int (nI s.length)), (3, .int (nI 1)), (4, .int (nI 0))]) ⟨rfl, rfl, rfl, rfl, rfl, trivial⟩ ?_
         exact k25 w A1 1 hM hO hP9 (by decide) hbs)
      | (have hbs : 0 = 1 ↔ sameI (dDi D c) s 0 := ⟨fun h => (by cases h), fun h => absurd h.1 (by omega)⟩
         refine kx_loc (L1 := [(0, .ref (ma 0)), (1, .int (nI c)), (2, .int (nI s.length)), (3, .int (nI 0)), (4, .int (nI 0))]) ⟨rfl, rfl, rfl, rfl, rfl, trivial⟩ ?_
         exact k25 w A1 0 hM hO hP9 (by decide) hbs)
  · intro h13
    refine kx_iconst (nI 1) d_M_settle_16 (by decide) ?_
    refine kx_goto 21 d_M_settle_17 (by decide) ?_
    refine kx_istore_n d_M_settle_21 (by decide) ?_
    refine kx_iconst (nI 0) d_M_settle_22 (by decide) ?_
    refine kx_istore d_M_settle_23 (by decide) ?_
    first
      | (have hbs : 1 = 1 ↔ sameI (dDi D c) s 0 := ⟨fun _ => ⟨by omega, fun i hi => absurd hi (Nat.not_lt_zero _)⟩, fun _ => rfl⟩
         refine kx_loc (L1 := [(0, .ref (ma 0)), (1, .int (nI c)), (2, .int (nI s.length)), (3, .int (nI 1)), (4, .int (nI 0))]) ⟨rfl, rfl, rfl, rfl, rfl, trivial⟩ ?_
         exact k25 w A1 1 hM hO hP9 (by decide) hbs)
      | (have hbs : 0 = 1 ↔ sameI (dDi D c) s 0 := ⟨fun h => (by cases h), fun h => absurd h.1 (by omega)⟩
         refine kx_loc (L1 := [(0, .ref (ma 0)), (1, .int (nI c)), (2, .int (nI s.length)), (3, .int (nI 0)), (4, .int (nI 0))]) ⟨rfl, rfl, rfl, rfl, rfl, trivial⟩ ?_
         exact k25 w A1 0 hM hO hP9 (by decide) hbs)
