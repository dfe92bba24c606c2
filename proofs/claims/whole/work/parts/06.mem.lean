section KXM
variable {E : kx_E} {Y : kx_Y} {z : kx_Z} {pc : Nat} {L : kx_L} {st : List Value} {w : va_W} {kc ks : Nat} {Q : kx_O → va_W → Prop}
/-- the place k of the things of number ci, as the pool of own names it at idx -/
def kx_F (own : String) (idx ci k : Nat) : Prop := ∃ (C : String) (T : u_T) (N : Nat), vwCl[ci]? = some (C, T, N) ∧ k < N ∧ (∀ c ∈ u_ws C T N, c ∈ kx_WS) ∧ Cond.fieldLink own idx (T k).1 (T k).2.1 (T k).2.2.1 ∈ kx_WS
/-- a value that may be written there -/
def kx_P (ci k : Nat) (fin : Bool) (v : Value) : Prop := ∃ (C : String) (T : u_T) (N : Nat) (ty0 : Nat → FieldType) (ty : FieldType), vwCl[ci]? = some (C, T, N) ∧ (∀ k, k < N → parseFieldDescriptor (T k).2.2.1 = some (ty0 k)) ∧ (∀ a, a < N → ∀ b, b < N → a ≠ b → (T a).2.1 ≠ (T b).2.1) ∧ (T k).2.2.2 = fin ∧ (fin = true → (T k).1 = C) ∧ parseFieldDescriptor (T k).2.2.1 = some ty ∧ narrow ty v = v ∧ fits ty v = true
theorem kx_get {idx ci k x a : Nat} {fs : List Value} (v : Value) (hd : decode Y.1 pc = .ok (.getfield idx, 3)) (hf : kx_F Y.2.2.1 idx ci k) (hw : w[x]? = some (a, .inr (ci, fs))) (hv : fs[k]? = some v)
    (kk : kx_R E Y z (pc + 3) L (v :: st) w kc ks Q) : kx_R E Y z pc L (.ref a :: st) w kc ks Q := by
  intro hC H ls locs hl hP hD hS
  obtain ⟨C, T, N, h1, h2, h3, h4⟩ := hf
  exact va_get hC.1 hC.2.1 hC.2.2.2.2.1 h3 hC.2.2.2.1 hC.2.2.2.2.2.1 hP x hw h1 k h2 (hC.2.2.2.2.1 _ h4) (fun _ h9 => h9) hv hd (kk hC H ls locs hl hP hD hS)
theorem kx_put {idx ci k x a : Nat} {fs : List Value} {v : Value} (hd : decode Y.1 pc = .ok (.putfield idx, 3)) (hf : kx_F Y.2.2.1 idx ci k) (hp : kx_P ci k false v) (hw : w[x]? = some (a, .inr (ci, fs))) (hl9 : k < fs.length)
    (kk : kx_R E Y z (pc + 3) L st (w.set x (a, .inr (ci, fs.set k v))) kc ks Q) : kx_R E Y z pc L (v :: .ref a :: st) w kc ks Q := by
  intro hC H ls locs hl hP hD hS
  obtain ⟨C, T, N, h1, h2, h3, h4⟩ := hf
  obtain ⟨C1, T1, N1, ty0, ty, g1, g2, g3, g4, g5, g6, g7, g8⟩ := hp
  cases Option.some.inj (h1.symm.trans g1)
  exact va_put hC.1 hC.2.1 hC.2.2.2.2.1 h3 ty0 g2 g3 hC.2.2.2.1 hC.2.2.2.2.2.1 hP hD hS x hw h1 k h2 (hC.2.2.2.2.1 _ h4) (fun _ h9 => h9) g4 g6 g7 g8 hl9 hd (fun H1 locs1 hP1 hD1 hS1 => kk hC H1 ls locs1 hl hP1 hD1 hS1)
theorem kx_putF {idx ci k x a : Nat} {fs : List Value} {v : Value} {C : String} {T : u_T} {N : Nat} (hd : decode Y.1 pc = .ok (.putfield idx, 3)) (hf : kx_F Y.2.2.1 idx ci k) (hp : kx_P ci k true v) (hc : vwCl[ci]? = some (C, T, N)) (hown : C = Y.2.2.1) (hin : Y.2.2.2.2.1.name = "<init>") (hw : w[x]? = some (a, .inr (ci, fs))) (hl9 : k < fs.length)
    (kk : kx_R E Y z (pc + 3) L st (w.set x (a, .inr (ci, fs.set k v))) kc ks Q) : kx_R E Y z pc L (v :: .ref a :: st) w kc ks Q := by
  intro hC H ls locs hl hP hD hS
  obtain ⟨C, T, N, h1, h2, h3, h4⟩ := hf
  obtain ⟨C1, T1, N1, ty0, ty, g1, g2, g3, g4, g5, g6, g7, g8⟩ := hp
  cases Option.some.inj (h1.symm.trans g1)
  cases Option.some.inj (h1.symm.trans hc)
  exact va_putF hC.1 hC.2.1 hC.2.2.2.2.1 h3 ty0 g2 g3 hC.2.2.2.1 hC.2.2.2.2.2.1 hP hD hS x hw h1 k h2 (hC.2.2.2.2.1 _ h4) (fun _ h9 => h9) g4 (hC.2.2.2.2.2.2.2.2.2.1.trans hin) ((g5 rfl).trans hown) g6 g7 g8 hl9 hd (fun H1 locs1 hP1 hD1 hS1 => kk hC H1 ls locs1 hl hP1 hD1 hS1)
theorem kx_tyAt {t : Nat} {ty : FieldType} (hE : kx_ty E) (h : kx_tys[t]? = some ty) : E.2.2.1[t]? = some (kx_ci E t, ty) := by
  unfold kx_ty at hE
  rw [← hE, List.getElem?_map] at h
  unfold kx_ci
  cases h2 : E.2.2.1[t]? with
  | none => rw [h2] at h; cases h
  | some q =>
    rw [h2] at h
    obtain ⟨c, y⟩ := q
    cases h
    rw [List.getD_eq_getElem?_getD, h2]; rfl
abbrev kx_ai (E : kx_E) (n : Nat) (f : Nat → Int32) : va_E := .inl (kx_ci E 0, n, .inl f)
abbrev kx_az (E : kx_E) (n : Nat) (f : Nat → Int32) : va_E := .inl (kx_ci E 1, n, .inl f)
abbrev kx_aj (E : kx_E) (n : Nat) (f : Nat → Int64) : va_E := .inl (kx_ci E 2, n, .inr (.inl f))
abbrev kx_aq (E : kx_E) (t n : Nat) (f : Nat → Option Nat) : va_E := .inl (kx_ci E t, n, .inr (.inr (.inr (.inr f))))
theorem kx_ix {i n : Nat} (h : i < n) (hn : n < 2 ^ 31) : vp_in (nI i) n ∧ (nI i).toNatClampNeg = i := ⟨vp_in_nI h hn, nI_clamp (Nat.lt_trans h hn)⟩
theorem kx_iald {x a n i : Nat} {f : Nat → Int32} (hd : decode Y.1 pc = .ok (.iaload, 1)) (hw : w[x]? = some (a, kx_ai E n f)) (hi : i < n) (hn : n < 2 ^ 31)
    (kk : kx_R E Y z (pc + 1) L (.int (f i) :: st) w kc ks Q) : kx_R E Y z pc L (.int (nI i) :: .ref a :: st) w kc ks Q := by
  intro hC H ls locs hl hP hD hS
  obtain ⟨h1, h2⟩ := kx_ix hi hn
  refine va_iald hC.1 hC.2.1 hC.2.2.2.2.2.1 hP x 0 hw (kx_tyAt hC.2.2.2.2.2.2.2.2.2.2.2.2.2.2 rfl) h1 hd ?_
  rw [h2]
  exact kk hC H ls locs hl hP hD hS
theorem kx_zald {x a n i : Nat} {f : Nat → Int32} (hd : decode Y.1 pc = .ok (.baload, 1)) (hw : w[x]? = some (a, kx_az E n f)) (hi : i < n) (hn : n < 2 ^ 31)
    (kk : kx_R E Y z (pc + 1) L (.int (f i) :: st) w kc ks Q) : kx_R E Y z pc L (.int (nI i) :: .ref a :: st) w kc ks Q := by
  intro hC H ls locs hl hP hD hS
  obtain ⟨h1, h2⟩ := kx_ix hi hn
  refine va_zald hC.1 hC.2.1 hC.2.2.2.2.2.1 hP x 1 hw (kx_tyAt hC.2.2.2.2.2.2.2.2.2.2.2.2.2.2 rfl) h1 hd ?_
  rw [h2]
  exact kk hC H ls locs hl hP hD hS
theorem kx_lald {x a n i : Nat} {f : Nat → Int64} (hd : decode Y.1 pc = .ok (.laload, 1)) (hw : w[x]? = some (a, kx_aj E n f)) (hi : i < n) (hn : n < 2 ^ 31)
    (kk : kx_R E Y z (pc + 1) L (.long (f i) :: st) w kc ks Q) : kx_R E Y z pc L (.int (nI i) :: .ref a :: st) w kc ks Q := by
  intro hC H ls locs hl hP hD hS
  obtain ⟨h1, h2⟩ := kx_ix hi hn
  refine va_lald hC.1 hC.2.1 hC.2.2.2.2.2.1 hP x 2 hw (kx_tyAt hC.2.2.2.2.2.2.2.2.2.2.2.2.2.2 rfl) h1 hd ?_
  rw [h2]
  exact kk hC H ls locs hl hP hD hS
theorem kx_aald {x a n i t : Nat} {C : String} {f : Nat → Option Nat} (hd : decode Y.1 pc = .ok (.aaload, 1)) (hw : w[x]? = some (a, kx_aq E t n f)) (ht : kx_tys[t]? = some (.object C)) (hi : i < n) (hn : n < 2 ^ 31)
    (kk : kx_R E Y z (pc + 1) L (va_rf (f i) :: st) w kc ks Q) : kx_R E Y z pc L (.int (nI i) :: .ref a :: st) w kc ks Q := by
  intro hC H ls locs hl hP hD hS
  obtain ⟨h1, h2⟩ := kx_ix hi hn
  refine va_aldq hC.1 hC.2.1 hC.2.2.2.2.2.1 hP x t hw (kx_tyAt hC.2.2.2.2.2.2.2.2.2.2.2.2.2.2 ht) h1 hd ?_
  rw [h2]
  exact kk hC H ls locs hl hP hD hS
theorem kx_iast {x a n i : Nat} {f : Nat → Int32} {v : Int32} (hd : decode Y.1 pc = .ok (.iastore, 1)) (hw : w[x]? = some (a, kx_ai E n f)) (hi : i < n) (hn : n < 2 ^ 31)
    (kk : kx_R E Y z (pc + 1) L st (w.set x (a, kx_ai E n (upd f i v))) kc ks Q) : kx_R E Y z pc L (.int v :: .int (nI i) :: .ref a :: st) w kc ks Q := by
  intro hC H ls locs hl hP hD hS
  obtain ⟨h1, h2⟩ := kx_ix hi hn
  refine va_iast hC.1 hC.2.1 hC.2.2.2.2.2.1 hP hD hS x 0 hw (kx_tyAt hC.2.2.2.2.2.2.2.2.2.2.2.2.2.2 rfl) h1 hd (fun H1 locs1 hP1 hD1 hS1 => ?_)
  rw [h2] at hP1 hD1
  exact kk hC H1 ls locs1 hl hP1 hD1 hS1
theorem kx_zast {x a n i : Nat} {f : Nat → Int32} {v : Int32} (hd : decode Y.1 pc = .ok (.bastore, 1)) (hw : w[x]? = some (a, kx_az E n f)) (hi : i < n) (hn : n < 2 ^ 31) (hv : vp_nar .boolean v = v)
    (kk : kx_R E Y z (pc + 1) L st (w.set x (a, kx_az E n (upd f i v))) kc ks Q) : kx_R E Y z pc L (.int v :: .int (nI i) :: .ref a :: st) w kc ks Q := by
  intro hC H ls locs hl hP hD hS
  obtain ⟨h1, h2⟩ := kx_ix hi hn
  refine va_zast hC.1 hC.2.1 hC.2.2.2.2.2.1 hP hD hS x 1 hw (kx_tyAt hC.2.2.2.2.2.2.2.2.2.2.2.2.2.2 rfl) h1 hd (fun H1 locs1 hP1 hD1 hS1 => ?_)
  rw [h2, hv] at hP1 hD1
  exact kk hC H1 ls locs1 hl hP1 hD1 hS1
theorem kx_last {x a n i : Nat} {f : Nat → Int64} {v : Int64} (hd : decode Y.1 pc = .ok (.lastore, 1)) (hw : w[x]? = some (a, kx_aj E n f)) (hi : i < n) (hn : n < 2 ^ 31)
    (kk : kx_R E Y z (pc + 1) L st (w.set x (a, kx_aj E n (vp_updL f i v))) kc ks Q) : kx_R E Y z pc L (.long v :: .int (nI i) :: .ref a :: st) w kc ks Q := by
  intro hC H ls locs hl hP hD hS
  obtain ⟨h1, h2⟩ := kx_ix hi hn
  refine va_last hC.1 hC.2.1 hC.2.2.2.2.2.1 hP hD hS x 2 hw (kx_tyAt hC.2.2.2.2.2.2.2.2.2.2.2.2.2.2 rfl) h1 hd (fun H1 locs1 hP1 hD1 hS1 => ?_)
  rw [h2] at hP1 hD1
  exact kk hC H1 ls locs1 hl hP1 hD1 hS1
theorem kx_aast {x y a n i t v ci : Nat} {vs : List Value} {r : vw_C} {f : Nat → Option Nat} (hd : decode Y.1 pc = .ok (.aastore, 1)) (hw : w[x]? = some (a, kx_aq E t n f)) (hv : w[y]? = some (v, .inr (ci, vs))) (hr : vwCl[ci]? = some r) (ht : kx_tys[t]? = some (.object r.1)) (hi : i < n) (hn : n < 2 ^ 31)
    (kk : kx_R E Y z (pc + 1) L st (w.set x (a, kx_aq E t n (va_up f i (some v)))) kc ks Q) : kx_R E Y z pc L (.ref v :: .int (nI i) :: .ref a :: st) w kc ks Q := by
  intro hC H ls locs hl hP hD hS
  obtain ⟨h1, h2⟩ := kx_ix hi hn
  refine va_astq hC.1 hC.2.1 hC.2.2.2.2.2.1 hP hD hS x t y ci hw (kx_tyAt hC.2.2.2.2.2.2.2.2.2.2.2.2.2.2 ht) hv hr h1 hd (fun H1 locs1 hP1 hD1 hS1 => ?_)
  rw [h2] at hP1 hD1
  exact kk hC H1 ls locs1 hl hP1 hD1 hS1
theorem kx_alen {x a t : Nat} {q : vp_A} {ty : FieldType} (hd : decode Y.1 pc = .ok (.arraylength, 1)) (hw : w[x]? = some (a, .inl (kx_ci E t, q))) (ht : kx_tys[t]? = some ty)
    (kk : kx_R E Y z (pc + 1) L (.int (nI q.1) :: st) w kc ks Q) : kx_R E Y z pc L (.ref a :: st) w kc ks Q := by
  intro hC H ls locs hl hP hD hS
  exact va_alen hC.1 hC.2.1 hC.2.2.2.2.2.1 hP x t hw (kx_tyAt hC.2.2.2.2.2.2.2.2.2.2.2.2.2.2 ht) rfl hd (kk hC H ls locs hl hP hD hS)
theorem kx_vret (hd : decode Y.1 pc = .ok (.return_, 1)) (hr : Y.2.2.2.1 = none) (h1 : kc ≤ Y.2.2.2.2.2.1) (h2 : ks ≤ Y.2.2.2.2.2.2.1) (hQ : Q (.inl none) w) : kx_R E Y z pc L [] w kc ks Q := by
  intro hC H ls locs hl hP hD hS
  exact W.widen h1 h2 (vx_ret (W.vret hC.1 hC.2.1 (hC.2.2.2.2.2.2.2.2.1.trans hr) (fun t ht hW => ⟨⟨none, w, rfl, hQ, by rw [ht]; exact hP, hD⟩, hS.F ht⟩) hS.2.2 hd hC.2.2.2.2.2.2.2.1))
theorem kx_iret {v : Int32} (hd : decode Y.1 pc = .ok (.ireturn, 1)) (hr : Y.2.2.2.1 = some .int) (h1 : kc ≤ Y.2.2.2.2.2.1) (h2 : ks ≤ Y.2.2.2.2.2.2.1) (hQ : Q (.inl (some (.int v))) w) : kx_R E Y z pc L [.int v] w kc ks Q := by
  intro hC H ls locs hl hP hD hS
  exact W.widen h1 h2 (vx_ret (W.iret hC.1 hC.2.1 (hC.2.2.2.2.2.2.2.2.1.trans hr) (fun t ht hW => ⟨⟨_, w, rfl, hQ, by rw [ht]; exact hP, hD⟩, hS.F ht⟩) hS.2.2 hd hC.2.2.2.2.2.2.2.1))
theorem kx_zret {v : Int32} (hd : decode Y.1 pc = .ok (.ireturn, 1)) (hr : Y.2.2.2.1 = some .boolean) (hn : narrow .boolean (.int v) = .int v) (h1 : kc ≤ Y.2.2.2.2.2.1) (h2 : ks ≤ Y.2.2.2.2.2.2.1) (hQ : Q (.inl (some (.int v))) w) : kx_R E Y z pc L [.int v] w kc ks Q := by
  intro hC H ls locs hl hP hD hS
  exact W.widen h1 h2 (vx_ret (W.zret hC.1 hC.2.1 (hC.2.2.2.2.2.2.2.2.1.trans hr) hn (fun t ht hW => ⟨⟨_, w, rfl, hQ, by rw [ht]; exact hP, hD⟩, hS.F ht⟩) hS.2.2 hd hC.2.2.2.2.2.2.2.1))
theorem kx_aret {v : Value} {C : String} (hd : decode Y.1 pc = .ok (.areturn, 1)) (hr : Y.2.2.2.1 = some (.object C)) (hv : v.isRef = true) (h1 : kc ≤ Y.2.2.2.2.2.1) (h2 : ks ≤ Y.2.2.2.2.2.2.1) (hQ : Q (.inl (some v)) w) : kx_R E Y z pc L [v] w kc ks Q := by
  intro hC H ls locs hl hP hD hS
  exact W.widen h1 h2 (vx_ret (W.aret hC.1 hC.2.1 (hC.2.2.2.2.2.2.2.2.1.trans hr) (Or.inl ⟨C, rfl⟩) (by cases v <;> first | (simp [Value.isRef] at hv; done) | exact Or.inl rfl | exact Or.inr ⟨_, rfl⟩) (fun t ht hW => ⟨⟨_, w, rfl, hQ, by rw [ht]; exact hP, hD⟩, hS.F ht⟩) hS.2.2 hd hC.2.2.2.2.2.2.2.1))
end KXM
