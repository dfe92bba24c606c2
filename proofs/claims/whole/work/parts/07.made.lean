section KXN
variable {E : kx_E} {Y : kx_Y} {z : kx_Z} {pc : Nat} {L : kx_L} {st : List Value} {w : va_W} {kc ks : Nat} {Q : kx_O → va_W → Prop}
theorem kx_RAeq {U : State} {c1 c2 : ClassId} {ty : FieldType} (h1 : va_RA U c1 ty) (h2 : va_RA U c2 ty) : c1 = c2 := by
  cases ty with
  | object C =>
    obtain ⟨_, _, _, _, _, h1⟩ := h1
    obtain ⟨_, _, _, _, _, h2⟩ := h2
    exact Option.some.inj (h1.symm.trans h2)
  | _ => exact Option.some.inj (Eq.trans (Eq.symm h1) h2)
theorem kx_Kci {U : State} {cA : ClassId} {t : Nat} {ty : FieldType} (hE : kx_ty E) (ht : kx_tys[t]? = some ty) (hK : va_K E.2.1 vwCl (E.2.2.1 ++ [(cA, ty)]) U) : cA = kx_ci E t := by
  have h1 := kx_tyAt hE ht
  have hl := (List.getElem?_eq_some_iff.mp h1).1
  have g1 := (hK.2 t _ (by rw [List.getElem?_append_left hl]; exact h1)).2
  have g2 := (hK.2 E.2.2.1.length (cA, ty) (by simp)).2
  exact kx_RAeq g2 g1
theorem kx_newa {atype : ArrayType} {t n : Nat} {ty : FieldType} (a0 : vp_A) (hd : decode Y.1 pc = .ok (.newarray atype, 2)) (harr : Cond.arrayClass (newarray.typeOf atype) ∈ kx_WS) (hty : newarray.typeOf atype = ty) (ht : kx_tys[t]? = some ty)
    (ha : ∀ cA : ClassId, vp_cell cA a0 = arrV cA n (fun _ => defaultValue ty)) (hn : n < 2 ^ 31) (hb : n * componentBytes ty ≤ 536870912) (h1 : kc + 1 ≤ Y.2.2.2.2.2.1) (h2 : ks + n ≤ Y.2.2.2.2.2.2.1)
    (kk : ∀ q, kx_R E Y z (pc + 2) L (.ref q :: st) (w ++ [(q, .inl (kx_ci E t, a0))]) (kc + 1) (ks + n) Q) : kx_R E Y z pc L (.int (nI n) :: st) w kc ks Q := by
  intro hC H ls locs hl hP hD hS
  refine va_newa hC.1 hC.2.1 (hC.2.2.2.2.1 _ harr) hty hC.2.2.2.2.2.1 hP hD hS (fun q h => Nat.le_trans hC.2.2.2.2.2.2.1 h) ha (nI_pos hn) (nI_clamp hn) hb (by rw [hC.2.2.2.2.2.2.2.2.2.2.2.1]; exact h1) (by rw [hC.2.2.2.2.2.2.2.2.2.2.2.1]; exact h2) hd (fun q cA H1 hK1 hP1 hD1 hS1 => ?_)
  have e := kx_Kci hC.2.2.2.2.2.2.2.2.2.2.2.2.2.2 ht hK1
  subst e
  exact kk q hC H1 ls locs hl hP1 hD1 hS1
theorem kx_newq {idx t n : Nat} {C : String} (hd : decode Y.1 pc = .ok (.anewarray idx, 3)) (hc : Cond.classLink Y.2.2.1 idx C ∈ kx_WS) (ho : ∀ U : State, kx_Ex E U → va_AO C U) (ht : kx_tys[t]? = some (.object C))
    (hn : n < 2 ^ 31) (hb : n * 4 ≤ 536870912) (h1 : kc + 1 ≤ Y.2.2.2.2.2.1) (h2 : ks + n ≤ Y.2.2.2.2.2.2.1)
    (kk : ∀ q, kx_R E Y z (pc + 3) L (.ref q :: st) (w ++ [(q, kx_aq E t n (fun _ => none))]) (kc + 1) (ks + n) Q) : kx_R E Y z pc L (.int (nI n) :: st) w kc ks Q := by
  intro hC H ls locs hl hP hD hS
  refine va_newq hC.1 hC.2.1 hC.2.2.2.1 (hC.2.2.2.2.1 _ hc) (ho _ hC.2.2.2.2.2.2.2.2.2.2.2.2.2.1) hC.2.2.2.2.2.1 hP hD hS (fun q h => Nat.le_trans hC.2.2.2.2.2.2.1 h) (nI_pos hn) (nI_clamp hn) hb (by rw [hC.2.2.2.2.2.2.2.2.2.2.2.1]; exact h1) (by rw [hC.2.2.2.2.2.2.2.2.2.2.2.1]; exact h2) hd (fun q cA H1 hK1 hP1 hD1 hS1 => ?_)
  have e := kx_Kci hC.2.2.2.2.2.2.2.2.2.2.2.2.2.2 ht hK1
  subst e
  exact kk q hC H1 ls locs hl hP1 hD1 hS1
/-- a thing of number ci may be made by own at idx; fs: its fields at first -/
def kx_N (own : String) (idx ci : Nat) (fs : List Value) : Prop := ∃ (C : String) (T : u_T) (N : Nat) (ty : Nat → FieldType), vwCl[ci]? = some (C, T, N) ∧ (∀ k, k < N → parseFieldDescriptor (T k).2.2.1 = some (ty k)) ∧ (∀ c ∈ u_ws C T N, c ∈ kx_WS) ∧ Cond.classLink own idx C ∈ kx_WS ∧ Cond.instantiable C N ∈ kx_WS ∧ Cond.initialized C ∈ kx_WS ∧ fs.length = N ∧ ∀ j, j < N → defaultValue (ty j) = vp_V fs j
theorem kx_new {idx ci : Nat} {fs : List Value} (hd : decode Y.1 pc = .ok (.new idx, 3)) (hN : kx_N Y.2.2.1 idx ci fs) (h1 : kc + 1 ≤ Y.2.2.2.2.2.1) (h2 : ks + fs.length ≤ Y.2.2.2.2.2.2.1)
    (kk : ∀ q, kx_R E Y z (pc + 3) L (.ref q :: st) (w ++ [(q, .inr (ci, fs))]) (kc + 1) (ks + fs.length) Q) : kx_R E Y z pc L st w kc ks Q := by
  intro hC H ls locs hl hP hD hS
  obtain ⟨C, T, N, ty, g1, g2, g3, g4, g5, g6, g7, g8⟩ := hN
  subst g7
  exact va_new hC.1 hC.2.1 hC.2.2.2.2.1 g3 ty g2 hC.2.2.2.1 (hC.2.2.2.2.1 _ g4) (hC.2.2.2.2.1 _ g5) (hC.2.2.2.2.1 _ g6) hC.2.2.2.2.2.1 hP hD hS (fun q h => Nat.le_trans hC.2.2.2.2.2.2.1 h) g1 g8 (by rw [hC.2.2.2.2.2.2.2.2.2.2.2.1]; exact h1) (by rw [hC.2.2.2.2.2.2.2.2.2.2.2.1]; exact h2) hd (fun q H1 hP1 hD1 hS1 => kk q hC H1 ls locs hl hP1 hD1 hS1)
theorem kx_obj {idx a : Nat} (hd : decode Y.1 pc = .ok (.invokespecial idx, 3)) (h1 : Cond.methodLink Y.2.2.1 idx Lib.objectInit ∈ kx_WS) (h2 : Cond.instanceMethod Lib.objectInit ∈ kx_WS) (h3 : Cond.code Lib.objectInit ⟨#[0xb1]⟩ 1 none ∈ kx_WS) (h4 : (st.map fun v => v.category).sum ≤ 60)
    (kk : kx_R E Y z (pc + 3) L st w kc ks Q) : kx_R E Y z pc L (.ref a :: st) w kc ks Q := by
  intro hC H ls locs hl hP hD hS
  have hR := hC.2.2.2.2.2.2.2.2.2.2.2.1
  refine W.objInit hC.1 hC.2.1 hC.2.2.2.1 (hC.2.2.2.2.1 _ h1) (hC.2.2.2.2.1 _ h2) (hC.2.2.2.2.1 _ h3) rfl (by rw [hC.2.2.1]; exact hl.1) rfl hd ?_ ?_ (kk hC H ls locs hl hP hD hS)
  · rw [hR]; show 1 ≤ 1 + _; omega
  · rw [hR]; show 2 * 0 + _ + 12 ≤ 100 + _; omega
end KXN
