/-! Runs: what the calls keep -/
theorem nd_ix {r : List Nat} (h : (rowIds r).Nodup) {i j : Nat} (hi : i < r.length) (hj : j < r.length) (e : r.getD i 0 / 2 = r.getD j 0 / 2) : i = j := by
  have a : (rowIds r)[i]'(by rw [List.length_map]; exact hi) = (rowIds r)[j]'(by rw [List.length_map]; exact hj) := by
    rw [List.getElem_map, List.getElem_map]
    rw [List.getD_eq_getElem?_getD, List.getElem?_eq_getElem hi, List.getD_eq_getElem?_getD, List.getElem?_eq_getElem hj] at e
    exact e
  have b := List.pairwise_iff_getElem.mp h
  rcases Nat.lt_trichotomy i j with q | q | q
  · exact absurd a (b i j _ _ q)
  · exact q
  · exact absurd a.symm (b j i _ _ q)
theorem Run.cg {lk lk' : Nat → Option Nat} {r : List Nat} (h : Run lk r) (e : ∀ x, x / 2 ∈ rowIds r → lk' x = lk x) : Run lk' r := by
  obtain ⟨h1, h2, h3, h4⟩ := h
  have m : ∀ i, i < r.length → lk' (r.getD i 0) = lk (r.getD i 0) ∧ lk' (r.getD i 0 ^^^ 1) = lk (r.getD i 0 ^^^ 1) := fun i hi =>
    ⟨e _ (at_rowIds hi rfl), e _ (by rw [x1_div]; exact at_rowIds hi rfl)⟩
  refine ⟨h1, by rw [(m 0 h1).1]; exact h2, by rw [(m _ (by omega)).2]; exact h3, fun i hi => ?_⟩
  rw [(m i (by omega)).2, (m (i + 1) hi).1]
  exact h4 i hi
theorem half_x1 {x y : Nat} (h : x / 2 = y / 2) : x = y ∨ x = y ^^^ 1 := by
  have a := x1_div y
  have b := x1_mod y
  omega
/-- a neighbour lies in the same run -/
theorem Run.nb {lk : Nat → Option Nat} {r : List Nat} (h : Run lk r) {x y : Nat} (hx : x / 2 ∈ rowIds r) (hl : lk x = some y) : y / 2 ∈ rowIds r := by
  obtain ⟨i, hi, e⟩ := rowIds_at hx
  rcases half_x1 e.symm with e | e
  · subst e
    cases i with
    | zero => rw [h.2.1] at hl; cases hl
    | succ i =>
      rw [(h.2.2.2 i hi).2] at hl
      cases hl
      rw [x1_div]
      exact at_rowIds (by omega) rfl
  · subst e
    by_cases q : i + 1 < r.length
    · rw [(h.2.2.2 i q).1] at hl
      cases hl
      exact at_rowIds q rfl
    · rw [show i = r.length - 1 by omega, h.2.2.1] at hl
      cases hl
theorem Rns.add {n : Nat} {lk lk' : Nat → Option Nat} (h : Rns n lk) (e : ∀ x, x < 2 * n → lk' x = lk x) (e0 : lk' (2 * n) = none) (e1 : lk' (2 * n + 1) = none) : Rns (n + 1) lk' := by
  intro c hc
  by_cases q : c = n
  · subst q
    refine ⟨[2 * c], ⟨Nat.one_pos, e0, ?_, fun i hi => ?_⟩, ?_, ?_, ?_⟩
    · show lk' ((2 * c) ^^^ 1) = none
      rw [x1_even]; exact e1
    · simp only [List.length_singleton] at hi; omega
    · simp [rowIds]
    · intro x hx
      rw [List.mem_singleton] at hx
      omega
    · simp [rowIds]
  · obtain ⟨r, h1, h2, h3, h4⟩ := h c (by omega)
    refine ⟨r, h1.cg (fun x hx => e x ?_), h2, fun x hx => by have := h3 x hx; omega, h4⟩
    have := rowIds_lt h3 _ hx
    omega
theorem getD_take {l : List Nat} {i j : Nat} (h : j < i) : (l.take i).getD j 0 = l.getD j 0 := by
  rw [List.getD_eq_getElem?_getD, List.getD_eq_getElem?_getD, List.getElem?_take, if_pos h]
theorem getD_drop {l : List Nat} {i j : Nat} : (l.drop i).getD j 0 = l.getD (i + j) 0 := by
  rw [List.getD_eq_getElem?_getD, List.getD_eq_getElem?_getD, List.getElem?_drop]
theorem getD_app {l m : List Nat} {j : Nat} : (l ++ m).getD j 0 = if j < l.length then l.getD j 0 else m.getD (j - l.length) 0 := by
  rw [List.getD_eq_getElem?_getD, List.getElem?_append]
  split
  · rw [List.getD_eq_getElem?_getD]
  · rw [List.getD_eq_getElem?_getD]
theorem Rns.unc {n : Nat} {lk : Nat → Option Nat} (h : Rns n lk) {p q : Nat} (hp : lk p = some q) (hq : lk q = some p) : Rns n (up1 (up1 lk q none) p none) := by
  intro c hc
  obtain ⟨r0, h1, h2, h3, h4⟩ := h c hc
  by_cases hpr : p / 2 ∈ rowIds r0
  · -- the run is cut
    have : ∃ r i, Run lk r ∧ (rowIds r).Nodup ∧ (∀ x ∈ r, x < 2 * n) ∧ c ∈ rowIds r ∧ i < r.length ∧ r.getD i 0 ^^^ 1 = p := by
      obtain ⟨i, hi, e⟩ := rowIds_at hpr
      rcases half_x1 e.symm with e | e
      · refine ⟨rowTurn r0, r0.length - 1 - i, h1.turn, by rw [rowIds_turn]; exact (List.reverse_perm _).nodup_iff.mpr h2, turn_lt h3, by rw [rowIds_turn]; exact List.mem_reverse.mpr h4, by rw [rowTurn_len]; omega, ?_⟩
        rw [rowTurn_get r0 (by omega), show r0.length - 1 - (r0.length - 1 - i) = i by omega, x1_x1, ← e]
      · exact ⟨r0, i, h1, h2, h3, h4, hi, e.symm⟩
    obtain ⟨r, i, g1, g2, g3, g4, hi, ep⟩ := this
    have hi1 : i + 1 < r.length := by
      rcases Nat.lt_or_ge (i + 1) r.length with q1 | q1
      · exact q1
      · have a := g1.2.2.1
        rw [show r.length - 1 = i by omega, ep, hp] at a
        cases a
    have eq : r.getD (i + 1) 0 = q := by
      have a := (g1.2.2.2 i hi1).1
      rw [ep, hp] at a
      cases a; rfl
    have np : ∀ j, j < r.length → r.getD j 0 ≠ p := by
      intro j hj e
      have := nd_ix g2 hj hi (by rw [e, ← ep, x1_div])
      subst this
      rw [← ep] at e
      exact x1_ne _ e.symm
    have np1 : ∀ j, j < r.length → j ≠ i → r.getD j 0 ^^^ 1 ≠ p := by
      intro j hj hne e
      exact hne (nd_ix g2 hj hi (by rw [← x1_div, e, ← ep, x1_div]))
    have nq : ∀ j, j < r.length → j ≠ i + 1 → r.getD j 0 ≠ q := by
      intro j hj hne e
      exact hne (nd_ix g2 hj hi1 (by rw [e, eq]))
    have nq1 : ∀ j, j < r.length → r.getD j 0 ^^^ 1 ≠ q := by
      intro j hj e
      have := nd_ix g2 hj hi1 (by rw [← x1_div, e, eq])
      subst this
      rw [← eq] at e
      exact x1_ne _ e
    have u : ∀ x, x ≠ p → x ≠ q → up1 (up1 lk q none) p none x = lk x := fun x a b => by rw [up1_n a, up1_n b]
    have up : up1 (up1 lk q none) p none p = none := up1_s
    have uq : up1 (up1 lk q none) p none q = none := by
      by_cases e : q = p
      · rw [e]; exact up1_s
      · rw [up1_n e]; exact up1_s
    have R1 : Run (up1 (up1 lk q none) p none) (r.take (i + 1)) := by
      have len : (r.take (i + 1)).length = i + 1 := by rw [List.length_take]; omega
      refine ⟨by omega, ?_, ?_, ?_⟩
      · rw [getD_take (by omega), u _ (np 0 (by omega)) (nq 0 (by omega) (by omega))]; exact g1.2.1
      · rw [len, getD_take (by omega), show i + 1 - 1 = i by omega, ep, up]
      · intro j hj
        rw [len] at hj
        rw [getD_take (by omega), getD_take (by omega), u _ (np1 j (by omega) (by omega)) (nq1 j (by omega)), u _ (np (j + 1) (by omega)) (nq (j + 1) (by omega) (by omega))]
        exact g1.2.2.2 j (by omega)
    have R2 : Run (up1 (up1 lk q none) p none) (r.drop (i + 1)) := by
      have len : (r.drop (i + 1)).length = r.length - (i + 1) := List.length_drop
      refine ⟨by omega, ?_, ?_, ?_⟩
      · rw [getD_drop, show i + 1 + 0 = i + 1 by omega, eq, uq]
      · rw [len, getD_drop, show i + 1 + (r.length - (i + 1) - 1) = r.length - 1 by omega, u _ (np1 _ (by omega) (by omega)) (nq1 _ (by omega))]; exact g1.2.2.1
      · intro j hj
        rw [len] at hj
        rw [getD_drop, getD_drop, u _ (np1 _ (by omega) (by omega)) (nq1 _ (by omega)), u _ (np _ (by omega)) (nq _ (by omega) (by omega))]
        exact g1.2.2.2 (i + 1 + j) (by omega)
    have sp : rowIds r = rowIds (r.take (i + 1)) ++ rowIds (r.drop (i + 1)) := by
      rw [← List.map_append, List.take_append_drop]
    rw [sp] at g2 g4
    have nd := List.nodup_append.mp g2
    rcases List.mem_append.mp g4 with g | g
    · exact ⟨_, R1, nd.1, fun x hx => g3 x (List.mem_of_mem_take hx), g⟩
    · exact ⟨_, R2, nd.2.1, fun x hx => g3 x (List.mem_of_mem_drop hx), g⟩
  · have hqr : q / 2 ∉ rowIds r0 := fun a => hpr (h1.nb a hq)
    refine ⟨r0, h1.cg (fun x hx => ?_), h2, h3, h4⟩
    rw [up1_n (fun e => hpr (by rw [← e]; exact hx)), up1_n (fun e => hqr (by rw [← e]; exact hx))]
theorem Rns.cou {n : Nat} {X : Fx} (h : Rns n (xLk X)) (h24 : n ≤ 24) {p q : Nat} (hpn : p < 2 * n) (hqn : q < 2 * n) (hp : xLk X p = none) (hq : xLk X q = none) (hd : q / 2 ∉ rowIds (trM X (p / 2))) : Rns n (up1 (up1 (xLk X) p (some q)) q (some p)) := by
  have hP : ∃ r, Run (xLk X) r ∧ (rowIds r).Nodup ∧ (∀ x ∈ r, x < 2 * n) ∧ r.getD (r.length - 1) 0 ^^^ 1 = p := by
    obtain ⟨r, h1, h2, h3, h4⟩ := h (p / 2) (by omega)
    obtain ⟨i, hi, e⟩ := rowIds_at h4
    rcases half_x1 e.symm with e | e
    · have i0 : i = 0 := by
        cases i with
        | zero => rfl
        | succ i => have a := (h1.2.2.2 i hi).2; rw [← e, hp] at a; cases a
      subst i0
      refine ⟨rowTurn r, h1.turn, by rw [rowIds_turn]; exact (List.reverse_perm _).nodup_iff.mpr h2, turn_lt h3, ?_⟩
      rw [rowTurn_len, rowTurn_get r (by omega), x1_x1, show r.length - 1 - (r.length - 1) = 0 by omega, ← e]
    · refine ⟨r, h1, h2, h3, ?_⟩
      have : i = r.length - 1 := by
        rcases Nat.lt_or_ge (i + 1) r.length with a | a
        · have b := (h1.2.2.2 i a).1; rw [← e, hp] at b; cases b
        · omega
      rw [← this, ← e]
  have hQ : ∃ r, Run (xLk X) r ∧ (rowIds r).Nodup ∧ (∀ x ∈ r, x < 2 * n) ∧ r.getD 0 0 = q := by
    obtain ⟨r, h1, h2, h3, h4⟩ := h (q / 2) (by omega)
    obtain ⟨i, hi, e⟩ := rowIds_at h4
    rcases half_x1 e.symm with e | e
    · have i0 : i = 0 := by
        cases i with
        | zero => rfl
        | succ i => have a := (h1.2.2.2 i hi).2; rw [← e, hq] at a; cases a
      subst i0
      exact ⟨r, h1, h2, h3, e.symm⟩
    · have : i = r.length - 1 := by
        rcases Nat.lt_or_ge (i + 1) r.length with a | a
        · have b := (h1.2.2.2 i a).1; rw [← e, hq] at b; cases b
        · omega
      refine ⟨rowTurn r, h1.turn, by rw [rowIds_turn]; exact (List.reverse_perm _).nodup_iff.mpr h2, turn_lt h3, ?_⟩
      rw [rowTurn_get r (by omega), show r.length - 1 - 0 = i by omega, ← e]
  obtain ⟨rp, a1, a2, a3, a4⟩ := hP
  obtain ⟨rq, b1, b2, b3, b4⟩ := hQ
  have la := a1.1
  have lb := b1.1
  have pin : p / 2 ∈ rowIds rp := by rw [← a4, x1_div]; exact at_rowIds (by omega) rfl
  have qin : q / 2 ∈ rowIds rq := by rw [← b4]; exact at_rowIds (by omega) rfl
  have qnp : q / 2 ∉ rowIds rp := fun e => hd ((Rns.same h24 a1 a2 a3 pin _).mp e)
  have dis : ∀ z, z ∈ rowIds rp → z ∉ rowIds rq := by
    intro z z1 z2
    exact qnp ((Rns.same h24 a1 a2 a3 z1 _).mpr ((Rns.same h24 b1 b2 b3 z2 _).mp qin))
  have pnq : p / 2 ∉ rowIds rq := dis _ pin
  have u : ∀ x, x ≠ p → x ≠ q → up1 (up1 (xLk X) p (some q)) q (some p) x = xLk X x := fun x a b => by rw [up1_n b, up1_n a]
  have hne : p ≠ q := fun e => qnp (by rw [← e]; exact pin)
  have eP : up1 (up1 (xLk X) p (some q)) q (some p) p = some q := by rw [up1_n hne]; exact up1_s
  have eQ : up1 (up1 (xLk X) p (some q)) q (some p) q = some p := up1_s
  have pp : ∀ j, j < rp.length → rp.getD j 0 ≠ p ∧ rp.getD j 0 ≠ q ∧ rp.getD j 0 ^^^ 1 ≠ q ∧ (j ≠ rp.length - 1 → rp.getD j 0 ^^^ 1 ≠ p) := by
    intro j hj
    refine ⟨?_, ?_, ?_, ?_⟩
    · intro e
      have := nd_ix a2 hj (j := rp.length - 1) (by omega) (by rw [e, ← a4, x1_div])
      rw [this, ← a4] at e
      exact x1_ne _ e.symm
    · intro e; exact qnp (by rw [← e]; exact at_rowIds hj rfl)
    · intro e; exact qnp (by rw [← e, x1_div]; exact at_rowIds hj rfl)
    · intro hj2 e
      exact hj2 (nd_ix a2 hj (j := rp.length - 1) (by omega) (by rw [← x1_div, e, ← a4, x1_div]))
  have qq : ∀ j, j < rq.length → rq.getD j 0 ^^^ 1 ≠ q ∧ rq.getD j 0 ≠ p ∧ rq.getD j 0 ^^^ 1 ≠ p ∧ (j ≠ 0 → rq.getD j 0 ≠ q) := by
    intro j hj
    refine ⟨?_, ?_, ?_, ?_⟩
    · intro e
      have := nd_ix b2 hj (j := 0) (by omega) (by rw [← x1_div, e, b4])
      rw [this, b4] at e
      exact x1_ne _ e
    · intro e; exact pnq (by rw [← e]; exact at_rowIds hj rfl)
    · intro e; exact pnq (by rw [← e, x1_div]; exact at_rowIds hj rfl)
    · intro hj2 e
      exact hj2 (nd_ix b2 hj (j := 0) (by omega) (by rw [e, b4]))
  have R : Run (up1 (up1 (xLk X) p (some q)) q (some p)) (rp ++ rq) := by
    have len : (rp ++ rq).length = rp.length + rq.length := List.length_append
    refine ⟨by omega, ?_, ?_, ?_⟩
    · rw [getD_app, if_pos la, u _ (pp 0 la).1 (pp 0 la).2.1]; exact a1.2.1
    · rw [len, getD_app, if_neg (by omega), show rp.length + rq.length - 1 - rp.length = rq.length - 1 by omega, u _ (qq _ (by omega)).2.2.1 (qq _ (by omega)).1]; exact b1.2.2.1
    · intro i hi
      rw [len] at hi
      by_cases c1 : i + 1 < rp.length
      · rw [getD_app, if_pos (by omega), getD_app, if_pos c1, u _ ((pp i (by omega)).2.2.2 (by omega)) (pp i (by omega)).2.2.1, u _ (pp _ c1).1 (pp _ c1).2.1]
        exact a1.2.2.2 i c1
      · by_cases c2 : i + 1 = rp.length
        · rw [getD_app, if_pos (by omega), getD_app, if_neg (by omega), show i + 1 - rp.length = 0 by omega, show i = rp.length - 1 by omega, a4, b4, eP, eQ]
          exact ⟨rfl, rfl⟩
        · rw [getD_app, if_neg (by omega), getD_app, if_neg (by omega), u _ (qq _ (by omega)).2.2.1 (qq _ (by omega)).1, u _ (qq _ (by omega)).2.1 ((qq _ (by omega)).2.2.2 (by omega))]
          have := b1.2.2.2 (i - rp.length) (by omega)
          rw [show i - rp.length + 1 = i + 1 - rp.length by omega] at this
          exact this
  have nd : (rowIds (rp ++ rq)).Nodup := by
    show (List.map (· / 2) (rp ++ rq)).Nodup
    rw [List.map_append]
    exact List.nodup_append.mpr ⟨a2, b2, fun a ha b hb e => dis a ha (by rw [e]; exact hb)⟩
  have lt : ∀ x ∈ rp ++ rq, x < 2 * n := by
    intro x hx
    rcases List.mem_append.mp hx with g | g
    · exact a3 x g
    · exact b3 x g
  intro c hc
  by_cases c1 : c ∈ rowIds (rp ++ rq)
  · exact ⟨_, R, nd, lt, c1⟩
  · have c1 : ¬ c ∈ rowIds rp ++ rowIds rq := by rw [← List.map_append]; exact c1
    obtain ⟨r, h1, h2, h3, h4⟩ := h c hc
    have n1 : p / 2 ∉ rowIds r := fun e => c1 (List.mem_append.mpr (Or.inl ((Rns.same h24 a1 a2 a3 pin _).mpr ((Rns.same h24 h1 h2 h3 e _).mp h4))))
    have n2 : q / 2 ∉ rowIds r := fun e => c1 (List.mem_append.mpr (Or.inr ((Rns.same h24 b1 b2 b3 qin _).mpr ((Rns.same h24 h1 h2 h3 e _).mp h4))))
    refine ⟨r, h1.cg (fun x hx => ?_), h2, h3, h4⟩
    exact u x (fun e => n1 (by rw [← e]; exact hx)) (fun e => n2 (by rw [← e]; exact hx))
