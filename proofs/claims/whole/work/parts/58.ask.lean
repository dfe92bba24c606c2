/-! What the two sides answer -/
theorem out_eN {n : Nat} {X : Fx} {S : Nat → Nat → Int32} {pe : Nat → Option Nat} (hX : WfX n X) (hS : StR n X S pe) : ∀ (k p : Nat), p < 2 * n → outE pe k (eN p) = eN (outM (xLk X) k p)
  | 0, _, _ => rfl
  | k + 1, p, hp => by
    unfold outE outM
    rw [hS.2.2.2.1 p hp]
    cases hq : xLk X p with
    | none => rfl
    | some q =>
      show outE pe k (opp (eN q)) = eN (outM (xLk X) k (q ^^^ 1))
      rw [eN_opp]
      exact out_eN hX hS k _ (x1_lt (hX.lk hp hq))
theorem run_eN {n : Nat} {X : Fx} {S : Nat → Nat → Int32} {pe : Nat → Option Nat} (hX : WfX n X) (hS : StR n X S pe) : ∀ (m : Nat) (o : Option Nat), (∀ p, o = some p → p < 2 * n) → runL pe S m (o.map eN) = (runM (xLk X) m o).map (itm X)
  | 0, _, _ => rfl
  | _ + 1, none, _ => rfl
  | m + 1, some p, h => by
    have hp := h p rfl
    show clN (S (eN p) 0) :: runL pe S m (pe (opp (eN p))) = itm X p :: (runM (xLk X) m (xLk X (p ^^^ 1))).map (itm X)
    rw [eN_opp, hS.2.2.2.1 _ (x1_lt hp), hS.2.2.1 p hp, clN_nI (by have := itm_lt hX hp; omega), run_eN hX hS m _ (fun q hq => hX.lk (x1_lt hp) hq)]
theorem tru_tr {n : Nat} {X : Fx} {S : Nat → Nat → Int32} {pe : Nat → Option Nat} (hX : WfX n X) (hS : StR n X S pe) (hR : Rns n (xLk X)) {c : Nat} (hc : c < n) : truL pe S c = (trR X c).map (itm X) := by
  have h24 := hX.1
  obtain ⟨r, i, h1, h2, h3, hi, e⟩ := hR.face hc
  have hl := run_le h2 h3
  have ho := h1.of (by omega) hi
  rw [e, x1_even] at ho
  have w0 := (h1.walk 24 0 (by omega) h1.1).1
  have w1 := (h1.turn.walk 24 0 (by rw [rowTurn_len]; omega) (by rw [rowTurn_len]; exact h1.1)).1
  rw [rowTurn_get r h1.1, show r.length - 1 - 0 = r.length - 1 by omega] at w1
  rw [List.drop_zero] at w0 w1
  have tM : trM X c = r := by unfold trM; rw [ho.1, w0]
  have o0 : outE pe 24 (carE c 0) = eN (r.getD 0 0) := by rw [eN_0, out_eN hX hS _ _ (by omega), ho.1]
  have o1 : outE pe 24 (carE c 1) = eN (r.getD (r.length - 1) 0 ^^^ 1) := by rw [eN_1, out_eN hX hS _ _ (by omega), ho.2]
  have m0 := h3 _ (row_get r h1.1)
  have m1 := x1_lt (h3 _ (row_get r (show r.length - 1 < r.length by have := h1.1; omega)))
  have t0 : runL pe S 24 (some (eN (r.getD 0 0))) = r.map (itm X) := by
    have := run_eN hX hS 24 (some (r.getD 0 0)) (fun p hp => by cases hp; exact m0)
    rw [w0] at this; exact this
  have t1 : runL pe S 24 (some (eN (r.getD (r.length - 1) 0 ^^^ 1))) = (rowTurn r).map (itm X) := by
    have := run_eN hX hS 24 (some (r.getD (r.length - 1) 0 ^^^ 1)) (fun p hp => by cases hp; exact m1)
    rw [w1] at this; exact this
  unfold truL truX
  rw [o0, o1, hS.2.2.1 _ m0, hS.2.2.1 _ m1, clN_nI (by have := itm_lt hX m0; omega), clN_nI (by have := itm_lt hX m1; omega), itm_div, itm_div, x1_div]
  unfold trR trN
  rw [tM]
  by_cases q : r.length = 1
  · have : i = 0 := by omega
    subst this
    rw [if_pos q, q, if_pos (Nat.le_refl _), t0]
    have : r = [2 * c] := by
      cases r with
      | nil => cases q
      | cons a t =>
        cases t with
        | nil => have e1 : a = 2 * c := e; rw [e1]
        | cons b u => simp only [List.length_cons] at q; omega
    rw [this]
  · rw [if_neg q]
    by_cases z : xId X (r.getD 0 0 / 2) ≤ xId X (r.getD (r.length - 1) 0 / 2)
    · rw [if_pos z, if_neg (by omega), t0]
    · rw [if_neg z, if_pos (by omega), t1]
theorem sta_eq {n : Nat} {X : Fx} {T : LVS} {D : Dy} {c : Nat} (hX : WfX n X) (hD : WfD n D) (hc : c < n) (h : CarR X T D c) : staI T.1 c (clN (T.2.2 (carE c 0) 8)) (clN (T.2.2 (carE c 1) 8)) = staM D c := by
  have wd := (hD.2.2 c hc).1.2
  have one : ∀ p, p < 2 * n → p / 2 = c → EndR X T D p → dDi D c ≠ [] → (agrI T.1 c (eN p) (clN (T.2.2 (eN p) 8)) = 1 ↔ (dSi D p = 4 ∨ agrM D p = 1)) := by
    intro p hp hpc he hne
    have w := hD.1 p hp
    rw [he.2.1, clN_nI (by omega)]
    have t : T.1 (eN p + 3) = T.1 (carB c + 26) ↔ agrM D p = 1 := by
      rw [he.2.2.2, h.2.2.1]
      unfold agrM
      rw [hpc]
      cases ht : dTo D p with
      | none =>
        constructor
        · intro e; exact absurd (map_nil.mp e.symm) hne
        · intro e
          split at e
          · rename_i g; cases g.2
          · cases e
      | some l =>
        show l.map (itm X) = (dDi D c).map (itm X) ↔ _
        rw [map_eq hX (hD.2.1 p hp l ht).2 wd]
        constructor
        · intro e; rw [if_pos ⟨hne, by rw [e]⟩]
        · intro e
          split at e
          · rename_i g; have := g.2; injection this
          · cases e
    unfold agrI
    by_cases q : 4 ≤ dSi D p ∨ T.1 (eN p + 3) = T.1 (carB c + 26)
    · rw [if_pos q]
      rcases q with q | q
      · exact ⟨fun _ => Or.inl (by omega), fun _ => rfl⟩
      · exact ⟨fun _ => Or.inr (t.mp q), fun _ => rfl⟩
    · rw [if_neg q]
      constructor
      · intro e; cases e
      · intro e
        rcases e with e | e
        · exact absurd (Or.inl (by omega)) q
        · exact absurd (Or.inr (t.mpr e)) q
  unfold staI staM
  have len : (T.1 (carB c + 26)).length = 0 ↔ dDi D c = [] := by rw [h.2.2.1, List.length_map]; exact List.length_eq_zero_iff
  by_cases q : dDi D c = []
  · rw [if_pos q, if_pos (len.mpr q)]
  · rw [if_neg q, if_neg (fun e => q (len.mp e)), eN_0, eN_1]
    have a := one (2 * c) (by omega) (by omega) h.1 q
    have b := one (2 * c + 1) (by omega) (by omega) h.2.1 q
    by_cases z : (dSi D (2 * c) = 4 ∨ agrM D (2 * c) = 1) ∧ (dSi D (2 * c + 1) = 4 ∨ agrM D (2 * c + 1) = 1)
    · rw [if_pos z, if_pos ⟨a.mpr z.1, b.mpr z.2⟩]
    · rw [if_neg z, if_neg (fun e => z ⟨a.mp e.1, b.mp e.2⟩)]
theorem bool_eq {k : Nat} (h : k ≤ 1) : boolI (nI k) = k := by
  unfold boolI
  have : nI k = 0 ↔ k = 0 := by rw [← nI_0]; exact nI_eq (by omega) (by omega)
  by_cases q : k = 0
  · rw [if_pos (this.mpr q), q]
  · rw [if_neg (fun e => q (this.mp e))]; omega
theorem fac_eq {n : Nat} {X : Fx} {T : LVS} {D : Dy} {c : Nat} (hX : WfX n X) (hD : WfD n D) (hc : c < n) (h : CarR X T D c) {k : Nat} (hk : k < 12) : facI T c k = facM D c k := by
  have wd := hD.2.2 c hc
  have no := rowNo_le c (dDi D c) 0
  have l24 := wd.1.1
  have w0 := hD.1 (2 * c) (by omega)
  have w1 := hD.1 (2 * c + 1) (by omega)
  have hfl : nI (flipI (T.1 (carB c + 26)) (clN (T.2.2 (carB c) 7))) = flM D c := by
    unfold flipI flM
    rw [h.2.2.2.1, clN_nI (by omega), h.2.2.1, List.length_map]
    by_cases q : rowNo c (dDi D c) 0 = 0
    · rw [if_pos q, if_neg (by omega)]
    · rw [if_neg q, getD_map X (by omega), itm_mod]
      by_cases z : (dDi D c).getD (rowNo c (dDi D c) 0 - 1) 0 % 2 = 1
      · rw [if_pos ⟨by omega, by omega, z⟩, z]
      · rw [if_neg (fun e => z e.2.2), show (dDi D c).getD (rowNo c (dDi D c) 0 - 1) 0 % 2 = 0 by omega]
  unfold facI facM
  rw [sta_eq hX hD hc h, hfl, h.2.2.2.1, h.2.2.1, List.length_map, h.2.2.2.2.2.1, h.2.2.2.2.1, eN_0, eN_1, h.1.2.1, h.2.1.2.1, h.1.2.2.1, h.2.1.2.2.1, List.length_map, List.length_map, h.1.1, h.2.1.1, bool_eq w0.2.1, bool_eq w1.2.1]
theorem kn_eq {n : Nat} {X : Fx} {T : LVS} {D : Dy} {c : Nat} (hD : WfD n D) (hc : c < n) (h : CarR X T D c) {j i : Nat} (hj : j < (dDi D c).length) (hi : i ≤ 4) : knownI (T.2.1 (carB c + 30)) (T.2.1 (carB c + 31)) (T.2.2 (carB c) 8) (rowNo c (dDi D c) 0) j (nI i) = getM D c j i := by
  have wd := hD.2.2 c hc
  have z : ¬ nI 0 = -1 := nI_m1 (by omega)
  have i4 : nI i = nI 4 ↔ i = 4 := nI_eq (by omega) (by omega)
  unfold knownI getM
  by_cases q : j + 1 = rowNo c (dDi D c) 0
  · rw [if_pos q, if_pos q]
    obtain ⟨k, g1, g2, g3⟩ := rowNo_p (x := c) (l := dDi D c) (k := 0) (by omega)
    have : k = j := by omega
    subst this
    rw [g3, wd.2.2.2.1, if_neg z]
    by_cases e : i = 4
    · rw [if_pos (Or.inr (i4.mpr e)), if_pos e]
    · rw [if_neg (fun f => f.elim z (fun f => e (i4.mp f))), if_neg e]
      exact h.2.2.2.2.2.2.1 i (by omega)
  · rw [if_neg q, if_neg q]
    have nw := h.2.2.2.2.2.2.2 j hj q
    rw [nw.1]
    by_cases y : dAg D c ((dDi D c).getD j 0 / 2) = -1
    · rw [if_pos (Or.inl y), if_pos y, y]
    · rw [if_neg y]
      by_cases e : i = 4
      · rw [if_pos (Or.inr (i4.mpr e)), if_pos e]
      · rw [if_neg (fun f => f.elim y (fun f => e (i4.mp f))), if_neg e]
        exact nw.2 y i (by omega)
theorem sid_eq (mk it it' f : Nat) (hm : it % 2 = it' % 2) : sidI (nI mk) it f = sidM mk it' f := by
  have g : sidF it f = sidG it' f := by
    unfold sidF sidG
    rw [hm]
    by_cases q : f < 8
    · rw [if_pos q]
      rcases Nat.mod_two_eq_zero_or_one it' with z | z
      · rw [z, if_neg (by omega), Nat.xor_zero]
      · rw [z, if_pos ⟨q, rfl⟩]
    · rw [if_neg q, if_neg (fun e => q e.1)]
  unfold sidI sidM hasI
  rw [g]
  obtain ⟨j, hj, e⟩ := pk_andE (nI mk >>> (nI (sidG it' f) &&& 31)) (m := nI 1) 1 (by decide +kernel)
  rw [e]
  have a : nI j = 0 ↔ j = 0 := by rw [← nI_0]; exact nI_eq (by omega) (by omega)
  have b : nI j = nI 1 ↔ j = 1 := nI_eq (by omega) (by omega)
  by_cases q : j = 0
  · rw [if_pos (if_pos (a.mpr q)), if_neg (fun e => by have := b.mp e; omega)]
  · have : j = 1 := by omega
    rw [if_neg (by rw [if_neg (fun e => q (a.mp e))]; omega), if_pos (b.mpr this)]
theorem set_eq {n : Nat} {X : Fx} {T : LVS} {D : Dy} {pe : Nat → Option Nat} (hX : WfX n X) (hD : WfD n D) (hS : StR n X T.2.2 pe) (hR : Rns n (xLk X)) (h : ∀ c, c < n → CarR X T D c) : ∀ k, k ≤ n → setN pe T.1 T.2.2 k = sumM X D k
  | 0, _ => rfl
  | k + 1, hk => by
    unfold setN sumM
    rw [set_eq hX hD hS hR h k (by omega)]
    have hC := h k (by omega)
    have : setB pe T.1 T.2.2 k = setM X D k := by
      unfold setB setM
      rw [sta_eq hX hD (by omega) hC, tru_tr hX hS hR (by omega), hC.2.2.1]
      have e := map_eq hX (hD.2.2 k (by omega)).1.2 (trR_lt hX (show k < n by omega))
      by_cases q : staM D k = 2 ∧ dDi D k = trR X k
      · rw [if_pos q, if_pos ⟨q.1, e.mpr q.2⟩]
      · rw [if_neg q, if_neg (fun z => q ⟨z.1, e.mp z.2⟩)]
    rw [this]
