/-! What always holds: putting, coupling, uncoupling -/
def putD (D : Dy) (c i : Nat) (v : Int32) : Dy := (dVw D, dWh D, dSi D, dTo D, dDi D, dAg D, fun a k j => if a = c ∧ k = c ∧ j = i then v else dBy D a k j, dCr D, dCh D)
theorem Inv.put {n : Nat} {X : Fx} {D : Dy} {F : Nat → Int32} {T : LVS} {pe bi : Nat → Option Nat} {c i v : Nat} (h : Inv n X D F T pe bi) (hc : c < n) (hi : i < 4) (hv : v < 256) : Inv n X (putD D c i (nI v)) F (T.1, T.2.1, up2 T.2.2 (carB c) 8 (T.2.2 (carB c) 8 &&& (nI 255 <<< (nI 8 * nI i &&& 31) ^^^ -1) ||| nI v <<< (nI 8 * nI i &&& 31))) pe bi := by
  obtain ⟨h1, h2, h3, h4, h5, h6, h7, h8, h9, h10, h11⟩ := h
  have z : ∀ k w, up2 T.2.2 (carB c) 8 w 0 k = T.2.2 0 k := fun k w => up2_n (by simp only [carB]; omega) k
  refine ⟨h1, h2, h3, h4, h5.up (okUp_c (fun e => by omega) (by omega)), h6, h7, ?_, fun k hk => ?_, ?_, fun k hk => ?_⟩
  · exact h8.ks (T := T) (T' := (T.1, T.2.1, _)) (fun x k hk => up2_ks (by omega) (by omega) (by omega) x k hk)
  · have old := h9 k hk
    have v0 := eN_v (2 * k)
    have v1 := eN_v (2 * k + 1)
    have eE : ∀ p w, EndR X T D p → EndR X (T.1, T.2.1, up2 T.2.2 (carB c) 8 w) (putD D c i (nI v)) p := by
      intro p w hp
      have vp := eN_v p
      have : eN p ≠ carB c := by rcases Nat.mod_two_eq_zero_or_one p with q | q <;> simp only [carB] <;> omega
      exact ⟨(up2_n this 7).trans hp.1, (up2_n this 8).trans hp.2.1, hp.2.2.1, hp.2.2.2⟩
    refine ⟨eE _ _ old.1, eE _ _ old.2.1, ?_⟩
    obtain ⟨a1, a2, a3, a4, a5, a6⟩ := old.2.2
    by_cases q : k = c
    · subst q
      refine ⟨a1, (up2_k (by omega)).trans a2, (up2_k (by omega)).trans a3, (up2_k (by omega)).trans a4, ?_, ?_⟩
      · intro j hj
        show byI (up2 T.2.2 (carB k) 8 _ (carB k) 8) (nI j) = if k = k ∧ k = k ∧ j = i then nI v else dBy D k k j
        rw [up2_s, by_put _ hi hj hv]
        by_cases e : j = i
        · rw [if_pos e, if_pos ⟨rfl, rfl, e⟩]
        · rw [if_neg e, if_neg (fun g => e g.2.2)]; exact a5 j hj
      · intro j hj hn
        have hj : j < (dDi D k).length := hj
        have hn : j + 1 ≠ rowNo k (dDi D k) 0 := hn
        have b := a6 j hj hn
        have ne : (dDi D k).getD j 0 / 2 ≠ k := by
          intro e
          have hm : rowNo k (dDi D k) 0 ≠ 0 := fun z => (rowNo_0.mp z) (at_rowIds hj e)
          obtain ⟨y, g1, g2, g3⟩ := rowNo_p hm
          have := nd_ix (h2.2.2 k hk).2.1 hj g1 (by rw [e, g3])
          omega
        refine ⟨b.1, fun g j2 hj2 => ?_⟩
        show _ = if k = k ∧ (dDi D k).getD j 0 / 2 = k ∧ j2 = i then nI v else _
        rw [if_neg (fun g => ne g.2.1)]
        exact b.2 g j2 hj2
    · have hne : carB k ≠ carB c := by simp only [carB]; omega
      refine ⟨a1, (up2_n hne 7).trans a2, (up2_n hne 9).trans a3, (up2_n hne 10).trans a4, ?_, ?_⟩
      · intro j hj
        show byI (up2 T.2.2 (carB c) 8 _ (carB k) 8) (nI j) = if k = c ∧ k = c ∧ j = i then nI v else dBy D k k j
        rw [up2_n hne, if_neg (fun g => q g.1)]; exact a5 j hj
      · intro j hj hn
        have b := a6 j hj hn
        refine ⟨b.1, fun g j2 hj2 => ?_⟩
        show _ = if k = c ∧ _ ∧ j2 = i then nI v else _
        rw [if_neg (fun g => q g.1)]
        exact b.2 g j2 hj2
  · show up2 T.2.2 (carB c) 8 _ 0 4 = _ ∧ _ ∧ up2 T.2.2 (carB c) 8 _ 0 5 = _ ∧ up2 T.2.2 (carB c) 8 _ 0 7 = _ ∧ up2 T.2.2 (carB c) 8 _ 0 8 = _
    rw [z, z, z, z]; exact h10
  · show takI (up2 T.2.2 (carB c) 8 _ 0 6) k = true ↔ _
    rw [z]; exact h11 k hk
theorem free_eq {t : Int32} {us : Nat → Nat} (h : ∀ k, k < 24 → (takI t k = true ↔ us k = 1)) {r : Nat} (hr : r < 24) (h0 : us r = 0) (h1 : ∀ k, k < r → us k = 1) : ∀ (m k : Nat), m + k = 24 → k ≤ r → freeI t m k = r
  | 0, k, e, hk => by omega
  | m + 1, k, e, hk => by
    unfold freeI
    by_cases q : k = r
    · subst q
      rw [if_neg (fun z => by have := (h k (by omega)).mp z; omega)]
    · rw [if_pos ((h k (by omega)).mpr (h1 k (by omega)))]
      exact free_eq h hr h0 h1 m (k + 1) (by omega) (by omega)
theorem eN_pos (p : Nat) : eN p ≠ 0 := by rw [eN_v]; omega
theorem eN_car (p c : Nat) : carB c ≠ eN p := by rw [eN_v]; simp only [carB]; rcases Nat.mod_two_eq_zero_or_one p with q | q <;> omega
theorem couS_7 {S : Nat → Nat → Int32} {x y : Nat} : ∀ z k, z ≠ 0 → 7 ≤ k → couS S x y z k = S z k := by
  intro z k hz hk
  have six : ∀ {S : Nat → Nat → Int32} {w : Nat} {v : Int32}, up2 S w 6 v z k = S z k := by
    intro S w v
    by_cases e : z = w
    · subst e; exact up2_k (by omega)
    · exact up2_n e k
  unfold couS
  rw [six, six, up2_n hz, up2_n hz]
theorem couM_e {X : Fx} {p q : Nat} (h : xLk X p = some q) : couM X p = nI (xNu X p) := by unfold couM; rw [h]
theorem Inv.cou {n : Nat} {X : Fx} {D : Dy} {F F' : Nat → Int32} {T : LVS} {pe bi : Nat → Option Nat} {p q r : Nat} (h : Inv n X D F T pe bi) (hp : p < 2 * n) (hq : q < 2 * n) (hne : p ≠ q) (h0 : xLk X p = none) (h1 : xLk X q = none) (hr : r < 24) (hu : xUs X r = 0) (hl : ∀ k, k < r → xUs X k = 1) (hd : q / 2 ∉ rowIds (trM X (p / 2)))
    (f1 : F' 1 = F 1) (f7 : F' 7 = F 7 + nI 1) (f8 : F' 8 = F 8) (f9 : F' 9 = F 9) :
    freeI (T.2.2 0 6) 24 0 = r ∧ Inv n (couX X p q r) D F' (T.1, T.2.1, couS T.2.2 (eN p) (eN q)) (couP pe (eN p) (eN q)) bi := by
  have fr := free_eq h.tk hr hu hl 24 0 rfl (Nat.zero_le _)
  have nx : eN p ≠ eN q := fun e => hne (eN_inj e)
  have co := h.co
  have hS : couS T.2.2 (eN p) (eN q) = up2 (up2 (up2 (up2 T.2.2 0 6 (T.2.2 0 6 ||| (nI 1) <<< (nI r &&& 31))) 0 5 (T.2.2 0 5 + nI 1)) (eN p) 6 (nI r)) (eN q) 6 (nI r) := by unfold couS; rw [fr]
  have e0 : ∀ k, couS T.2.2 (eN p) (eN q) 0 k = up2 (up2 T.2.2 0 6 (T.2.2 0 6 ||| (nI 1) <<< (nI r &&& 31))) 0 5 (T.2.2 0 5 + nI 1) 0 k := by
    intro k
    rw [hS, up2_n (Ne.symm (eN_pos q)), up2_n (Ne.symm (eN_pos p))]
  have eo : ∀ x k, x ≠ 0 → k ≠ 6 → couS T.2.2 (eN p) (eN q) x k = T.2.2 x k := by
    intro x k hx hk
    have six : ∀ {S : Nat → Nat → Int32} {w : Nat} {v : Int32}, up2 S w 6 v x k = S x k := by
      intro S w v
      by_cases e : x = w
      · subst e; exact up2_k hk
      · exact up2_n e k
    rw [hS, six, six, up2_n hx, up2_n hx]
  refine ⟨fr, h.wx.cou hp hq hne h0 h1 hr, h.wd, h.bi, ?_, ?_, h.nu.cou h.wx hp hne h0 h1 hu, h.rn.cou h.wx.1 hp hq h0 h1 hd, ?_, fun c hc => ?_, ?_, ?_⟩
  · intro e x he hx
    have hx : couP pe (eN p) (eN q) e = some x := hx
    unfold couP at hx
    by_cases a : e = eN q
    · subst a; rw [up1_s] at hx; cases hx; exact eN_N hp
    · rw [up1_n a] at hx
      by_cases b : e = eN p
      · subst b; rw [up1_s] at hx; cases hx; exact eN_N hq
      · rw [up1_n b] at hx; exact h.pe e x he hx
  · show InvS n (couS T.2.2 (eN p) (eN q))
    rw [hS]
    refine InvS.up (InvS.up (InvS.up (InvS.up h.is (okUp_0 _ (by omega))) (okUp_0 _ (by omega))) ?_) ?_
    · exact okUp_e (eN_N hp) (fun e => by omega) (fun e => by omega) (by omega)
    · exact okUp_e (eN_N hq) (fun e => by omega) (fun e => by omega) (by omega)
  · obtain ⟨s1, s2, s3, s4, s5⟩ := h.st
    refine ⟨fun c hc => ?_, fun c hc => ?_, fun z hz => ?_, fun z hz => ?_, fun z hz => ?_⟩
    · show couS _ _ _ _ 0 = _
      rw [eo _ _ (by simp only [carB]; omega) (by omega)]; exact s1 c hc
    · show couS _ _ _ _ 1 = _
      rw [eo _ _ (by simp only [carB]; omega) (by omega)]; exact s2 c hc
    · show couS _ _ _ _ 0 = _
      rw [eo _ _ (eN_pos z) (by omega)]; exact s3 z hz
    · have P := couX_p (X := X) (r := r) hne
      show couP pe (eN p) (eN q) (eN z) = _
      unfold couP
      by_cases a : z = q
      · subst a; rw [up1_s, P.2.1]; rfl
      · rw [up1_n (fun e => a (eN_inj e))]
        by_cases b : z = p
        · subst b; rw [up1_s, P.1]; rfl
        · rw [up1_n (fun e => b (eN_inj e)), (couX_o b a).1]; exact s4 z hz
    · have P := couX_p (X := X) (r := r) hne
      show couS T.2.2 (eN p) (eN q) (eN z) 6 = _
      rw [hS]
      by_cases a : z = q
      · subst a; rw [up2_s, couM_e P.2.1, P.2.2.2]
      · rw [up2_n (fun e => a (eN_inj e))]
        by_cases b : z = p
        · subst b; rw [up2_s, couM_e P.1, P.2.2.1]
        · have o := couX_o (X := X) (r := r) b a
          rw [up2_n (fun e => b (eN_inj e)), up2_n (eN_pos z), up2_n (eN_pos z), s5 z hz]
          unfold couM
          rw [o.1, o.2]
  · exact (h.ca c hc).sl (fun x k hx hk => couS_7 x k hx hk)
  · refine ⟨?_, by rw [f1]; exact co.2.1, ?_, ?_, ?_⟩
    · rw [show (T.1, T.2.1, couS T.2.2 (eN p) (eN q)).2.2 0 4 = couS T.2.2 (eN p) (eN q) 0 4 from rfl, e0, up2_k (by omega), up2_k (by omega)]; exact co.1
    · rw [show (T.1, T.2.1, couS T.2.2 (eN p) (eN q)).2.2 0 5 = couS T.2.2 (eN p) (eN q) 0 5 from rfl, e0, up2_s, f7, co.2.2.1]
    · rw [show (T.1, T.2.1, couS T.2.2 (eN p) (eN q)).2.2 0 7 = couS T.2.2 (eN p) (eN q) 0 7 from rfl, e0, up2_k (by omega), up2_k (by omega), f8]; exact co.2.2.2.1
    · rw [show (T.1, T.2.1, couS T.2.2 (eN p) (eN q)).2.2 0 8 = couS T.2.2 (eN p) (eN q) 0 8 from rfl, e0, up2_k (by omega), up2_k (by omega), f9]; exact co.2.2.2.2
  · intro k hk
    rw [show (T.1, T.2.1, couS T.2.2 (eN p) (eN q)).2.2 0 6 = couS T.2.2 (eN p) (eN q) 0 6 from rfl, e0, up2_k (by omega), up2_s, tak_or _ hk hr]
    show _ ↔ up1 (xUs X) r 1 k = 1
    by_cases e : k = r
    · subst e; rw [up1_s]; simp
    · rw [up1_n e]; simp [e]; exact h.tk k hk
theorem Inv.unc {n : Nat} {X : Fx} {D : Dy} {F F' : Nat → Int32} {T : LVS} {pe bi : Nat → Option Nat} {p q : Nat} (h : Inv n X D F T pe bi) (hp : p < 2 * n) (hl : xLk X p = some q)
    (f1 : F' 1 = F 1) (f7 : F' 7 = F 7 - nI 1) (f8 : F' 8 = F 8) (f9 : F' 9 = F 9) :
    Inv n (uncX X p q) D F' (T.1, T.2.1, uncS T.2.2 (eN p) (eN q)) (uncP pe (eN p) (eN q)) bi := by
  obtain ⟨w1, w2, w3, w4, w5⟩ := h.wx.2.2.2.2.1 p q hp hl
  have hne := h.nu.1 p q hp hl
  have co := h.co
  have s6 : T.2.2 (eN p) 6 = nI (xNu X p) := by rw [h.st.2.2.2.2 p hp]; exact couM_e hl
  have hS : uncS T.2.2 (eN p) (eN q) = up2 (up2 (up2 (up2 T.2.2 0 6 (T.2.2 0 6 &&& ((nI 1) <<< (nI (xNu X p) &&& 31) ^^^ -1))) 0 5 (T.2.2 0 5 - nI 1)) (eN p) 6 (-1)) (eN q) 6 (-1) := by unfold uncS; rw [s6]
  have e0 : ∀ k, uncS T.2.2 (eN p) (eN q) 0 k = up2 (up2 T.2.2 0 6 (T.2.2 0 6 &&& ((nI 1) <<< (nI (xNu X p) &&& 31) ^^^ -1))) 0 5 (T.2.2 0 5 - nI 1) 0 k := by
    intro k
    rw [hS, up2_n (Ne.symm (eN_pos q)), up2_n (Ne.symm (eN_pos p))]
  have eo : ∀ x k, x ≠ 0 → k ≠ 6 → uncS T.2.2 (eN p) (eN q) x k = T.2.2 x k := by
    intro x k hx hk
    have six : ∀ {S : Nat → Nat → Int32} {w : Nat} {v : Int32}, up2 S w 6 v x k = S x k := by
      intro S w v
      by_cases e : x = w
      · subst e; exact up2_k hk
      · exact up2_n e k
    rw [hS, six, six, up2_n hx, up2_n hx]
  refine ⟨h.wx.unc h.nu hp hl, h.wd, h.bi, ?_, ?_, h.nu.unc h.wx hp hl, h.rn.unc hl w2, ?_, fun c hc => ?_, ?_, ?_⟩
  · intro e x he hx
    have hx : uncP pe (eN p) (eN q) e = some x := hx
    unfold uncP at hx
    by_cases a : e = eN q
    · subst a; rw [up1_s] at hx; cases hx
    · rw [up1_n a] at hx
      by_cases b : e = eN p
      · subst b; rw [up1_s] at hx; cases hx
      · rw [up1_n b] at hx; exact h.pe e x he hx
  · show InvS n (uncS T.2.2 (eN p) (eN q))
    rw [hS]
    refine InvS.up (InvS.up (InvS.up (InvS.up h.is (okUp_0 _ (by omega))) (okUp_0 _ (by omega))) ?_) ?_
    · exact okUp_e (eN_N hp) (fun e => by omega) (fun e => by omega) (by omega)
    · exact okUp_e (eN_N w1) (fun e => by omega) (fun e => by omega) (by omega)
  · obtain ⟨s1, s2, s3, s4, s5⟩ := h.st
    have lp : xLk (uncX X p q) p = none := up1_s
    have lq : xLk (uncX X p q) q = none := by show up1 _ p _ q = _; rw [up1_n hne]; exact up1_s
    refine ⟨fun c hc => ?_, fun c hc => ?_, fun z hz => ?_, fun z hz => ?_, fun z hz => ?_⟩
    · show uncS _ _ _ _ 0 = _
      rw [eo _ _ (by simp only [carB]; omega) (by omega)]; exact s1 c hc
    · show uncS _ _ _ _ 1 = _
      rw [eo _ _ (by simp only [carB]; omega) (by omega)]; exact s2 c hc
    · show uncS _ _ _ _ 0 = _
      rw [eo _ _ (eN_pos z) (by omega)]; exact s3 z hz
    · show uncP pe (eN p) (eN q) (eN z) = _
      unfold uncP
      by_cases a : z = q
      · subst a; rw [up1_s, lq]; rfl
      · rw [up1_n (fun e => a (eN_inj e))]
        by_cases b : z = p
        · subst b; rw [up1_s, lp]; rfl
        · rw [up1_n (fun e => b (eN_inj e)), uncX_o b a]; exact s4 z hz
    · show uncS T.2.2 (eN p) (eN q) (eN z) 6 = _
      rw [hS]
      by_cases a : z = q
      · subst a; rw [up2_s]; unfold couM; rw [lq]
      · rw [up2_n (fun e => a (eN_inj e))]
        by_cases b : z = p
        · subst b; rw [up2_s]; unfold couM; rw [lp]
        · rw [up2_n (fun e => b (eN_inj e)), up2_n (eN_pos z), up2_n (eN_pos z), s5 z hz]
          unfold couM
          rw [uncX_o b a]
          rfl
  · refine (h.ca c hc).sl (fun x k hx hk => eo x k hx (by omega))
  · refine ⟨?_, by rw [f1]; exact co.2.1, ?_, ?_, ?_⟩
    · rw [show (T.1, T.2.1, uncS T.2.2 (eN p) (eN q)).2.2 0 4 = uncS T.2.2 (eN p) (eN q) 0 4 from rfl, e0, up2_k (by omega), up2_k (by omega)]; exact co.1
    · rw [show (T.1, T.2.1, uncS T.2.2 (eN p) (eN q)).2.2 0 5 = uncS T.2.2 (eN p) (eN q) 0 5 from rfl, e0, up2_s, f7, co.2.2.1]
    · rw [show (T.1, T.2.1, uncS T.2.2 (eN p) (eN q)).2.2 0 7 = uncS T.2.2 (eN p) (eN q) 0 7 from rfl, e0, up2_k (by omega), up2_k (by omega), f8]; exact co.2.2.2.1
    · rw [show (T.1, T.2.1, uncS T.2.2 (eN p) (eN q)).2.2 0 8 = uncS T.2.2 (eN p) (eN q) 0 8 from rfl, e0, up2_k (by omega), up2_k (by omega), f9]; exact co.2.2.2.2
  · intro k hk
    rw [show (T.1, T.2.1, uncS T.2.2 (eN p) (eN q)).2.2 0 6 = uncS T.2.2 (eN p) (eN q) 0 6 from rfl, e0, up2_k (by omega), up2_s, tak_and _ hk w4]
    show _ ↔ up1 (xUs X) (xNu X p) 0 k = 1
    by_cases e : k = xNu X p
    · subst e; rw [up1_s]; simp
    · rw [up1_n e]; simp [e]; exact h.tk k hk
