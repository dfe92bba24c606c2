/-! A round: what each step of a car keeps, and what it does -/
/-- the frames' names -/
def isF (x : Nat) : Prop := 34 ≤ x ∧ ((7 ≤ (x - 34) % 32 ∧ (x - 34) % 32 ≤ 13) ∨ (19 ≤ (x - 34) % 32 ∧ (x - 34) % 32 ≤ 25))
def Kp (P : Nat → Prop) (T T' : LVS) : Prop := ∀ x, ¬ P x → T'.1 x = T.1 x ∧ T'.2.1 x = T.2.1 x ∧ T'.2.2 x = T.2.2 x
theorem Kp.rf {P : Nat → Prop} (T : LVS) : Kp P T T := fun _ _ => ⟨rfl, rfl, rfl⟩
theorem Kp.tr {P : Nat → Prop} {T T1 T2 : LVS} (h1 : Kp P T T1) (h2 : Kp P T1 T2) : Kp P T T2 := fun x hx =>
  ⟨(h2 x hx).1.trans (h1 x hx).1, (h2 x hx).2.1.trans (h1 x hx).2.1, (h2 x hx).2.2.trans (h1 x hx).2.2⟩
def Ks (T T' : LVS) : Prop := ∀ x k, k = 0 ∨ k = 1 ∨ k = 6 → T'.2.2 x k = T.2.2 x k
theorem Ks.rf (T : LVS) : Ks T T := fun _ _ _ => rfl
theorem Ks.tr {T T1 T2 : LVS} (h1 : Ks T T1) (h2 : Ks T1 T2) : Ks T T2 := fun x k hk => (h2 x k hk).trans (h1 x k hk)
theorem up2_ks {S : Nat → Nat → Int32} {x j : Nat} {v : Int32} (h0 : j ≠ 0) (h1 : j ≠ 1) (h6 : j ≠ 6) : ∀ y k, k = 0 ∨ k = 1 ∨ k = 6 → up2 S x j v y k = S y k := by
  intro y k hk
  by_cases e : y = x
  · subst e; exact up2_k (by omega)
  · exact up2_n e k
theorem up2_o {S : Nat → Nat → Int32} {x y k : Nat} {v : Int32} (h : y ≠ x) : up2 S x k v y = S y := by funext j; exact up2_n h j
theorem StR.ks {n : Nat} {X : Fx} {T T' : LVS} {pe : Nat → Option Nat} (h : StR n X T.2.2 pe) (k : Ks T T') : StR n X T'.2.2 pe := by
  obtain ⟨h1, h2, h3, h4, h5⟩ := h
  exact ⟨fun c hc => by rw [k _ _ (by omega)]; exact h1 c hc, fun c hc => by rw [k _ _ (by omega)]; exact h2 c hc, fun p hp => by rw [k _ _ (by omega)]; exact h3 p hp, h4, fun p hp => by rw [k _ _ (by omega)]; exact h5 p hp⟩
theorem nF_e (p : Nat) : ¬ isF (eN p) ∧ ¬ isF (eN p + 1) ∧ ¬ isF (eN p + 3) := by
  unfold isF; rw [eN_v]
  rcases Nat.mod_two_eq_zero_or_one p with q | q <;> rw [q] <;> refine ⟨?_, ?_, ?_⟩ <;> omega
theorem nF_c (c : Nat) : ¬ isF (carB c) ∧ ¬ isF (carB c + 26) ∧ ¬ isF (carB c + 28) ∧ ¬ isF (carB c + 30) ∧ ¬ isF (carB c + 31) := by
  unfold isF; simp only [carB]
  refine ⟨?_, ?_, ?_, ?_, ?_⟩ <;> omega
theorem yF_e (p : Nat) : isF (eN p + 5) ∧ isF (eN p + 5 + 1) ∧ isF (eN p + 5 + 3) ∧ isF (eN p + 5 + 5) ∧ isF (eN p + 5 + 6) := by
  unfold isF; rw [eN_v]
  rcases Nat.mod_two_eq_zero_or_one p with q | q <;> rw [q] <;> refine ⟨?_, ?_, ?_, ?_, ?_⟩ <;> omega
theorem EndR.kp {P : Nat → Prop} {X : Fx} {T T' : LVS} {D D' : Dy} {p : Nat} (h : EndR X T D p) (k : Kp P T T') (n0 : ¬ P (eN p)) (n1 : ¬ P (eN p + 1)) (n3 : ¬ P (eN p + 3)) (e1 : dWh D' p = dWh D p) (e2 : dSi D' p = dSi D p) (e3 : dVw D' p = dVw D p) (e4 : dTo D' p = dTo D p) : EndR X T' D' p := by
  obtain ⟨h1, h2, h3, h4⟩ := h
  refine ⟨?_, ?_, ?_, ?_⟩
  · rw [(k _ n0).2.2, e1]; exact h1
  · rw [(k _ n0).2.2, e2]; exact h2
  · rw [(k _ n1).1, e3]; exact h3
  · rw [(k _ n3).1, e4]; exact h4
theorem DirR.kp {P : Nat → Prop} {X : Fx} {T T' : LVS} {D D' : Dy} {c : Nat} (h : DirR X T D c) (k : Kp P T T') (n0 : ¬ P (carB c)) (n1 : ¬ P (carB c + 26)) (n3 : ¬ P (carB c + 30)) (n4 : ¬ P (carB c + 31)) (e1 : dDi D' c = dDi D c) (e2 : dAg D' c = dAg D c) (e3 : dBy D' c = dBy D c) (e4 : dCr D' c = dCr D c) (e5 : dCh D' c = dCh D c) : DirR X T' D' c := by
  obtain ⟨h1, h2, h3, h4, h5, h6⟩ := h
  refine ⟨?_, ?_, ?_, ?_, ?_, ?_⟩
  · rw [(k _ n1).1, e1]; exact h1
  · rw [(k _ n0).2.2, e1]; exact h2
  · rw [(k _ n0).2.2, e5]; exact h3
  · rw [(k _ n0).2.2, e4]; exact h4
  · rw [(k _ n0).2.2, e3]; exact h5
  · unfold NewR
    rw [(k _ n3).2.1, (k _ n4).2.1, e1, e2, e3]; exact h6
theorem FrmR.kp {P : Nat → Prop} {X : Fx} {T T' : LVS} {D : Dy} {q : Nat} (h : FrmR X T D q) (k : Kp P T T') (n0 : ¬ P (eN q + 5)) (n1 : ¬ P (eN q + 5 + 1)) (n3 : ¬ P (eN q + 5 + 3)) (n4 : ¬ P (eN q + 5 + 5)) (n5 : ¬ P (eN q + 5 + 6)) : FrmR X T' D q := by
  obtain ⟨h1, h2, h3, h4, h5⟩ := h
  refine ⟨?_, ?_, ?_, ?_, ?_⟩
  · rw [(k _ n1).1]; exact h1
  · rw [(k _ n3).1]; exact h2
  · rw [(k _ n0).2.2]; exact h3
  · rw [(k _ n0).2.2]; exact h4
  · rw [(k _ n4).2.1, (k _ n5).2.1]; exact h5
/-- the names of the frame of end p -/
def frP (p x : Nat) : Prop := x = eN p + 5 ∨ x = eN p + 5 + 1 ∨ x = eN p + 5 + 3 ∨ x = eN p + 5 + 5 ∨ x = eN p + 5 + 6
theorem frP_F {p x : Nat} (h : frP p x) : isF x := by
  have y := yF_e p
  rcases h with rfl | rfl | rfl | rfl | rfl
  · exact y.1
  · exact y.2.1
  · exact y.2.2.1
  · exact y.2.2.2.1
  · exact y.2.2.2.2
theorem frP_ne {p q x : Nat} (h : frP p x) (hq : frP q x) : p = q := by
  unfold frP at h hq
  rw [eN_v] at h hq
  omega
theorem mkE_kp (pe : Nat → Option Nat) (p : Nat) (T : LVS) : Kp (frP p) T (mkE pe (p / 2) (p % 2) T) := by
  unfold mkE
  split
  · exact Kp.rf T
  · intro x hx
    have n0 : x ≠ carE (p / 2) (p % 2) + 5 := fun e => hx (Or.inl e)
    have n1 : x ≠ carE (p / 2) (p % 2) + 5 + 1 := fun e => hx (Or.inr (Or.inl e))
    have n3 : x ≠ carE (p / 2) (p % 2) + 5 + 3 := fun e => hx (Or.inr (Or.inr (Or.inl e)))
    have n5 : x ≠ carE (p / 2) (p % 2) + 5 + 5 := fun e => hx (Or.inr (Or.inr (Or.inr (Or.inl e))))
    have n6 : x ≠ carE (p / 2) (p % 2) + 5 + 6 := fun e => hx (Or.inr (Or.inr (Or.inr (Or.inr e))))
    refine ⟨?_, ?_, ?_⟩
    · show fillL _ _ _ x = _; unfold fillL; rw [up1_n n3, up1_n n1]
    · show fillV _ _ _ _ _ _ x = _; unfold fillV; rw [up1_n n6, up1_n n5]
    · show fillS _ _ x = _; unfold fillS; rw [up2_o n0, up2_o n0]
theorem mkE_ks (pe : Nat → Option Nat) (c i : Nat) (T : LVS) : Ks T (mkE pe c i T) := by
  unfold mkE
  split
  · exact Ks.rf T
  · intro x k hk
    show fillS T.2.2 _ x k = _
    unfold fillS
    rw [up2_ks (by omega) (by omega) (by omega) x k hk, up2_ks (by omega) (by omega) (by omega) x k hk]
theorem nF_P {p x : Nat} (h : ¬ isF x) : ¬ frP p x := fun e => h (frP_F e)
theorem CarR.kf {X : Fx} {T T' : LVS} {D : Dy} {c : Nat} (h : CarR X T D c) (k : Kp isF T T') : CarR X T' D c := by
  have a := nF_e (2 * c)
  have b := nF_e (2 * c + 1)
  have d := nF_c c
  exact ⟨h.1.kp k a.1 a.2.1 a.2.2 rfl rfl rfl rfl, h.2.1.kp k b.1 b.2.1 b.2.2 rfl rfl rfl rfl, h.2.2.kp k d.1 d.2.1 d.2.2.2.1 d.2.2.2.2 rfl rfl rfl rfl rfl⟩
theorem Kp.mono {P Q : Nat → Prop} {T T' : LVS} (h : Kp P T T') (i : ∀ x, P x → Q x) : Kp Q T T' := fun x hx => h x (fun e => hx (i x e))
theorem mkE_frm {n : Nat} {X : Fx} {T : LVS} {D : Dy} {pe : Nat → Option Nat} {p : Nat} (hp : p < 2 * n) (hD : WfD n D) (hS : StR n X T.2.2 pe) (h : CarR X T D (p / 2)) (hl : xLk X p ≠ none) : FrmR X (mkE pe (p / 2) (p % 2) T) D p := by
  have pn : pe (carE (p / 2) (p % 2)) ≠ none := by
    have := hS.2.2.2.1 p hp
    show pe (eN p) ≠ none
    rw [this]
    cases hq : xLk X p with
    | none => exact absurd hq hl
    | some q => intro e; cases e
  unfold mkE
  rw [if_neg pn]
  have ex : EndR X T D (p ^^^ 1) := h.e (x1_div p)
  have hd := h.2.2
  have wd := (hD.2.2 (p / 2) (by omega))
  have ho : opp (carE (p / 2) (p % 2)) = eN (p ^^^ 1) := eN_opp p
  have num : clN (T.2.2 (carB (p / 2)) 7) = rowNo (p / 2) (dDi D (p / 2)) 0 := by
    rw [hd.2.1]
    have a := rowNo_le (p / 2) (dDi D (p / 2)) 0
    have b := wd.1.1
    exact clN_nI (by omega)
  refine ⟨?_, ?_, ?_, ?_, ?_⟩
  · show fillL T.1 (p / 2) (eN p) (eN p + 5 + 1) = _
    unfold fillL
    rw [up1_n (by omega), up1_s, eN_opp]
    exact ex.2.2.1
  · show fillL T.1 (p / 2) (eN p) (eN p + 5 + 3) = _
    unfold fillL
    rw [up1_s]
    exact hd.1
  · show fillS T.2.2 (eN p) (eN p + 5) 4 = _
    unfold fillS
    rw [up2_k (by omega), up2_s]
    exact hS.2.2.1 p hp
  · show fillS T.2.2 (eN p) (eN p + 5) 5 = _
    unfold fillS
    rw [up2_s, eN_opp]
    exact ex.1
  · intro j hj
    show NewR D (p / 2) _ (fillV T.1 T.2.1 (T.2.2 (carB (p / 2)) 8) (clN (T.2.2 (carB (p / 2)) 7)) (p / 2) (eN p) (eN p + 5 + 5) j) (fillV T.1 T.2.1 (T.2.2 (carB (p / 2)) 8) (clN (T.2.2 (carB (p / 2)) 7)) (p / 2) (eN p) (eN p + 5 + 6) j)
    unfold fillV
    rw [up1_s, up1_n (by omega), up1_s, num]
    unfold fillA
    have len : (T.1 (carB (p / 2) + 26)).length = (dDi D (p / 2)).length := by rw [hd.1, List.length_map]
    by_cases e : j + 1 = rowNo (p / 2) (dDi D (p / 2)) 0
    · rw [if_pos e, if_pos e]
      obtain ⟨i, g1, g2, g3⟩ := rowNo_p (x := p / 2) (l := dDi D (p / 2)) (k := 0) (by omega)
      have : i = j := by omega
      subst this
      rw [g3]
      exact ⟨wd.2.2.2.1.symm, fun _ => hd.2.2.2.2.1⟩
    · rw [if_neg e, if_neg e, len, if_pos hj, if_pos hj]
      exact hd.2.2.2.2.2 j hj e
theorem mkC_P (pe : Nat → Option Nat) (c : Nat) (T : LVS) : mkC pe c T = mkE pe ((2 * c + 1) / 2) ((2 * c + 1) % 2) (mkE pe ((2 * c) / 2) ((2 * c) % 2) T) := by
  unfold mkC
  rw [show (2 * c) / 2 = c by omega, show (2 * c) % 2 = 0 by omega, show (2 * c + 1) / 2 = c by omega, show (2 * c + 1) % 2 = 1 by omega]
theorem frm_step {n : Nat} {X : Fx} {T T0 : LVS} {D : Dy} {pe : Nat → Option Nat} {p : Nat} (hp : p < 2 * n) (hD : WfD n D) (hS : StR n X T0.2.2 pe) (hC : ∀ c, c < n → CarR X T0 D c) (k0 : Kp isF T0 T) (s0 : Ks T0 T) (hF : ∀ q, q < p → xLk X q ≠ none → FrmR X T D q) :
    Kp isF T0 (mkE pe (p / 2) (p % 2) T) ∧ Ks T0 (mkE pe (p / 2) (p % 2) T) ∧ ∀ q, q < p + 1 → xLk X q ≠ none → FrmR X (mkE pe (p / 2) (p % 2) T) D q := by
  have kk := mkE_kp pe p T
  refine ⟨k0.tr (kk.mono (fun x => frP_F)), s0.tr (mkE_ks pe _ _ T), fun q hq hl => ?_⟩
  by_cases e : q = p
  · subst e
    exact mkE_frm hp hD (hS.ks s0) ((hC (q / 2) (by omega)).kf k0) hl
  · refine (hF q (by omega) hl).kp kk ?_ ?_ ?_ ?_ ?_
    · exact fun z => e (frP_ne (Or.inl rfl) z)
    · exact fun z => e (frP_ne (Or.inr (Or.inl rfl)) z)
    · exact fun z => e (frP_ne (Or.inr (Or.inr (Or.inl rfl))) z)
    · exact fun z => e (frP_ne (Or.inr (Or.inr (Or.inr (Or.inl rfl)))) z)
    · exact fun z => e (frP_ne (Or.inr (Or.inr (Or.inr (Or.inr rfl)))) z)
theorem mkR_frm {n : Nat} {X : Fx} {T : LVS} {D : Dy} {pe : Nat → Option Nat} (hD : WfD n D) (hS : StR n X T.2.2 pe) (hC : ∀ c, c < n → CarR X T D c) : ∀ k, k ≤ n →
    Kp isF T (mkR pe k T) ∧ Ks T (mkR pe k T) ∧ ∀ q, q < 2 * k → xLk X q ≠ none → FrmR X (mkR pe k T) D q
  | 0, _ => ⟨Kp.rf T, Ks.rf T, fun q hq => by omega⟩
  | k + 1, hk => by
    obtain ⟨a1, a2, a3⟩ := mkR_frm hD hS hC k (by omega)
    show Kp isF T (mkC pe k (mkR pe k T)) ∧ Ks T (mkC pe k (mkR pe k T)) ∧ _
    show Kp isF T (mkC pe k (mkR pe k T)) ∧ Ks T (mkC pe k (mkR pe k T)) ∧ ∀ q, q < 2 * (k + 1) → xLk X q ≠ none → FrmR X (mkC pe k (mkR pe k T)) D q
    rw [mkC_P]
    obtain ⟨b1, b2, b3⟩ := frm_step (p := 2 * k) (by omega) hD hS hC a1 a2 a3
    obtain ⟨c1, c2, c3⟩ := frm_step (p := 2 * k + 1) (by omega) hD hS hC b1 b2 b3
    exact ⟨c1, c2, c3⟩
