/-! A round: the reference's two passes, car by car -/
def AgE (D D' : Dy) (p : Nat) : Prop := dVw D p = dVw D' p ∧ dWh D p = dWh D' p ∧ dSi D p = dSi D' p ∧ dTo D p = dTo D' p
def AgC (D D' : Dy) (c : Nat) : Prop := dDi D c = dDi D' c ∧ dAg D c = dAg D' c ∧ dBy D c = dBy D' c ∧ dCr D c = dCr D' c ∧ dCh D c = dCh D' c
def AgD (c : Nat) (D D' : Dy) : Prop := AgE D D' (2 * c) ∧ AgE D D' (2 * c + 1) ∧ AgC D D' c
theorem AgE.rf (D : Dy) (p : Nat) : AgE D D p := ⟨rfl, rfl, rfl, rfl⟩
theorem AgC.rf (D : Dy) (p : Nat) : AgC D D p := ⟨rfl, rfl, rfl, rfl, rfl⟩
theorem AgE.tr {D D1 D2 : Dy} {p : Nat} (h : AgE D D1 p) (g : AgE D1 D2 p) : AgE D D2 p := ⟨h.1.trans g.1, h.2.1.trans g.2.1, h.2.2.1.trans g.2.2.1, h.2.2.2.trans g.2.2.2⟩
theorem AgC.tr {D D1 D2 : Dy} {c : Nat} (h : AgC D D1 c) (g : AgC D1 D2 c) : AgC D D2 c := ⟨h.1.trans g.1, h.2.1.trans g.2.1, h.2.2.1.trans g.2.2.1, h.2.2.2.1.trans g.2.2.2.1, h.2.2.2.2.trans g.2.2.2.2⟩
theorem AgD.rf (c : Nat) (D : Dy) : AgD c D D := ⟨AgE.rf _ _, AgE.rf _ _, AgC.rf _ _⟩
theorem AgD.tr {c : Nat} {D D1 D2 : Dy} (h : AgD c D D1) (g : AgD c D1 D2) : AgD c D D2 := ⟨h.1.tr g.1, h.2.1.tr g.2.1, h.2.2.tr g.2.2⟩
theorem CarR.ag {X : Fx} {T : LVS} {D D' : Dy} {c : Nat} (h : CarR X T D c) (g : AgD c D' D) : CarR X T D' c := by
  refine ⟨?_, ?_, ?_⟩
  · unfold EndR; rw [g.1.1, g.1.2.1, g.1.2.2.1, g.1.2.2.2]; exact h.1
  · unfold EndR; rw [g.2.1.1, g.2.1.2.1, g.2.1.2.2.1, g.2.1.2.2.2]; exact h.2.1
  · unfold DirR NewR; rw [g.2.2.1, g.2.2.2.1, g.2.2.2.2.1, g.2.2.2.2.2.1, g.2.2.2.2.2.2]; exact h.2.2
theorem lkD_self {X : Fx} {losses : Int32} {D0 D D' : Dy} {p : Nat} (h : AgE D D' p) : AgE (lkD X losses D0 D p) (lkD X losses D0 D' p) p := by
  have e1 : dVw (lkD X losses D0 D p) p = lkV X losses D0 D p := up1_s
  have e2 : dWh (lkD X losses D0 D p) p = lkW X losses D0 D p := up1_s
  have e3 : dSi (lkD X losses D0 D p) p = lkS X losses D p := up1_s
  have e4 : dTo (lkD X losses D0 D p) p = lkT X losses D0 D p := up1_s
  have f1 : dVw (lkD X losses D0 D' p) p = lkV X losses D0 D' p := up1_s
  have f2 : dWh (lkD X losses D0 D' p) p = lkW X losses D0 D' p := up1_s
  have f3 : dSi (lkD X losses D0 D' p) p = lkS X losses D' p := up1_s
  have f4 : dTo (lkD X losses D0 D' p) p = lkT X losses D0 D' p := up1_s
  unfold AgE
  rw [e1, e2, e3, e4, f1, f2, f3, f4]
  unfold lkV lkW lkS lkT
  rw [h.1, h.2.1, h.2.2.1, h.2.2.2]
  exact ⟨rfl, rfl, rfl, rfl⟩
theorem lkD_oth {X : Fx} {losses : Int32} {D0 D : Dy} {p q : Nat} (h : q ≠ p) : AgE (lkD X losses D0 D p) D q := ⟨up1_n h, up1_n h, up1_n h, up1_n h⟩
theorem lkD_car {X : Fx} {losses : Int32} {D0 D : Dy} {p c : Nat} : AgC (lkD X losses D0 D p) D c := ⟨rfl, rfl, rfl, rfl, rfl⟩
theorem lkR_end {X : Fx} {losses : Int32} {D0 D : Dy} : ∀ k p, AgE (lkR X losses D0 k D) (if p < k then lkD X losses D0 D p else D) p
  | 0, p => by rw [if_neg (by omega)]; exact AgE.rf _ _
  | k + 1, p => by
    have ih := lkR_end (X := X) (losses := losses) (D0 := D0) (D := D) k p
    show AgE (lkD X losses D0 (lkR X losses D0 k D) k) _ p
    by_cases e : p = k
    · subst e
      rw [if_pos (by omega)]
      rw [if_neg (by omega)] at ih
      exact lkD_self ih
    · refine (lkD_oth e).tr ?_
      by_cases q : p < k
      · rw [if_pos (by omega)]; rw [if_pos q] at ih; exact ih
      · rw [if_neg (by omega)]; rw [if_neg q] at ih; exact ih
theorem lkR_car {X : Fx} {losses : Int32} {D0 D : Dy} {c : Nat} : ∀ k, AgC (lkR X losses D0 k D) D c
  | 0 => AgC.rf _ _
  | k + 1 => (lkD_car (D := lkR X losses D0 k D)).tr (lkR_car k)
theorem lkR_ag {n : Nat} {X : Fx} {losses : Int32} {D0 : Dy} {c : Nat} (hc : c < n) : AgD c (lkR X losses D0 (2 * n) D0) (lkD X losses D0 (lkD X losses D0 D0 (2 * c)) (2 * c + 1)) := by
  have a := lkR_end (X := X) (losses := losses) (D0 := D0) (D := D0) (2 * n) (2 * c)
  have b := lkR_end (X := X) (losses := losses) (D0 := D0) (D := D0) (2 * n) (2 * c + 1)
  rw [if_pos (by omega)] at a b
  refine ⟨a.tr ?_, b.tr ?_, lkR_car (2 * n)⟩
  · have := lkD_oth (X := X) (losses := losses) (D0 := D0) (D := lkD X losses D0 D0 (2 * c)) (p := 2 * c + 1) (q := 2 * c) (by omega)
    exact ⟨this.1.symm, this.2.1.symm, this.2.2.1.symm, this.2.2.2.symm⟩
  · refine lkD_self ?_
    have := lkD_oth (X := X) (losses := losses) (D0 := D0) (D := D0) (p := 2 * c) (q := 2 * c + 1) (by omega)
    exact ⟨this.1.symm, this.2.1.symm, this.2.2.1.symm, this.2.2.2.symm⟩
theorem see_ag {X : Fx} {D D' : Dy} {c : Nat} (h : AgD c D D') : seeM X D c = seeM X D' c := by
  unfold seeM
  rw [h.1.1, h.1.2.1, h.2.1.1, h.2.1.2.1]
theorem stD_self {X : Fx} {D D' : Dy} {c : Nat} (h : AgD c D D') : AgD c (stD X D c) (stD X D' c) := by
  refine ⟨h.1, h.2.1, ?_⟩
  have e1 : dDi (stD X D c) c = seeM X D c := up1_s
  have e2 : dAg (stD X D c) c = agN D c (seeM X D c) := up1_s
  have e5 : dCh (stD X D c) c = if dDi D c = seeM X D c then dCh D c else dCh D c + nI 1 := up1_s
  have f1 : dDi (stD X D' c) c = seeM X D' c := up1_s
  have f2 : dAg (stD X D' c) c = agN D' c (seeM X D' c) := up1_s
  have f5 : dCh (stD X D' c) c = if dDi D' c = seeM X D' c then dCh D' c else dCh D' c + nI 1 := up1_s
  unfold AgC
  rw [e1, e2, e5, f1, f2, f5, see_ag h, h.2.2.1, h.2.2.2.2.2.2]
  refine ⟨rfl, ?_, h.2.2.2.2.1, h.2.2.2.2.2.1, rfl⟩
  unfold agN
  rw [h.2.2.1, h.2.2.2.1]
theorem stD_oth {X : Fx} {D : Dy} {c c' : Nat} (h : c' ≠ c) : AgD c' (stD X D c) D := ⟨AgE.rf _ _, AgE.rf _ _, up1_n h, up1_n h, rfl, rfl, up1_n h⟩
theorem lnD_self {X : Fx} {losses : Int32} {D0 D D' : Dy} {c p : Nat} (hp : p / 2 = c) (h : AgD c D D') : AgD c (lnD X losses D0 D p) (lnD X losses D0 D' p) := by
  have hE : AgE D D' p := by
    rcases two_div hp with e | e
    · rw [e]; exact h.1
    · rw [e]; exact h.2.1
  have hA : agrM D p = agrM D' p := by unfold agrM; rw [hp, h.2.2.1, hE.2.2.2]
  unfold lnD
  cases heaQ X losses p with
  | none => exact h
  | some q =>
    show AgD c (if dTo D p = some [] then D else if agrM D p = 0 then _ else _) (if dTo D' p = some [] then D' else if agrM D' p = 0 then _ else _)
    rw [hE.2.2.2, hA]
    split
    · exact h
    · split
      · refine ⟨h.1, h.2.1, h.2.2.1, h.2.2.2.1, h.2.2.2.2.1, ?_, h.2.2.2.2.2.2⟩
        show up1 (dCr D) (p / 2) _ c = up1 (dCr D') (p / 2) _ c
        rw [hp, up1_s, up1_s, h.2.2.2.2.2.1]
      · have tk : ∀ k, tkB D0 D c (q / 2) k = tkB D0 D' c (q / 2) k := by
          intro k; unfold tkB; rw [h.2.2.1, h.2.2.2.1]
        refine ⟨h.1, h.2.1, h.2.2.1, ?_, ?_, h.2.2.2.2.2.1, h.2.2.2.2.2.2⟩
        · show up1 (dAg D) (p / 2) _ c = up1 (dAg D') (p / 2) _ c
          rw [hp, up1_s, up1_s]; funext k; rw [tk, h.2.2.2.1]
        · show up1 (dBy D) (p / 2) _ c = up1 (dBy D') (p / 2) _ c
          rw [hp, up1_s, up1_s]; funext k i; rw [tk, h.2.2.2.2.1]
theorem lnD_oth {X : Fx} {losses : Int32} {D0 D : Dy} {c p : Nat} (hp : c ≠ p / 2) : AgD c (lnD X losses D0 D p) D := by
  unfold lnD
  cases heaQ X losses p with
  | none => exact AgD.rf _ _
  | some q =>
    show AgD c (if dTo D p = some [] then D else if agrM D p = 0 then _ else _) D
    split
    · exact AgD.rf _ _
    · split
      · exact ⟨AgE.rf _ _, AgE.rf _ _, rfl, rfl, rfl, up1_n hp, rfl⟩
      · exact ⟨AgE.rf _ _, AgE.rf _ _, rfl, up1_n hp, up1_n hp, rfl, rfl⟩
theorem lcC_self {X : Fx} {losses : Int32} {D0 D D' : Dy} {c : Nat} (h : AgD c D D') : AgD c (lcC X losses D0 D c) (lcC X losses D0 D' c) := lnD_self (by omega) (lnD_self (by omega) (stD_self h))
theorem lcC_oth {X : Fx} {losses : Int32} {D0 D : Dy} {c c' : Nat} (h : c' ≠ c) : AgD c' (lcC X losses D0 D c) D := (lnD_oth (by omega)).tr ((lnD_oth (by omega)).tr (stD_oth h))
theorem lcR_ag {X : Fx} {losses : Int32} {D0 D : Dy} {c : Nat} : ∀ k, AgD c (lcR X losses D0 k D) (if c < k then lcC X losses D0 D c else D)
  | 0 => by rw [if_neg (by omega)]; exact AgD.rf _ _
  | k + 1 => by
    have ih := lcR_ag (X := X) (losses := losses) (D0 := D0) (D := D) (c := c) k
    show AgD c (lcC X losses D0 (lcR X losses D0 k D) k) _
    by_cases e : c = k
    · subst e
      rw [if_pos (by omega)]
      rw [if_neg (by omega)] at ih
      exact lcC_self ih
    · refine (lcC_oth e).tr ?_
      by_cases q : c < k
      · rw [if_pos (by omega)]; rw [if_pos q] at ih; exact ih
      · rw [if_neg (by omega)]; rw [if_neg q] at ih; exact ih
theorem rnd_car {n : Nat} {X : Fx} {losses : Int32} {D0 : Dy} {c : Nat} (hc : c < n) : AgD c (rnd n X losses D0) (carD X losses D0 c) := by
  have a := lcR_ag (X := X) (losses := losses) (D0 := D0) (D := lkR X losses D0 (2 * n) D0) (c := c) n
  rw [if_pos hc] at a
  exact a.tr (lcC_self (lkR_ag hc))
/-! all cars of the class -/
def lisP (c x : Nat) : Prop := endP (2 * c) x ∨ endP (2 * c + 1) x ∨ carP c x
theorem lisT_kp (pe : Nat → Option Nat) (losses : Int32) (c : Nat) (T : LVS) : Kp (lisP c) T (lisT pe losses c T) := by
  unfold lisT
  rw [eN_0, eN_1]
  have m : ∀ {T T' : LVS}, Kp (carP c) T T' → Kp (lisP c) T T' := fun h => h.mono (fun x h => Or.inr (Or.inr h))
  refine Kp.tr ?_ (m (heeT_kp c _ _))
  refine Kp.tr ?_ (m (heeT_kp c _ _))
  refine Kp.tr ?_ (m (growT_kp c _))
  refine Kp.tr ?_ (m (renT_kp c _))
  refine Kp.tr ?_ ((lookT_kp (2 * c + 1) _ _).mono (fun x h => Or.inr (Or.inl h)))
  exact (lookT_kp (2 * c) _ T).mono (fun x h => Or.inl h)
theorem lisT_ks (pe : Nat → Option Nat) (losses : Int32) (c : Nat) (T : LVS) : Ks T (lisT pe losses c T) := by
  unfold lisT
  refine Ks.tr ?_ (heeT_ks c _ _)
  refine Ks.tr ?_ (heeT_ks c _ _)
  refine Ks.tr (T1 := renT c _) ?_ (fun x k _ => rfl)
  refine Ks.tr ?_ (renT_ks c _)
  refine Ks.tr ?_ (lookT_ks _ _ _)
  exact lookT_ks _ _ T
theorem lisP_F {c x : Nat} (h : isF x) : ¬ lisP c x := by
  rintro (a | a | a)
  · exact nE_F h a
  · exact nE_F h a
  · exact nC_F h a
theorem FrmR.kL {X : Fx} {T T' : LVS} {D : Dy} {c q : Nat} (h : FrmR X T D q) (k : Kp (lisP c) T T') : FrmR X T' D q := by
  have y := yF_e q
  exact h.kp k (lisP_F y.1) (lisP_F y.2.1) (lisP_F y.2.2.1) (lisP_F y.2.2.2.1) (lisP_F y.2.2.2.2)
theorem lisP_o {c c' x : Nat} (hne : c ≠ c') (h1 : carB c ≤ x) (h2 : x < carB c + 32) : ¬ lisP c' x := by
  unfold lisP endP carP
  rw [eN_v, eN_v]
  simp only [carB] at *
  omega
theorem CarR.kL {X : Fx} {T T' : LVS} {D : Dy} {c c' : Nat} (h : CarR X T D c) (k : Kp (lisP c') T T') (hne : c ≠ c') : CarR X T' D c := by
  have v0 := eN_v (2 * c)
  have v1 := eN_v (2 * c + 1)
  refine ⟨h.1.kp k ?_ ?_ ?_ rfl rfl rfl rfl, h.2.1.kp k ?_ ?_ ?_ rfl rfl rfl rfl, h.2.2.kp k ?_ ?_ ?_ ?_ rfl rfl rfl rfl rfl⟩ <;> exact lisP_o hne (by simp only [carB]; omega) (by simp only [carB]; omega)
theorem lisR_car {n : Nat} {X : Fx} {T : LVS} {D : Dy} {pe : Nat → Option Nat} {losses : Int32} (hX : WfX n X) (hD : WfD n D) (hS : StR n X T.2.2 pe) (hC : ∀ c, c < n → CarR X T D c) (hF : ∀ q, q < 2 * n → xLk X q ≠ none → FrmR X T D q) : ∀ k, k ≤ n →
    Ks T (lisR pe losses k T) ∧ (∀ c, c < n → CarR X (lisR pe losses k T) (if c < k then rnd n X losses D else D) c) ∧ (∀ q, q < 2 * n → xLk X q ≠ none → FrmR X (lisR pe losses k T) D q) ∧ lisK pe losses k T = cnM X losses (2 * k)
  | 0, _ => ⟨Ks.rf T, fun c hc => by rw [if_neg (by omega)]; exact hC c hc, hF, rfl⟩
  | k + 1, hk => by
    obtain ⟨a1, a2, a3, a4⟩ := lisR_car (losses := losses) hX hD hS hC hF k (by omega)
    have kp := lisT_kp pe losses k (lisR pe losses k T)
    have hS1 := hS.ks a1
    show Ks T (lisT pe losses k (lisR pe losses k T)) ∧ (∀ c, c < n → CarR X (lisT pe losses k (lisR pe losses k T)) (if c < k + 1 then rnd n X losses D else D) c) ∧ (∀ q, q < 2 * n → xLk X q ≠ none → FrmR X (lisT pe losses k (lisR pe losses k T)) D q) ∧ lisK pe losses k T + lisN pe (lisR pe losses k T).2.2 losses k = cnM X losses (2 * k + 1) + oneI (heaQ X losses (2 * k + 1))
    refine ⟨a1.tr (lisT_ks pe losses k _), fun c hc => ?_, fun q hq hl => (a3 q hq hl).kL kp, ?_⟩
    · by_cases e : c = k
      · subst e
        rw [if_pos (by omega)]
        have := a2 c hc
        rw [if_neg (by omega)] at this
        exact (lis_car hX hD hc hS1 this a3).ag (rnd_car hc)
      · have := (a2 c hc).kL kp e
        by_cases q : c < k
        · rw [if_pos (by omega)]; rw [if_pos q] at this; exact this
        · rw [if_neg (by omega)]; rw [if_neg q] at this; exact this
    · rw [a4]
      unfold lisN
      rw [eN_0, eN_1, inc_hea hS1 (by omega), inc_hea hS1 (by omega)]
      have o : ∀ o : Option Nat, oneI (o.map eN) = oneI o := fun o => by cases o <;> rfl
      rw [o, o]
      show _ = cnM X losses (2 * k) + oneI (heaQ X losses (2 * k)) + _
      omega
theorem pl_car {n : Nat} {X : Fx} {T : LVS} {D : Dy} {pe : Nat → Option Nat} {losses : Int32} (hX : WfX n X) (hD : WfD n D) (hS : StR n X T.2.2 pe) (hC : ∀ c, c < n → CarR X T D c) :
    Ks T (plT n pe losses T) ∧ (∀ c, c < n → CarR X (plT n pe losses T) (rnd n X losses D) c) ∧ plN n pe losses T = cnM X losses (2 * n) := by
  obtain ⟨m1, m2, m3⟩ := mkR_frm hD hS hC n (Nat.le_refl _)
  obtain ⟨a1, a2, a3, a4⟩ := lisR_car (losses := losses) hX hD (hS.ks m2) (fun c hc => (hC c hc).kf m1) m3 n (Nat.le_refl _)
  refine ⟨m2.tr a1, fun c hc => ?_, a4⟩
  have := a2 c hc
  rw [if_pos hc] at this
  exact this
theorem rds_car {n : Nat} {X : Fx} {T : LVS} {D : Dy} {pe : Nat → Option Nat} {losses : Int32} (hX : WfX n X) (hD : WfD n D) (hS : StR n X T.2.2 pe) (hC : ∀ c, c < n → CarR X T D c) : ∀ r,
    Ks T (rdsT n pe losses r T) ∧ (∀ c, c < n → CarR X (rdsT n pe losses r T) (rndR n X losses r D) c) ∧ rdsN n pe losses r T = r * cnM X losses (2 * n)
  | 0 => ⟨Ks.rf T, hC, by rw [Nat.zero_mul]; rfl⟩
  | r + 1 => by
    obtain ⟨a1, a2, a3⟩ := rds_car (losses := losses) hX hD hS hC r
    obtain ⟨b1, b2, b3⟩ := pl_car (losses := losses) hX (hD.rndR hX r) (hS.ks a1) a2
    refine ⟨a1.tr b1, b2, ?_⟩
    show rdsN n pe losses r T + plN n pe losses (rdsT n pe losses r T) = _
    rw [a3, b3]
    exact (Nat.succ_mul _ _).symm
