/-! A round: looking, renewing, growing older -/
def endP (p x : Nat) : Prop := x = eN p ∨ x = eN p + 1 ∨ x = eN p + 3
def carP (c x : Nat) : Prop := x = carB c ∨ x = carB c + 26 ∨ x = carB c + 28 ∨ x = carB c + 30 ∨ x = carB c + 31
theorem lookT_kp (p : Nat) (o : Option Nat) (T : LVS) : Kp (endP p) T (lookT (eN p) o T) := by
  intro x hx
  have n0 : x ≠ eN p := fun e => hx (Or.inl e)
  have n1 : x ≠ eN p + 1 := fun e => hx (Or.inr (Or.inl e))
  have n3 : x ≠ eN p + 3 := fun e => hx (Or.inr (Or.inr e))
  unfold lookT
  cases o with
  | none =>
    refine ⟨?_, rfl, ?_⟩
    · show silL _ _ _ x = _; unfold silL; split
      · rfl
      · rw [up1_n n1]
    · show silS _ _ _ x = _; unfold silS; split
      · rw [up2_o n0]
      · rw [up2_o n0, up2_o n0]
  | some q =>
    refine ⟨?_, rfl, ?_⟩
    · show heaL _ _ _ _ x = _; unfold heaL; rw [up1_n n3, up1_n n1]
    · show heaS _ _ _ x = _; unfold heaS; rw [up2_o n0, up2_o n0]
theorem lookT_ks (e : Nat) (o : Option Nat) (T : LVS) : Ks T (lookT e o T) := by
  intro x k hk
  unfold lookT
  cases o with
  | none =>
    show silS _ _ _ x k = _; unfold silS; split
    · rw [up2_ks (by omega) (by omega) (by omega) x k hk]
    · rw [up2_ks (by omega) (by omega) (by omega) x k hk, up2_ks (by omega) (by omega) (by omega) x k hk]
  | some q => show heaS _ _ _ x k = _; unfold heaS; rw [up2_ks (by omega) (by omega) (by omega) x k hk, up2_ks (by omega) (by omega) (by omega) x k hk]
theorem renT_kp (c : Nat) (T : LVS) : Kp (carP c) T (renT c T) := by
  intro x hx
  have n0 : x ≠ carB c := fun e => hx (Or.inl e)
  have n26 : x ≠ carB c + 26 := fun e => hx (Or.inr (Or.inl e))
  have n28 : x ≠ carB c + 28 := fun e => hx (Or.inr (Or.inr (Or.inl e)))
  have n30 : x ≠ carB c + 30 := fun e => hx (Or.inr (Or.inr (Or.inr (Or.inl e))))
  unfold renT
  split
  · exact ⟨up1_n n28, rfl, rfl⟩
  · refine ⟨?_, up1_n n30, ?_⟩
    · show up1 (up1 _ _ _) _ _ x = _; rw [up1_n n26, up1_n n28]
    · show up2 (up2 _ _ _ _) _ _ _ x = _; rw [up2_o n0, up2_o n0]
theorem renT_ks (c : Nat) (T : LVS) : Ks T (renT c T) := by
  intro x k hk
  unfold renT
  split
  · rfl
  · show up2 (up2 _ _ _ _) _ _ _ x k = _; rw [up2_ks (by omega) (by omega) (by omega) x k hk, up2_ks (by omega) (by omega) (by omega) x k hk]
theorem growT_kp (c : Nat) (T : LVS) : Kp (carP c) T (growT c T) := by
  intro x hx
  have n30 : x ≠ carB c + 30 := fun e => hx (Or.inr (Or.inr (Or.inr (Or.inl e))))
  exact ⟨rfl, up1_n n30, rfl⟩
theorem heeT_kp (c : Nat) (o : Option Nat) (T : LVS) : Kp (carP c) T (heeT c o T) := by
  intro x hx
  have n0 : x ≠ carB c := fun e => hx (Or.inl e)
  have n30 : x ≠ carB c + 30 := fun e => hx (Or.inr (Or.inr (Or.inr (Or.inl e))))
  have n31 : x ≠ carB c + 31 := fun e => hx (Or.inr (Or.inr (Or.inr (Or.inr e))))
  unfold heeT
  cases o with
  | none => exact ⟨rfl, rfl, rfl⟩
  | some q =>
    refine ⟨rfl, ?_, ?_⟩
    · show heeV _ _ _ _ _ x = _; unfold heeV; split
      · exact newsV_o n30 n31
      · rfl
    · show heeS _ _ _ _ x = _; unfold heeS; split
      · rw [up2_o n0]
      · rfl
theorem heeT_ks (c : Nat) (o : Option Nat) (T : LVS) : Ks T (heeT c o T) := by
  intro x k hk
  unfold heeT
  cases o with
  | none => rfl
  | some q =>
    show heeS _ _ _ _ x k = _; unfold heeS; split
    · rw [up2_ks (by omega) (by omega) (by omega) x k hk]
    · rfl
theorem nE_F {p x : Nat} (h : isF x) : ¬ endP p x := by
  have a := nF_e p
  rintro (rfl | rfl | rfl)
  · exact a.1 h
  · exact a.2.1 h
  · exact a.2.2 h
theorem nC_F {c x : Nat} (h : isF x) : ¬ carP c x := by
  have a := nF_c c
  rintro (rfl | rfl | rfl | rfl | rfl)
  · exact a.1 h
  · exact a.2.1 h
  · exact a.2.2.1 h
  · exact a.2.2.2.1 h
  · exact a.2.2.2.2 h
theorem FrmR.kE {X : Fx} {T T' : LVS} {D : Dy} {p q : Nat} (h : FrmR X T D q) (k : Kp (endP p) T T') : FrmR X T' D q := by
  have y := yF_e q
  exact h.kp k (nE_F y.1) (nE_F y.2.1) (nE_F y.2.2.1) (nE_F y.2.2.2.1) (nE_F y.2.2.2.2)
theorem FrmR.kC {X : Fx} {T T' : LVS} {D : Dy} {c q : Nat} (h : FrmR X T D q) (k : Kp (carP c) T T') : FrmR X T' D q := by
  have y := yF_e q
  exact h.kp k (nC_F y.1) (nC_F y.2.1) (nC_F y.2.2.1) (nC_F y.2.2.2.1) (nC_F y.2.2.2.2)
theorem EndR.kE {X : Fx} {T T' : LVS} {D D' : Dy} {p q : Nat} (h : EndR X T D q) (k : Kp (endP p) T T') (hne : q ≠ p) (e1 : dWh D' q = dWh D q) (e2 : dSi D' q = dSi D q) (e3 : dVw D' q = dVw D q) (e4 : dTo D' q = dTo D q) : EndR X T' D' q := by
  refine h.kp k ?_ ?_ ?_ e1 e2 e3 e4 <;> (unfold endP; rw [eN_v, eN_v]; omega)
theorem EndR.kC {X : Fx} {T T' : LVS} {D D' : Dy} {c q : Nat} (h : EndR X T D q) (k : Kp (carP c) T T') (e1 : dWh D' q = dWh D q) (e2 : dSi D' q = dSi D q) (e3 : dVw D' q = dVw D q) (e4 : dTo D' q = dTo D q) : EndR X T' D' q := by
  have : q % 2 = 0 ∨ q % 2 = 1 := Nat.mod_two_eq_zero_or_one q
  refine h.kp k ?_ ?_ ?_ e1 e2 e3 e4 <;> (unfold carP; rw [eN_v]; simp only [carB]; omega)
theorem DirR.kE {X : Fx} {T T' : LVS} {D D' : Dy} {p c : Nat} (h : DirR X T D c) (k : Kp (endP p) T T') (e1 : dDi D' c = dDi D c) (e2 : dAg D' c = dAg D c) (e3 : dBy D' c = dBy D c) (e4 : dCr D' c = dCr D c) (e5 : dCh D' c = dCh D c) : DirR X T' D' c := by
  have : p % 2 = 0 ∨ p % 2 = 1 := Nat.mod_two_eq_zero_or_one p
  refine h.kp k ?_ ?_ ?_ ?_ e1 e2 e3 e4 e5 <;> (unfold endP; rw [eN_v]; simp only [carB]; omega)
theorem DirR.kC {X : Fx} {T T' : LVS} {D D' : Dy} {c' c : Nat} (h : DirR X T D c) (k : Kp (carP c') T T') (hne : c ≠ c') (e1 : dDi D' c = dDi D c) (e2 : dAg D' c = dAg D c) (e3 : dBy D' c = dBy D c) (e4 : dCr D' c = dCr D c) (e5 : dCh D' c = dCh D c) : DirR X T' D' c := by
  refine h.kp k ?_ ?_ ?_ ?_ e1 e2 e3 e4 e5 <;> (unfold carP; simp only [carB]; omega)
/-- looking at one end -/
theorem look_end {n : Nat} {X : Fx} {T : LVS} {D0 D : Dy} {losses : Int32} {p : Nat} (hX : WfX n X) (hp : p < 2 * n) (hD : WfD n D) (hE : EndR X T D p) (hF : ∀ q, heaQ X losses p = some q → FrmR X T D0 q) :
    EndR X (lookT (eN p) ((heaQ X losses p).map eN) T) (lkD X losses D0 D p) p := by
  have w := hD.1 p hp
  have s : clN (T.2.2 (eN p) 8) = dSi D p := by rw [hE.2.1]; exact clN_nI (by omega)
  have eS : dSi (lkD X losses D0 D p) p = lkS X losses D p := up1_s
  have eW : dWh (lkD X losses D0 D p) p = lkW X losses D0 D p := up1_s
  have eV : dVw (lkD X losses D0 D p) p = lkV X losses D0 D p := up1_s
  have eT : dTo (lkD X losses D0 D p) p = lkT X losses D0 D p := up1_s
  unfold EndR
  rw [eS, eW, eV, eT]
  unfold lkS lkW lkV lkT
  cases hq : heaQ X losses p with
  | none =>
    show (silS T.2.2 (eN p) (clN (T.2.2 (eN p) 8)) (eN p) 7 = _) ∧ (silS T.2.2 (eN p) (clN (T.2.2 (eN p) 8)) (eN p) 8 = _) ∧ (silL T.1 (eN p) (clN (T.2.2 (eN p) 8)) (eN p + 1) = _) ∧ (silL T.1 (eN p) (clN (T.2.2 (eN p) 8)) (eN p + 3) = _)
    rw [s]
    unfold silS silL
    by_cases q : dSi D p + 1 < 4
    · rw [if_pos q, if_pos q]
      have e1 : (if dSi D p = 4 then 4 else dSi D p + 1) = dSi D p + 1 := if_neg (by omega)
      refine ⟨?_, ?_, ?_, ?_⟩
      · rw [up2_k (by omega), hE.1]
        show nI (dWh D p) = nI (if dWh D p = 1 ∨ (if dSi D p = 4 then 4 else dSi D p + 1) = 4 then 1 else 0)
        rw [e1]
        by_cases z : dWh D p = 1
        · rw [if_pos (Or.inl z), z]
        · rw [if_neg (by omega), show dWh D p = 0 by omega]
      · rw [up2_s]; show _ = nI (if dSi D p = 4 then 4 else dSi D p + 1); rw [e1]
      · show T.1 (eN p + 1) = List.map (itm X) (if (if dSi D p = 4 then 4 else dSi D p + 1) = 4 then [] else dVw D p)
        rw [e1, if_neg (by omega)]; exact hE.2.2.1
      · exact hE.2.2.2
    · rw [if_neg q, if_neg q]
      have e1 : (if dSi D p = 4 then 4 else dSi D p + 1) = 4 := by split <;> omega
      refine ⟨?_, ?_, ?_, ?_⟩
      · rw [up2_s]; show nI 1 = nI (if dWh D p = 1 ∨ (if dSi D p = 4 then 4 else dSi D p + 1) = 4 then 1 else 0)
        rw [if_pos (Or.inr e1)]
      · rw [up2_k (by omega), up2_s]; show _ = nI (if dSi D p = 4 then 4 else dSi D p + 1); rw [e1]
      · rw [up1_s]
        show [] = List.map (itm X) (if (if dSi D p = 4 then 4 else dSi D p + 1) = 4 then [] else dVw D p)
        rw [if_pos e1]; rfl
      · rw [up1_n (by omega)]; exact hE.2.2.2
  | some q =>
    have f := hF q hq
    have lq := heaQ_lk hq
    have qn := hX.lk hp lq
    have il := itm_lt hX qn
    show (heaS T.2.2 (eN p) (eN q + 5) (eN p) 7 = _) ∧ (heaS T.2.2 (eN p) (eN q + 5) (eN p) 8 = _) ∧ (heaL T.1 (eN p) (eN q + 5) (clN (T.2.2 (eN q + 5) 4)) (eN p + 1) = _) ∧ (heaL T.1 (eN p) (eN q + 5) (clN (T.2.2 (eN q + 5) 4)) (eN p + 3) = _)
    unfold heaS heaL
    refine ⟨?_, ?_, ?_, ?_⟩
    · rw [up2_s]; exact f.2.2.2.1
    · rw [up2_k (by omega), up2_s]
    · rw [up1_n (by omega), up1_s, f.2.2.1, clN_nI (by omega), f.1, ← List.map_cons, List.map_take]
    · rw [up1_s]; exact f.2.1
theorem getD_some {l : List Nat} : (some l).getD [] = l := rfl
/-- renewing the directory, and growing older -/
theorem ren_dir {n : Nat} {X : Fx} {T : LVS} {D : Dy} {pe : Nat → Option Nat} {c : Nat} (hX : WfX n X) (hD : WfD n D) (hc : c < n) (hS : StR n X T.2.2 pe) (h : CarR X T D c) : DirR X (growT c (renT c T)) (stD X D c) c := by
  have wd := hD.2.2 c hc
  have lt := seeM_it (X := X) hD hc
  have hd := h.2.2
  have idl := hX.2.1 c hc
  have hdf : dftT c T = (seeM X D c).map (itm X) := by
    unfold dftT
    rw [eN_0, eN_1, h.1.2.2.1, h.2.1.2.2.1, hS.2.2.1 (2 * c) (by omega), clN_nI (by have := itm_lt hX (p := 2 * c) (by omega); omega), h.1.1, h.2.1.1]
    exact draft_map hX hD hc
  have cid : clN (T.2.2 (carB c) 0) = xId X c := by rw [hS.1 c hc]; exact clN_nI (by omega)
  have eD : dDi (stD X D c) c = seeM X D c := up1_s
  have eA : dAg (stD X D c) c = agN D c (seeM X D c) := up1_s
  have eB : dBy (stD X D c) = dBy D := rfl
  have eR : dCr (stD X D c) = dCr D := rfl
  have eC : dCh (stD X D c) c = if dDi D c = seeM X D c then dCh D c else dCh D c + nI 1 := up1_s
  have own : ∀ j, j < (seeM X D c).length → j + 1 ≠ rowNo c (seeM X D c) 0 → (seeM X D c).getD j 0 / 2 ≠ c := by
    intro j hj hn e
    have m : c ∈ rowIds (seeM X D c) := at_rowIds hj e
    have z : rowNo c (seeM X D c) 0 ≠ 0 := fun z => (rowNo_0.mp z) m
    obtain ⟨i, g1, g2, g3⟩ := rowNo_p z
    have := nd_ix (seeM_nd X D c) hj g1 (by rw [e, g3])
    omega
  have cond : dftT c T = T.1 (carB c + 26) ↔ dDi D c = seeM X D c := by
    rw [hdf, hd.1, map_eq hX lt.2 wd.1.2]
    exact ⟨fun e => e.symm, fun e => e.symm⟩
  unfold DirR NewR
  rw [eD, eA, eB, eR, eC]
  by_cases q : dDi D c = seeM X D c
  · have hr : renT c T = (up1 T.1 (carB c + 28) (dftT c T), T.2.1, T.2.2) := if_pos (cond.mpr q)
    rw [hr]
    unfold growT
    refine ⟨?_, ?_, ?_, ?_, ?_, ?_⟩
    · show up1 T.1 (carB c + 28) _ (carB c + 26) = _
      rw [up1_n (by omega), hd.1, q]
    · show T.2.2 (carB c) 7 = _; rw [hd.2.1, q]
    · show T.2.2 (carB c) 9 = _; rw [if_pos q]; exact hd.2.2.1
    · exact hd.2.2.2.1
    · exact hd.2.2.2.2.1
    · intro j hj hn
      have ne := own j hj hn
      have := hd.2.2.2.2.2 j (by rw [q]; exact hj) (by rw [q]; exact hn)
      rw [q] at this
      show up1 T.2.1 (carB c + 30) (growV (T.2.1 (carB c + 30)) (up1 T.1 (carB c + 28) _ (carB c + 26)).length) (carB c + 30) j = _ ∧ (_ → ∀ i, i < 4 → byI (up1 T.2.1 (carB c + 30) _ (carB c + 31) j) (nI i) = _)
      rw [up1_s, up1_n (show carB c + 31 ≠ carB c + 30 by omega), up1_n (show carB c + 26 ≠ carB c + 28 by omega), hd.1, List.length_map, q]
      unfold growV agN
      rw [if_neg ne, this.1]
      by_cases z : dAg D c ((seeM X D c).getD j 0 / 2) = -1
      · rw [if_neg (fun e => e.2 z), if_neg (fun e => e.2 z)]
        exact ⟨z, fun e => absurd rfl e⟩
      · rw [if_pos ⟨hj, z⟩, if_pos ⟨q, z⟩]
        exact ⟨rfl, fun _ => this.2 z⟩
  · have hr : renT c T = (up1 (up1 T.1 (carB c + 28) (dftT c T)) (carB c + 26) (dftT c T), up1 T.2.1 (carB c + 30) (fun _ => -1), up2 (up2 T.2.2 (carB c) 7 (nI (rowNo (clN (T.2.2 (carB c) 0)) (dftT c T) 0))) (carB c) 9 (T.2.2 (carB c) 9 + nI 1)) := if_neg (fun e => q (cond.mp e))
    rw [hr]
    unfold growT
    refine ⟨?_, ?_, ?_, ?_, ?_, ?_⟩
    · show up1 _ (carB c + 26) _ (carB c + 26) = _
      rw [up1_s, hdf]
    · show up2 _ (carB c) 9 _ (carB c) 7 = _
      rw [up2_k (by omega), up2_s, cid, hdf, no_map hX hc 0 lt.2]
    · show up2 _ (carB c) 9 _ (carB c) 9 = _
      rw [up2_s, if_neg q, hd.2.2.1]
    · show up2 _ (carB c) 9 _ (carB c) 10 = _
      rw [up2_k (by omega), up2_k (by omega)]; exact hd.2.2.2.1
    · show ∀ i, i < 4 → byI (up2 _ (carB c) 9 _ (carB c) 8) (nI i) = _
      rw [up2_k (by omega), up2_k (by omega)]; exact hd.2.2.2.2.1
    · intro j hj hn
      have ne := own j hj hn
      show up1 (up1 T.2.1 (carB c + 30) (fun _ => -1)) (carB c + 30) (growV (up1 T.2.1 (carB c + 30) (fun _ => -1) (carB c + 30)) _) (carB c + 30) j = _ ∧ _
      rw [up1_s, up1_s]
      have z : agN D c (seeM X D c) ((seeM X D c).getD j 0 / 2) = -1 := by
        unfold agN
        rw [if_neg ne, if_neg (fun e => q e.1)]
      rw [z]
      unfold growV
      rw [if_neg (fun e => e.2 rfl)]
      exact ⟨rfl, fun e => absurd rfl e⟩
