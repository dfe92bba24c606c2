/-! A round: heeding, a car, all cars -/
theorem hee_dir {n : Nat} {X : Fx} {T : LVS} {D0 D : Dy} {losses : Int32} {c p : Nat} (hX : WfX n X) (hD : WfD n D) (hD0 : WfD n D0) (hc : c < n) (hp : p / 2 = c) (h : DirR X T D c) (hF : ∀ q, heaQ X losses p = some q → FrmR X T D0 q ∧ dTo D p = some (dDi D0 (q / 2))) :
    DirR X (heeT c ((heaQ X losses p).map eN) T) (lnD X losses D0 D p) c := by
  have wd := hD.2.2 c hc
  have pn : p < 2 * n := by omega
  cases hq : heaQ X losses p with
  | none =>
    have e : lnD X losses D0 D p = D := by unfold lnD; rw [hq]
    rw [e]; exact h
  | some q =>
    obtain ⟨f, ht⟩ := hF q hq
    have lq := heaQ_lk hq
    have qn := hX.lk pn lq
    have w0 := hD0.2.2 (q / 2) (by omega)
    have num : clN (T.2.2 (carB c) 7) = rowNo c (dDi D c) 0 := by
      rw [h.2.1]
      have a := rowNo_le c (dDi D c) 0
      have b := wd.1.1
      exact clN_nI (by omega)
    have c1 : T.1 (eN q + 5 + 3) ≠ [] ↔ dDi D0 (q / 2) ≠ [] := by rw [f.2.1]; exact not_congr map_nil
    have c2 : T.1 (eN q + 5 + 3) = T.1 (carB c + 26) ↔ dDi D0 (q / 2) = dDi D c := by rw [f.2.1, h.1]; exact map_eq hX w0.1.2 wd.1.2
    show DirR X (T.1, heeV T.1 T.2.1 c (eN q) (clN (T.2.2 (carB c) 7)), heeS T.1 T.2.2 c (eN q)) _ c
    rw [num]
    unfold lnD
    rw [hq]
    show DirR X _ (if dTo D p = some [] then D else if agrM D p = 0 then _ else _) c
    by_cases z1 : dDi D0 (q / 2) = []
    · rw [if_pos (by rw [ht, z1])]
      have a1 : heeV T.1 T.2.1 c (eN q) (rowNo c (dDi D c) 0) = T.2.1 := by unfold heeV; rw [if_neg (fun e => (c1.mp e.1) z1)]
      have a2 : heeS T.1 T.2.2 c (eN q) = T.2.2 := by unfold heeS; rw [if_neg (fun e => (c1.mp e.1) z1)]
      rw [a1, a2]; exact h
    · have z0 : ¬ dTo D p = some [] := by rw [ht]; intro e; injection e with e; exact z1 e
      rw [if_neg z0]
      by_cases z2 : dDi D0 (q / 2) = dDi D c
      · have ag : ¬ agrM D p = 0 := by
          unfold agrM
          rw [hp, if_pos ⟨by rw [← z2]; exact z1, by rw [ht, z2]⟩]; omega
        rw [if_neg ag, hp]
        have a1 : heeV T.1 T.2.1 c (eN q) (rowNo c (dDi D c) 0) = newsV T.2.1 c (eN q) (rowNo c (dDi D c) 0) (dDi D c).length := by
          unfold heeV; rw [if_pos ⟨c1.mpr z1, c2.mpr z2⟩, h.1, List.length_map]
        have a2 : heeS T.1 T.2.2 c (eN q) = T.2.2 := by unfold heeS; rw [if_neg (fun e => e.2 (c2.mpr z2))]
        rw [a1, a2]
        refine ⟨h.1, h.2.1, h.2.2.1, h.2.2.2.1, ?_, ?_⟩
        · intro i hi
          show byI (T.2.2 (carB c) 8) (nI i) = up1 (dBy D) c _ c c i
          rw [up1_s]
          have : ¬ tkB D0 D c (q / 2) c = true := fun e => (tkB_C.mp e).1 rfl
          rw [if_neg this]
          exact h.2.2.2.2.1 i hi
        · intro j hj hn
          have hj : j < (dDi D c).length := hj
          have hn : j + 1 ≠ rowNo c (dDi D c) 0 := hn
          have old := h.2.2.2.2.2 j hj hn
          have new := f.2.2.2.2 j (by rw [z2]; exact hj)
          rw [z2] at new
          show newsV T.2.1 c (eN q) _ _ (carB c + 30) j = up1 (dAg D) c _ c _ ∧ (¬ up1 (dAg D) c _ c _ = -1 → ∀ i, i < 4 → byI (newsV T.2.1 c (eN q) _ _ (carB c + 31) j) (nI i) = up1 (dBy D) c _ c _ i)
          rw [newsV_a, newsV_w, up1_s, up1_s]
          show newsA _ _ _ _ j = (if tkB D0 D c (q / 2) ((dDi D c).getD j 0 / 2) = true then dAg D0 (q / 2) ((dDi D c).getD j 0 / 2) + nI 1 else dAg D c ((dDi D c).getD j 0 / 2)) ∧ (¬ (if tkB D0 D c (q / 2) ((dDi D c).getD j 0 / 2) = true then dAg D0 (q / 2) ((dDi D c).getD j 0 / 2) + nI 1 else dAg D c ((dDi D c).getD j 0 / 2)) = -1 → ∀ i, i < 4 → byI (newsW _ _ _ _ _ _ j) (nI i) = (if tkB D0 D c (q / 2) ((dDi D c).getD j 0 / 2) = true then dBy D0 (q / 2) ((dDi D c).getD j 0 / 2) i else dBy D c ((dDi D c).getD j 0 / 2) i))
          have hmem : rowNo ((dDi D c).getD j 0 / 2) (dDi D c) 0 ≠ 0 := fun e => (rowNo_0.mp e) (at_rowIds hj rfl)
          have hne : (dDi D c).getD j 0 / 2 ≠ c := by
            intro e
            rw [e] at hmem
            obtain ⟨i, g1, g2, g3⟩ := rowNo_p hmem
            have := nd_ix wd.2.1 hj g1 (by rw [e, g3])
            omega
          generalize (dDi D c).getD j 0 / 2 = k at *
          have tk : takeC (T.2.1 (carB c + 30)) (T.2.1 (eN q + 5 + 5)) (rowNo c (dDi D c) 0) j ↔ tkB D0 D c (q / 2) k = true := by
            rw [tkB_C]
            unfold takeC tkC
            rw [new.1, old.1]
            exact ⟨fun e => ⟨hne, hmem, e.2.1, e.2.2⟩, fun e => ⟨hn, e.2.2.1, e.2.2.2⟩⟩
          unfold newsA newsW
          by_cases t : tkB D0 D c (q / 2) k = true
          · rw [if_pos ⟨hj, tk.mpr t⟩, if_pos t]
            refine ⟨by rw [new.1], fun _ i hi => ?_⟩
            rw [if_pos ⟨hj, tk.mpr t⟩, if_pos t]
            exact new.2 (tkB_C.mp t).2.2.1 i hi
          · rw [if_neg (fun e => t (tk.mp e.2)), if_neg t]
            refine ⟨old.1, fun g i hi => ?_⟩
            rw [if_neg (fun e => t (tk.mp e.2)), if_neg t]
            exact old.2 g i hi
      · have ag : agrM D p = 0 := by
          unfold agrM
          rw [hp, if_neg]
          intro e
          rw [ht] at e
          have := e.2
          injection this with this
          exact z2 this
        rw [if_pos ag, hp]
        have a1 : heeV T.1 T.2.1 c (eN q) (rowNo c (dDi D c) 0) = T.2.1 := by unfold heeV; rw [if_neg (fun e => z2 (c2.mp e.2))]
        have a2 : heeS T.1 T.2.2 c (eN q) = up2 T.2.2 (carB c) 10 (T.2.2 (carB c) 10 + nI 1) := by unfold heeS; rw [if_pos ⟨c1.mpr z1, fun e => z2 (c2.mp e)⟩]
        rw [a1, a2]
        refine ⟨h.1, ?_, ?_, ?_, ?_, h.2.2.2.2.2⟩
        · show up2 T.2.2 (carB c) 10 _ (carB c) 7 = _; rw [up2_k (by omega)]; exact h.2.1
        · show up2 T.2.2 (carB c) 10 _ (carB c) 9 = _; rw [up2_k (by omega)]; exact h.2.2.1
        · show up2 T.2.2 (carB c) 10 _ (carB c) 10 = up1 (dCr D) c _ c; rw [up2_s, up1_s, h.2.2.2.1]
        · show ∀ i, i < 4 → byI (up2 T.2.2 (carB c) 10 _ (carB c) 8) (nI i) = _; rw [up2_k (by omega)]; exact h.2.2.2.2.1
theorem inc_hea {n : Nat} {X : Fx} {S : Nat → Nat → Int32} {pe : Nat → Option Nat} {losses : Int32} {p : Nat} (hS : StR n X S pe) (hp : p < 2 * n) : incQ pe S losses (eN p) = (heaQ X losses p).map eN := by
  unfold incQ heaQ
  rw [hS.2.2.2.1 p hp, hS.2.2.2.2 p hp]
  unfold couM
  cases hq : xLk X p with
  | none => rfl
  | some q =>
    show (if lostI losses (nI (xNu X p)) = true then none else some (eN q)) = (if lostI losses (nI (xNu X p)) = true then none else some q).map eN
    split <;> rfl
/-- one car's round -/
def carD (X : Fx) (losses : Int32) (D0 : Dy) (c : Nat) : Dy := lcC X losses D0 (lkD X losses D0 (lkD X losses D0 D0 (2 * c)) (2 * c + 1)) c
theorem lnD_o {X : Fx} {losses : Int32} {D0 D : Dy} {p : Nat} : dVw (lnD X losses D0 D p) = dVw D ∧ dWh (lnD X losses D0 D p) = dWh D ∧ dSi (lnD X losses D0 D p) = dSi D ∧ dTo (lnD X losses D0 D p) = dTo D ∧ dDi (lnD X losses D0 D p) = dDi D := by
  unfold lnD
  cases heaQ X losses p with
  | none => exact ⟨rfl, rfl, rfl, rfl, rfl⟩
  | some q =>
    show _ ∧ _
    dsimp only
    split
    · exact ⟨rfl, rfl, rfl, rfl, rfl⟩
    · split <;> exact ⟨rfl, rfl, rfl, rfl, rfl⟩
theorem lis_car {n : Nat} {X : Fx} {T : LVS} {D0 : Dy} {pe : Nat → Option Nat} {losses : Int32} {c : Nat} (hX : WfX n X) (hD : WfD n D0) (hc : c < n) (hS : StR n X T.2.2 pe) (h : CarR X T D0 c) (hF : ∀ q, q < 2 * n → xLk X q ≠ none → FrmR X T D0 q) :
    CarR X (lisT pe losses c T) (carD X losses D0 c) c := by
  have fr : ∀ p, p < 2 * n → ∀ q, heaQ X losses p = some q → FrmR X T D0 q := by
    intro p hp q hq
    have lq := heaQ_lk hq
    obtain ⟨w1, w2, -⟩ := hX.2.2.2.2.1 p q hp lq
    exact hF q w1 (by rw [w2]; intro e; cases e)
  unfold lisT carD lcC
  rw [eN_0, eN_1, inc_hea hS (by omega), inc_hea hS (by omega)]
  -- looking
  have D1 : WfD n (lkD X losses D0 D0 (2 * c)) := hD.lk hD hX (by omega)
  have D2 : WfD n (lkD X losses D0 (lkD X losses D0 D0 (2 * c)) (2 * c + 1)) := D1.lk hD hX (by omega)
  have k1 := lookT_kp (2 * c) ((heaQ X losses (2 * c)).map eN) T
  have s1 := lookT_ks (eN (2 * c)) ((heaQ X losses (2 * c)).map eN) T
  have e10 := look_end hX (by omega) hD h.1 (fr (2 * c) (by omega))
  have e11 : EndR X (lookT (eN (2 * c)) ((heaQ X losses (2 * c)).map eN) T) (lkD X losses D0 D0 (2 * c)) (2 * c + 1) := h.2.1.kE k1 (by omega) (up1_n (by omega)) (up1_n (by omega)) (up1_n (by omega)) (up1_n (by omega))
  have e12 : DirR X (lookT (eN (2 * c)) ((heaQ X losses (2 * c)).map eN) T) (lkD X losses D0 D0 (2 * c)) c := h.2.2.kE k1 rfl rfl rfl rfl rfl
  have to1 : ∀ q, heaQ X losses (2 * c) = some q → dTo (lkD X losses D0 D0 (2 * c)) (2 * c) = some (dDi D0 (q / 2)) := by
    intro q hq
    show up1 (dTo D0) (2 * c) (lkT X losses D0 D0 (2 * c)) (2 * c) = _
    rw [up1_s]; unfold lkT; rw [hq]
  generalize lookT (eN (2 * c)) ((heaQ X losses (2 * c)).map eN) T = T1 at *
  generalize hA : lkD X losses D0 D0 (2 * c) = A at *
  have f1 : ∀ p, p < 2 * n → ∀ q, heaQ X losses p = some q → FrmR X T1 D0 q := fun p hp q hq => (fr p hp q hq).kE k1
  have k2 := lookT_kp (2 * c + 1) ((heaQ X losses (2 * c + 1)).map eN) T1
  have s2 := lookT_ks (eN (2 * c + 1)) ((heaQ X losses (2 * c + 1)).map eN) T1
  have e21 := look_end hX (by omega) D1 e11 (f1 (2 * c + 1) (by omega))
  have e20 : EndR X (lookT (eN (2 * c + 1)) ((heaQ X losses (2 * c + 1)).map eN) T1) (lkD X losses D0 A (2 * c + 1)) (2 * c) := e10.kE k2 (by omega) (up1_n (by omega)) (up1_n (by omega)) (up1_n (by omega)) (up1_n (by omega))
  have e22 : DirR X (lookT (eN (2 * c + 1)) ((heaQ X losses (2 * c + 1)).map eN) T1) (lkD X losses D0 A (2 * c + 1)) c := e12.kE k2 rfl rfl rfl rfl rfl
  have to20 : ∀ q, heaQ X losses (2 * c) = some q → dTo (lkD X losses D0 A (2 * c + 1)) (2 * c) = some (dDi D0 (q / 2)) := by
    intro q hq
    show up1 (dTo A) (2 * c + 1) _ (2 * c) = _
    rw [up1_n (by omega)]; exact to1 q hq
  have to21 : ∀ q, heaQ X losses (2 * c + 1) = some q → dTo (lkD X losses D0 A (2 * c + 1)) (2 * c + 1) = some (dDi D0 (q / 2)) := by
    intro q hq
    show up1 (dTo A) (2 * c + 1) (lkT X losses D0 A (2 * c + 1)) (2 * c + 1) = _
    rw [up1_s]; unfold lkT; rw [hq]
  generalize lookT (eN (2 * c + 1)) ((heaQ X losses (2 * c + 1)).map eN) T1 = T2 at *
  generalize hB : lkD X losses D0 A (2 * c + 1) = B at *
  have f2 : ∀ p, p < 2 * n → ∀ q, heaQ X losses p = some q → FrmR X T2 D0 q := fun p hp q hq => (f1 p hp q hq).kE k2
  -- renewing
  have d3 := ren_dir hX D2 hc (hS.ks (s1.tr s2)) ⟨e20, e21, e22⟩
  have k3 : Kp (carP c) T2 (growT c (renT c T2)) := (renT_kp c T2).tr (growT_kp c _)
  have D3 : WfD n (stD X B c) := D2.st hc
  generalize growT c (renT c T2) = T3 at *
  have f3 : ∀ p, p < 2 * n → ∀ q, heaQ X losses p = some q → FrmR X T3 D0 q := fun p hp q hq => (f2 p hp q hq).kC k3
  have d4 := hee_dir (p := 2 * c) hX D3 hD hc (by omega) d3 (fun q hq => ⟨f3 _ (by omega) q hq, to20 q hq⟩)
  have k4 := heeT_kp c ((heaQ X losses (2 * c)).map eN) T3
  have D4 : WfD n (lnD X losses D0 (stD X B c) (2 * c)) := D3.ln (by omega)
  have o4 := lnD_o (X := X) (losses := losses) (D0 := D0) (D := stD X B c) (p := 2 * c)
  generalize heeT c ((heaQ X losses (2 * c)).map eN) T3 = T4 at *
  generalize hC4 : lnD X losses D0 (stD X B c) (2 * c) = C4 at *
  have f4 : ∀ p, p < 2 * n → ∀ q, heaQ X losses p = some q → FrmR X T4 D0 q := fun p hp q hq => (f3 p hp q hq).kC k4
  have d5 := hee_dir (p := 2 * c + 1) hX D4 hD hc (by omega) d4 (fun q hq => ⟨f4 _ (by omega) q hq, by rw [o4.2.2.2.1]; exact to21 q hq⟩)
  have k5 := heeT_kp c ((heaQ X losses (2 * c + 1)).map eN) T4
  have o5 := lnD_o (X := X) (losses := losses) (D0 := D0) (D := C4) (p := 2 * c + 1)
  have k35 : Kp (carP c) T2 (heeT c ((heaQ X losses (2 * c + 1)).map eN) T4) := (k3.tr k4).tr k5
  refine ⟨e20.kC k35 ?_ ?_ ?_ ?_, e21.kC k35 ?_ ?_ ?_ ?_, d5⟩
  · rw [o5.2.1, o4.2.1]; rfl
  · rw [o5.2.2.1, o4.2.2.1]; rfl
  · rw [o5.1, o4.1]; rfl
  · rw [o5.2.2.2.1, o4.2.2.2.1]; rfl
  · rw [o5.2.1, o4.2.1]; rfl
  · rw [o5.2.2.1, o4.2.2.1]; rfl
  · rw [o5.1, o4.1]; rfl
  · rw [o5.2.2.2.1, o4.2.2.2.1]; rfl
