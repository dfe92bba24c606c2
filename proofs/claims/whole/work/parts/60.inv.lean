/-! What always holds, of both sides -/
def Inv (n : Nat) (X : Fx) (D : Dy) (F : Nat → Int32) (T : LVS) (pe bi : Nat → Option Nat) : Prop :=
  WfX n X ∧ WfD n D ∧ BiR n X bi ∧ peOk n pe ∧ InvS n T.2.2 ∧ NumR n X ∧ Rns n (xLk X) ∧ StR n X T.2.2 pe ∧ (∀ c, c < n → CarR X T D c) ∧
  (T.2.2 0 4 = nI n ∧ F 1 = nI n ∧ T.2.2 0 5 = F 7 ∧ T.2.2 0 7 = F 8 ∧ T.2.2 0 8 = F 9) ∧ ∀ k, k < 24 → (takI (T.2.2 0 6) k = true ↔ xUs X k = 1)
theorem Inv.wx {n : Nat} {X : Fx} {D : Dy} {F : Nat → Int32} {T : LVS} {pe bi : Nat → Option Nat} (h : Inv n X D F T pe bi) : WfX n X := h.1
theorem Inv.wd {n : Nat} {X : Fx} {D : Dy} {F : Nat → Int32} {T : LVS} {pe bi : Nat → Option Nat} (h : Inv n X D F T pe bi) : WfD n D := h.2.1
theorem Inv.bi {n : Nat} {X : Fx} {D : Dy} {F : Nat → Int32} {T : LVS} {pe bi : Nat → Option Nat} (h : Inv n X D F T pe bi) : BiR n X bi := h.2.2.1
theorem Inv.pe {n : Nat} {X : Fx} {D : Dy} {F : Nat → Int32} {T : LVS} {pe bi : Nat → Option Nat} (h : Inv n X D F T pe bi) : peOk n pe := h.2.2.2.1
theorem Inv.is {n : Nat} {X : Fx} {D : Dy} {F : Nat → Int32} {T : LVS} {pe bi : Nat → Option Nat} (h : Inv n X D F T pe bi) : InvS n T.2.2 := h.2.2.2.2.1
theorem Inv.nu {n : Nat} {X : Fx} {D : Dy} {F : Nat → Int32} {T : LVS} {pe bi : Nat → Option Nat} (h : Inv n X D F T pe bi) : NumR n X := h.2.2.2.2.2.1
theorem Inv.rn {n : Nat} {X : Fx} {D : Dy} {F : Nat → Int32} {T : LVS} {pe bi : Nat → Option Nat} (h : Inv n X D F T pe bi) : Rns n (xLk X) := h.2.2.2.2.2.2.1
theorem Inv.st {n : Nat} {X : Fx} {D : Dy} {F : Nat → Int32} {T : LVS} {pe bi : Nat → Option Nat} (h : Inv n X D F T pe bi) : StR n X T.2.2 pe := h.2.2.2.2.2.2.2.1
theorem Inv.ca {n : Nat} {X : Fx} {D : Dy} {F : Nat → Int32} {T : LVS} {pe bi : Nat → Option Nat} (h : Inv n X D F T pe bi) : ∀ c, c < n → CarR X T D c := h.2.2.2.2.2.2.2.2.1
theorem Inv.co {n : Nat} {X : Fx} {D : Dy} {F : Nat → Int32} {T : LVS} {pe bi : Nat → Option Nat} (h : Inv n X D F T pe bi) : T.2.2 0 4 = nI n ∧ F 1 = nI n ∧ T.2.2 0 5 = F 7 ∧ T.2.2 0 7 = F 8 ∧ T.2.2 0 8 = F 9 := h.2.2.2.2.2.2.2.2.2.1
theorem Inv.tk {n : Nat} {X : Fx} {D : Dy} {F : Nat → Int32} {T : LVS} {pe bi : Nat → Option Nat} (h : Inv n X D F T pe bi) : ∀ k, k < 24 → (takI (T.2.2 0 6) k = true ↔ xUs X k = 1) := h.2.2.2.2.2.2.2.2.2.2
theorem Inv.th {n : Nat} {X : Fx} {D : Dy} {F F' : Nat → Int32} {T : LVS} {pe bi : Nat → Option Nat} (h : Inv n X D F T pe bi) (e : ∀ j, j ≠ 0 → F' j = F j) : Inv n X D F' T pe bi := by
  obtain ⟨h1, h2, h3, h4, h5, h6, h7, h8, h9, ⟨c1, c2, c3, c4, c5⟩, h11⟩ := h
  exact ⟨h1, h2, h3, h4, h5, h6, h7, h8, h9, ⟨c1, by rw [e 1 (by omega)]; exact c2, by rw [e 7 (by omega)]; exact c3, by rw [e 8 (by omega)]; exact c4, by rw [e 9 (by omega)]; exact c5⟩, h11⟩
theorem Inv.t0 {n : Nat} {X : Fx} {D : Dy} {F : Nat → Int32} {T : LVS} {pe bi : Nat → Option Nat} {v : Int32} (h : Inv n X D F T pe bi) : Inv n X D (up1 F 0 v) T pe bi := h.th (fun j hj => up1_n hj)
theorem Inv.l4 {n : Nat} {X : Fx} {D : Dy} {F : Nat → Int32} {T : LVS} {pe bi : Nat → Option Nat} (h : Inv n X D F T pe bi) (l : List Nat) : Inv n X D F (up1 T.1 4 l, T.2.1, T.2.2) pe bi := by
  obtain ⟨h1, h2, h3, h4, h5, h6, h7, h8, h9, h10, h11⟩ := h
  refine ⟨h1, h2, h3, h4, h5, h6, h7, h8, fun c hc => ?_, h10, h11⟩
  have k : Kp (fun x => x = 4) T (up1 T.1 4 l, T.2.1, T.2.2) := fun x hx => ⟨up1_n hx, rfl, rfl⟩
  have v0 := eN_v (2 * c)
  have v1 := eN_v (2 * c + 1)
  exact ⟨(h9 c hc).1.kp k (by omega) (by omega) (by omega) rfl rfl rfl rfl, (h9 c hc).2.1.kp k (by omega) (by omega) (by omega) rfl rfl rfl rfl, (h9 c hc).2.2.kp k (by simp only [carB]; omega) (by simp only [carB]; omega) (by simp only [carB]; omega) (by simp only [carB]; omega) rfl rfl rfl rfl rfl⟩
/-- the numbers of the bus and the slots below 7 don't touch what cars know -/
theorem CarR.sl {X : Fx} {L : Nat → List Nat} {V S S' : Nat → Nat → Int32} {D : Dy} {c : Nat} (h : CarR X (L, V, S) D c) (e : ∀ x k, x ≠ 0 → 7 ≤ k → S' x k = S x k) : CarR X (L, V, S') D c := by
  have v0 := eN_v (2 * c)
  have v1 := eN_v (2 * c + 1)
  have eE : ∀ p, EndR X (L, V, S) D p → EndR X (L, V, S') D p := by
    intro p hp
    have v := eN_v p
    refine ⟨?_, ?_, hp.2.2.1, hp.2.2.2⟩
    · show S' _ 7 = _; rw [e _ _ (by omega) (by omega)]; exact hp.1
    · show S' _ 8 = _; rw [e _ _ (by omega) (by omega)]; exact hp.2.1
  obtain ⟨a1, a2, a3, a4, a5, a6⟩ := h.2.2
  refine ⟨eE _ h.1, eE _ h.2.1, a1, ?_, ?_, ?_, ?_, a6⟩
  · show S' _ 7 = _; rw [e _ _ (by simp only [carB]; omega) (by omega)]; exact a2
  · show S' _ 9 = _; rw [e _ _ (by simp only [carB]; omega) (by omega)]; exact a3
  · show S' _ 10 = _; rw [e _ _ (by simp only [carB]; omega) (by omega)]; exact a4
  · show ∀ i, i < 4 → byI (S' _ 8) _ = _; rw [e _ _ (by simp only [carB]; omega) (by omega)]; exact a5
theorem Inv.rds {n : Nat} {X : Fx} {D : Dy} {F : Nat → Int32} {T : LVS} {pe bi : Nat → Option Nat} (h : Inv n X D F T pe bi) (r : Nat) (losses : Int32) (hI : InvS n (rdT n pe losses r T).2.2) : Inv n X (rndR n X losses r D) (rdF F r (cnM X losses (2 * n))) (rdT n pe losses r T) pe bi ∧ rdsN n pe losses r T = r * cnM X losses (2 * n) := by
  obtain ⟨a1, a2, a3⟩ := rds_car (losses := losses) h.wx h.wd h.st h.ca r
  have z := rdsT_0 n pe losses r T
  have co := h.co
  have hS' : (rdT n pe losses r T).2.2 = up2 (up2 (rdsT n pe losses r T).2.2 0 7 (T.2.2 0 7 + nI r)) 0 8 (T.2.2 0 8 + nI (rdsN n pe losses r T)) := rfl
  refine ⟨⟨h.wx, h.wd.rndR h.wx r, h.bi, h.pe, hI, h.nu, h.rn, ?_, fun c hc => ?_, ⟨?_, ?_, ?_, ?_, ?_⟩, ?_⟩, a3⟩
  · exact h.st.ks (T' := rdT n pe losses r T) (fun x k hk => (up2_ks (by omega) (by omega) (by omega) x k hk).trans ((up2_ks (by omega) (by omega) (by omega) x k hk).trans (a1 x k hk)))
  · exact (a2 c hc).sl (fun x k hx _ => (up2_n hx k).trans (up2_n hx k))
  · rw [hS', up2_k (by omega), up2_k (by omega), z]; exact co.1
  · show rdF F r _ 1 = _; rw [rdF_1]; exact co.2.1
  · unfold rdF
    rw [hS', up2_k (by omega), up2_k (by omega), z, up1_n (by omega), up1_n (by omega)]; exact co.2.2.1
  · unfold rdF
    rw [hS', up2_k (by omega), up2_s, up1_n (by omega), up1_s, co.2.2.2.1]
  · unfold rdF
    rw [hS', up2_s, up1_s, a3, co.2.2.2.2]
  · intro k hk
    rw [hS', up2_k (by omega), up2_k (by omega), z]; exact h.tk k hk
/-- forgetting -/
def forD (c : Nat) (D : Dy) : Dy := (up1 (up1 (dVw D) (2 * c) []) (2 * c + 1) [], up1 (up1 (dWh D) (2 * c) 0) (2 * c + 1) 0, up1 (up1 (dSi D) (2 * c) 0) (2 * c + 1) 0, up1 (up1 (dTo D) (2 * c) none) (2 * c + 1) none,
  up1 (dDi D) c [], up1 (dAg D) c (fun k => if k = c then nI 0 else -1), dBy D, up1 (dCr D) c (nI 0), up1 (dCh D) c (nI 0))
theorem up11 {α : Type} {f : Nat → α} {c p : Nat} {v : α} : up1 (up1 f (2 * c) v) (2 * c + 1) v p = if p / 2 = c then v else f p := by
  unfold up1
  by_cases q : p / 2 = c
  · rw [if_pos q]
    rcases two_div q with e | e
    · rw [if_neg (by omega), if_pos e]
    · rw [if_pos e]
  · rw [if_neg q, if_neg (by omega), if_neg (by omega)]
theorem forD_e {c p : Nat} {D : Dy} (h : p / 2 = c) : dVw (forD c D) p = [] ∧ dWh (forD c D) p = 0 ∧ dSi (forD c D) p = 0 ∧ dTo (forD c D) p = none := by
  refine ⟨?_, ?_, ?_, ?_⟩
  · exact up11.trans (if_pos h)
  · exact up11.trans (if_pos h)
  · exact up11.trans (if_pos h)
  · exact up11.trans (if_pos h)
theorem forD_o {c p : Nat} {D : Dy} (h : ¬ p / 2 = c) : dVw (forD c D) p = dVw D p ∧ dWh (forD c D) p = dWh D p ∧ dSi (forD c D) p = dSi D p ∧ dTo (forD c D) p = dTo D p := by
  refine ⟨?_, ?_, ?_, ?_⟩
  · exact up11.trans (if_neg h)
  · exact up11.trans (if_neg h)
  · exact up11.trans (if_neg h)
  · exact up11.trans (if_neg h)
theorem WfD.for {n : Nat} {D : Dy} {c : Nat} (h : WfD n D) : WfD n (forD c D) := by
  obtain ⟨h1, h2, h3⟩ := h
  refine ⟨fun p hp => ?_, fun p hp l hl => ?_, fun k hk => ?_⟩
  · by_cases q : p / 2 = c
    · have := forD_e (D := D) q
      rw [this.1, this.2.1, this.2.2.1]
      exact ⟨⟨by simp, fun x hx => by cases hx⟩, by omega, by omega⟩
    · have := forD_o (D := D) q
      rw [this.1, this.2.1, this.2.2.1]
      exact h1 p hp
  · by_cases q : p / 2 = c
    · rw [(forD_e (D := D) q).2.2.2] at hl; cases hl
    · rw [(forD_o (D := D) q).2.2.2] at hl; exact h2 p hp l hl
  · by_cases q : k = c
    · subst q
      have e1 : dDi (forD k D) k = [] := up1_s
      have e2 : dAg (forD k D) k = fun j => if j = k then nI 0 else -1 := up1_s
      rw [e1, e2]
      exact ⟨⟨by simp, fun x hx => by cases hx⟩, List.nodup_nil, fun e => absurd rfl e, if_pos rfl, fun j _ hj _ => if_neg hj⟩
    · have e1 : dDi (forD c D) k = dDi D k := up1_n q
      have e2 : dAg (forD c D) k = dAg D k := up1_n q
      rw [e1, e2]
      exact h3 k hk
theorem InvS.for {n : Nat} {S : Nat → Nat → Int32} {c : Nat} (h : InvS n S) (hc : c < n) : InvS n (forS S c) := by
  have w : ∀ i, okUp n (carE c i) 7 (nI 0) := fun i => okUp_e (carE_N hc) (fun e => by omega) (fun _ => Or.inl rfl) (by omega)
  have s : ∀ i, okUp n (carE c i) 8 (nI 0) := fun i => okUp_e (carE_N hc) (fun _ => ⟨0, by omega, rfl⟩) (fun e => by omega) (by omega)
  exact ((((((h.up (w 0)).up (s 0)).up (w 1)).up (s 1)).up (okUp_c (fun _ => ⟨0, by omega, rfl⟩) (by omega))).up (okUp_c (fun e => by omega) (by omega))).up (okUp_c (fun e => by omega) (by omega))
theorem for_kp {T : LVS} {c : Nat} : Kp (lisP c) T (forL T.1 c, up1 T.2.1 (carB c + 30) (fun _ => -1), forS T.2.2 c) := by
  intro x hx
  have a0 : x ≠ eN (2 * c) := fun e => hx (Or.inl (Or.inl e))
  have a1 : x ≠ eN (2 * c) + 1 := fun e => hx (Or.inl (Or.inr (Or.inl e)))
  have a3 : x ≠ eN (2 * c) + 3 := fun e => hx (Or.inl (Or.inr (Or.inr e)))
  have b0 : x ≠ eN (2 * c + 1) := fun e => hx (Or.inr (Or.inl (Or.inl e)))
  have b1 : x ≠ eN (2 * c + 1) + 1 := fun e => hx (Or.inr (Or.inl (Or.inr (Or.inl e))))
  have b3 : x ≠ eN (2 * c + 1) + 3 := fun e => hx (Or.inr (Or.inl (Or.inr (Or.inr e))))
  have c0 : x ≠ carB c := fun e => hx (Or.inr (Or.inr (Or.inl e)))
  have c26 : x ≠ carB c + 26 := fun e => hx (Or.inr (Or.inr (Or.inr (Or.inl e))))
  have c30 : x ≠ carB c + 30 := fun e => hx (Or.inr (Or.inr (Or.inr (Or.inr (Or.inr (Or.inl e))))))
  refine ⟨?_, up1_n c30, ?_⟩
  · show forL T.1 c x = _
    unfold forL
    rw [eN_0, eN_1, up1_n c26, up1_n b3, up1_n b1, up1_n a3, up1_n a1]
  · show forS T.2.2 c x = _
    unfold forS
    rw [eN_0, eN_1, up2_o c0, up2_o c0, up2_o c0, up2_o b0, up2_o b0, up2_o a0, up2_o a0]
theorem for_ks {T : LVS} {c : Nat} : Ks T (forL T.1 c, up1 T.2.1 (carB c + 30) (fun _ => -1), forS T.2.2 c) := by
  intro x k hk
  show forS T.2.2 c x k = _
  unfold forS
  rw [up2_ks (by omega) (by omega) (by omega) x k hk, up2_ks (by omega) (by omega) (by omega) x k hk, up2_ks (by omega) (by omega) (by omega) x k hk, up2_ks (by omega) (by omega) (by omega) x k hk, up2_ks (by omega) (by omega) (by omega) x k hk, up2_ks (by omega) (by omega) (by omega) x k hk, up2_ks (by omega) (by omega) (by omega) x k hk]
theorem Inv.for {n : Nat} {X : Fx} {D : Dy} {F : Nat → Int32} {T : LVS} {pe bi : Nat → Option Nat} {c : Nat} (h : Inv n X D F T pe bi) (hc : c < n) : Inv n X (forD c D) F (forL T.1 c, up1 T.2.1 (carB c + 30) (fun _ => -1), forS T.2.2 c) pe bi := by
  have v0 := eN_v (2 * c)
  have v1 := eN_v (2 * c + 1)
  have z : forS T.2.2 c 0 = T.2.2 0 := (for_kp (T := T) (c := c) 0 (by unfold lisP endP carP; simp only [carB]; omega)).2.2
  refine ⟨h.wx, h.wd.for, h.bi, h.pe, h.is.for hc, h.nu, h.rn, h.st.ks for_ks, fun k hk => ?_, ?_, ?_⟩
  · by_cases q : k = c
    · subst q
      have old := h.ca k hk
      have d0 := forD_e (D := D) (c := k) (p := 2 * k) (by omega)
      have d1 := forD_e (D := D) (c := k) (p := 2 * k + 1) (by omega)
      have e1 : dDi (forD k D) k = [] := up1_s
      have e5 : dCh (forD k D) k = nI 0 := up1_s
      have e4 : dCr (forD k D) k = nI 0 := up1_s
      refine ⟨?_, ?_, ?_⟩
      · unfold EndR
        rw [d0.1, d0.2.1, d0.2.2.1, d0.2.2.2]
        refine ⟨?_, ?_, ?_, ?_⟩
        · show forS T.2.2 k (eN (2 * k)) 7 = _
          unfold forS
          rw [eN_0, eN_1, up2_n (by simp only [carB]; omega), up2_n (by simp only [carB]; omega), up2_n (by simp only [carB]; omega), up2_n (by omega), up2_n (by omega), up2_k (by omega), up2_s]
        · show forS T.2.2 k (eN (2 * k)) 8 = _
          unfold forS
          rw [eN_0, eN_1, up2_n (by simp only [carB]; omega), up2_n (by simp only [carB]; omega), up2_n (by simp only [carB]; omega), up2_n (by omega), up2_n (by omega), up2_s]
        · show forL T.1 k (eN (2 * k) + 1) = _
          unfold forL
          rw [eN_0, eN_1, up1_n (by simp only [carB]; omega), up1_n (by omega), up1_n (by omega), up1_n (by omega), up1_s]; rfl
        · show forL T.1 k (eN (2 * k) + 3) = _
          unfold forL
          rw [eN_0, eN_1, up1_n (by simp only [carB]; omega), up1_n (by omega), up1_n (by omega), up1_s]; rfl
      · unfold EndR
        rw [d1.1, d1.2.1, d1.2.2.1, d1.2.2.2]
        refine ⟨?_, ?_, ?_, ?_⟩
        · show forS T.2.2 k (eN (2 * k + 1)) 7 = _
          unfold forS
          rw [eN_0, eN_1, up2_n (by simp only [carB]; omega), up2_n (by simp only [carB]; omega), up2_n (by simp only [carB]; omega), up2_k (by omega), up2_s]
        · show forS T.2.2 k (eN (2 * k + 1)) 8 = _
          unfold forS
          rw [eN_0, eN_1, up2_n (by simp only [carB]; omega), up2_n (by simp only [carB]; omega), up2_n (by simp only [carB]; omega), up2_s]
        · show forL T.1 k (eN (2 * k + 1) + 1) = _
          unfold forL
          rw [eN_0, eN_1, up1_n (by simp only [carB]; omega), up1_n (by omega), up1_s]; rfl
        · show forL T.1 k (eN (2 * k + 1) + 3) = _
          unfold forL
          rw [eN_0, eN_1, up1_n (by simp only [carB]; omega), up1_s]; rfl
      · unfold DirR
        rw [e1, e4, e5]
        refine ⟨?_, ?_, ?_, ?_, ?_, fun j hj => by cases hj⟩
        · show forL T.1 k (carB k + 26) = _
          unfold forL; rw [up1_s]; rfl
        · show forS T.2.2 k (carB k) 7 = _
          unfold forS; rw [up2_k (by omega), up2_k (by omega), up2_s]; rfl
        · show forS T.2.2 k (carB k) 9 = _
          unfold forS; rw [up2_k (by omega), up2_s]
        · show forS T.2.2 k (carB k) 10 = _
          unfold forS; rw [up2_s]
        · show ∀ i, i < 4 → byI (forS T.2.2 k (carB k) 8) (nI i) = dBy D k k i
          unfold forS
          rw [eN_0, eN_1, up2_k (by omega), up2_k (by omega), up2_k (by omega), up2_n (by simp only [carB]; omega), up2_n (by simp only [carB]; omega), up2_n (by simp only [carB]; omega), up2_n (by simp only [carB]; omega)]
          exact old.2.2.2.2.2.2.1
    · refine ((h.ca k hk).kL for_kp q).ag ?_
      have d0 := forD_o (D := D) (c := c) (p := 2 * k) (by omega)
      have d1 := forD_o (D := D) (c := c) (p := 2 * k + 1) (by omega)
      exact ⟨⟨d0.1, d0.2.1, d0.2.2.1, d0.2.2.2⟩, ⟨d1.1, d1.2.1, d1.2.2.1, d1.2.2.2⟩, up1_n q, up1_n q, rfl, up1_n q, up1_n q⟩
  · have := h.co
    show forS T.2.2 c 0 4 = _ ∧ _ ∧ forS T.2.2 c 0 5 = _ ∧ forS T.2.2 c 0 7 = _ ∧ forS T.2.2 c 0 8 = _
    rw [z]; exact this
  · intro k hk
    show takI (forS T.2.2 c 0 6) k = true ↔ _
    rw [z]; exact h.tk k hk
