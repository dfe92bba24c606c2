/-! What always holds: a car more -/
def newD (n : Nat) (D : Dy) : Dy := ((forD n D).1, (forD n D).2.1, (forD n D).2.2.1, (forD n D).2.2.2.1, (forD n D).2.2.2.2.1, (forD n D).2.2.2.2.2.1, up1 (dBy D) n (fun _ _ => nI 0), (forD n D).2.2.2.2.2.2.2.1, (forD n D).2.2.2.2.2.2.2.2)
theorem addX_it {n : Nat} {X : Fx} {id mask p : Nat} (h : p < 2 * n) : itm (addX n X id mask) p = itm X p := by
  unfold itm
  show 2 * up1 (xId X) n id (p / 2) + _ = _
  rw [up1_n (by omega)]
theorem addX_map {n : Nat} {X : Fx} {id mask : Nat} {l : List Nat} (h : ∀ x ∈ l, x < 2 * n) : l.map (itm (addX n X id mask)) = l.map (itm X) := List.map_congr_left (fun x hx => addX_it (h x hx))
theorem itL.mono {n m : Nat} {l : List Nat} (h : itL n l) (hm : n ≤ m) : itL m l := ⟨h.1, fun x hx => by have := h.2 x hx; omega⟩
theorem WfD.new {n : Nat} {D : Dy} (h : WfD n D) : WfD (n + 1) (newD n D) := by
  obtain ⟨h1, h2, h3⟩ := h
  refine ⟨fun p hp => ?_, fun p hp l hl => ?_, fun k hk => ?_⟩
  · show itL (n + 1) (dVw (forD n D) p) ∧ dWh (forD n D) p ≤ 1 ∧ dSi (forD n D) p ≤ 4
    by_cases q : p / 2 = n
    · have := forD_e (D := D) q
      rw [this.1, this.2.1, this.2.2.1]
      exact ⟨⟨by simp, fun x hx => by cases hx⟩, by omega, by omega⟩
    · have := forD_o (D := D) q
      rw [this.1, this.2.1, this.2.2.1]
      have a := h1 p (by omega)
      exact ⟨a.1.mono (by omega), a.2⟩
  · have hl : dTo (forD n D) p = some l := hl
    by_cases q : p / 2 = n
    · rw [(forD_e (D := D) q).2.2.2] at hl; cases hl
    · rw [(forD_o (D := D) q).2.2.2] at hl; exact (h2 p (by omega) l hl).mono (by omega)
  · show itL (n + 1) (dDi (forD n D) k) ∧ (rowIds (dDi (forD n D) k)).Nodup ∧ (dDi (forD n D) k ≠ [] → k ∈ rowIds (dDi (forD n D) k)) ∧ dAg (forD n D) k k = nI 0 ∧ ∀ j, j < 24 → j ≠ k → j ∉ rowIds (dDi (forD n D) k) → dAg (forD n D) k j = -1
    by_cases q : k = n
    · subst q
      have e1 : dDi (forD k D) k = [] := up1_s
      have e2 : dAg (forD k D) k = fun j => if j = k then nI 0 else -1 := up1_s
      rw [e1, e2]
      exact ⟨⟨by simp, fun x hx => by cases hx⟩, List.nodup_nil, fun e => absurd rfl e, if_pos rfl, fun j _ hj _ => if_neg hj⟩
    · have e1 : dDi (forD n D) k = dDi D k := up1_n q
      have e2 : dAg (forD n D) k = dAg D k := up1_n q
      rw [e1, e2]
      have a := h3 k (by omega)
      exact ⟨a.1.mono (by omega), a.2⟩
theorem BiR.add {n : Nat} {X : Fx} {bi : Nat → Option Nat} {id mask : Nat} (h : BiR n X bi) (hb : bi id = none) : BiR (n + 1) (addX n X id mask) (up1 bi id (some n)) := by
  refine ⟨fun i c hi => ?_, fun c hc => ?_⟩
  · by_cases e : i = id
    · subst e
      rw [up1_s] at hi; cases hi
      exact ⟨by omega, up1_s⟩
    · rw [up1_n e] at hi
      have a := h.1 i c hi
      exact ⟨by omega, (up1_n (by omega)).trans a.2⟩
  · show up1 bi id (some n) (up1 (xId X) n id c) = some c
    by_cases e : c = n
    · subst e; rw [up1_s, up1_s]
    · rw [up1_n (f := xId X) e]
      have a := h.2 c (by omega)
      rw [up1_n (fun z => by rw [z, hb] at a; cases a)]; exact a
theorem endN_up {n e : Nat} (h : endN n e) : endN (n + 1) e := by unfold endN at *; omega
theorem endN_old {n e : Nat} (h : endN (n + 1) e) (h2 : e < 34 + 32 * n) : endN n e := by unfold endN at *; omega
theorem endN_new {n e : Nat} (h : endN (n + 1) e) (h2 : ¬ e < 34 + 32 * n) : e = carB n + 2 ∨ e = carB n + 14 := by unfold endN at h; simp only [carB]; omega
theorem gS_c {n : Nat} {S : Nat → Nat → Int32} {id : Nat} {mask : Int32} (k : Nat) : gS n S id mask (carB n) k = gK id mask 0 k := congrFun (gS_n (n := n) (S := S) (id := id) (mask := mask) 0) k
theorem InvS.grow {n : Nat} {S : Nat → Nat → Int32} {id : Nat} {mask : Int32} (h : InvS n S) (h2 : id ≤ 255) : InvS (n + 1) (gS n S id mask) := by
  intro x k
  by_cases q : x < 34 + 32 * n
  · rw [gS_o q]
    obtain ⟨a1, a2, a3⟩ := h x k
    refine ⟨fun he => a1 (endN_old he q), fun e he hx => a2 e (endN_old he (by omega)) hx, fun c hc hx => a3 c ?_ hx⟩
    simp only [carB] at hx; omega
  · have hx : x = carB n + (x - (34 + 32 * n)) := by simp only [carB]; omega
    have hg : gS n S id mask x k = gK id mask (x - (34 + 32 * n)) k := by unfold gS; rw [if_neg q]
    rw [hg]
    refine ⟨fun he => ?_, fun e he hxe => ?_, fun c hc hxc => ?_⟩
    · rcases endN_new he q with e | e
      · have : x - (34 + 32 * n) = 2 := by simp only [carB] at e; omega
        rw [this]
        refine ⟨fun hk => ⟨0, by omega, ?_⟩, fun hk => Or.inl ?_, fun hk => ⟨2 * id, by omega, ?_⟩⟩
        · subst hk; rfl
        · subst hk; rfl
        · subst hk; rfl
      · have : x - (34 + 32 * n) = 14 := by simp only [carB] at e; omega
        rw [this]
        refine ⟨fun hk => ⟨0, by omega, ?_⟩, fun hk => Or.inl ?_, fun hk => ⟨2 * id + 1, by omega, ?_⟩⟩
        · subst hk; rfl
        · subst hk; rfl
        · subst hk; rfl
    · have hz : gK id mask (x - (34 + 32 * n)) k = 0 := by
        by_cases q2 : e < 34 + 32 * n
        · exfalso
          have := endN_old he q2
          unfold endN at this
          omega
        · have : x - (34 + 32 * n) = 7 ∨ x - (34 + 32 * n) = 19 := by
            rcases endN_new he q2 with e1 | e1 <;> simp only [carB] at e1 <;> omega
          rcases this with e1 | e1 <;> rw [e1] <;> rfl
      rw [hz]
      exact ⟨fun _ => ⟨0, by omega, rfl⟩, fun _ => Or.inl rfl⟩
    · have : x - (34 + 32 * n) = 0 := by simp only [carB] at hxc; omega
      rw [this]
      refine ⟨fun hk => ⟨0, by omega, ?_⟩, fun hk => ⟨id, by omega, ?_⟩⟩
      · subst hk; rfl
      · subst hk; rfl
theorem Inv.add {n : Nat} {X : Fx} {D : Dy} {F F' : Nat → Int32} {T : LVS} {pe bi : Nat → Option Nat} {id mask : Nat} (h : Inv n X D F T pe bi) (h24 : n < 24) (h1 : 1 ≤ id) (h2 : id ≤ 255) (h3 : mask ≤ 65535) (hb : bi id = none)
    (f1 : F' 1 = nI (n + 1)) (f7 : F' 7 = F 7) (f8 : F' 8 = F 8) (f9 : F' 9 = F 9) :
    Inv (n + 1) (addX n X id mask) (newD n D) F' (gL n T.1, gV n T.2.1, gS n (up2 T.2.2 0 4 (nI (n + 1))) id (nI mask)) (gP n pe) (up1 bi id (some n)) := by
  have co := h.co
  have hno : ∀ c, c < n → xId X c ≠ id := by
    intro c hc e
    have := h.bi.2 c hc
    rw [e, hb] at this; cases this
  have z : ∀ k, gS n (up2 T.2.2 0 4 (nI (n + 1))) id (nI mask) 0 k = up2 T.2.2 0 4 (nI (n + 1)) 0 k := fun k => by rw [gS_o (by omega)]
  have so : ∀ x k, x ≠ 0 → x < 34 + 32 * n → gS n (up2 T.2.2 0 4 (nI (n + 1))) id (nI mask) x k = T.2.2 x k := fun x k h0 hx => by rw [gS_o hx, up2_n h0]
  have eb : ∀ p, p < 2 * n → eN p + 3 < 34 + 32 * n := fun p hp => by rw [eN_v]; rcases Nat.mod_two_eq_zero_or_one p with q | q <;> omega
  have en : ∀ p, p < 2 * (n + 1) → ¬ p < 2 * n → (p = 2 * n ∧ eN p = carB n + 2) ∨ (p = 2 * n + 1 ∧ eN p = carB n + 14) := by
    intro p hp hq
    rcases (show p = 2 * n ∨ p = 2 * n + 1 by omega) with e | e
    · subst e; exact Or.inl ⟨rfl, by rw [eN_v]; simp only [carB]; omega⟩
    · subst e; exact Or.inr ⟨rfl, by rw [eN_v]; simp only [carB]; omega⟩
  refine ⟨h.wx.add h24 h1 h2 h3 hno, h.wd.new, h.bi.add hb, ?_, (h.is.up (okUp_0 _ (by omega))).grow h2, h.nu.add, ?_, ?_, fun c hc => ?_, ?_, ?_⟩
  · intro e x he hx
    by_cases q : e < 34 + 32 * n
    · rw [gP_o q] at hx
      exact endN_up (h.pe e x (endN_old he q) hx)
    · unfold gP at hx; rw [if_neg q] at hx; cases hx
  · exact h.rn.add (fun x hx => addX_lk hx) (addX_new (by omega) (by omega)) (addX_new (by omega) (by omega))
  · obtain ⟨s1, s2, s3, s4, s5⟩ := h.st
    refine ⟨fun c hc => ?_, fun c hc => ?_, fun p hp => ?_, fun p hp => ?_, fun p hp => ?_⟩
    · show gS n _ id (nI mask) (carB c) 0 = nI (up1 (xId X) n id c)
      by_cases q : c = n
      · subst q; rw [up1_s, gS_c]; rfl
      · rw [up1_n q, so _ _ (by simp only [carB]; omega) (by simp only [carB]; omega)]; exact s1 c (by omega)
    · show gS n _ id (nI mask) (carB c) 1 = nI (up1 (xMk X) n mask c)
      by_cases q : c = n
      · subst q; rw [up1_s, gS_c]; rfl
      · rw [up1_n q, so _ _ (by simp only [carB]; omega) (by simp only [carB]; omega)]; exact s2 c (by omega)
    · show gS n _ id (nI mask) (eN p) 0 = nI (itm (addX n X id mask) p)
      by_cases q : p < 2 * n
      · rw [addX_it q, so _ _ (eN_pos p) (by have := eb p q; omega)]; exact s3 p q
      · rcases en p hp q with ⟨e1, e2⟩ | ⟨e1, e2⟩
        · rw [e2, gS_n, e1]
          unfold itm
          show nI (2 * id) = nI (2 * up1 (xId X) n id (2 * n / 2) + 2 * n % 2)
          rw [show 2 * n / 2 = n by omega, up1_s, show 2 * n % 2 = 0 by omega]; rfl
        · rw [e2, gS_n, e1]
          unfold itm
          show nI (2 * id + 1) = nI (2 * up1 (xId X) n id ((2 * n + 1) / 2) + (2 * n + 1) % 2)
          rw [show (2 * n + 1) / 2 = n by omega, up1_s, show (2 * n + 1) % 2 = 1 by omega]
    · show gP n pe (eN p) = _
      by_cases q : p < 2 * n
      · rw [gP_o (by have := eb p q; omega), addX_lk q]; exact s4 p q
      · rw [addX_new hp q]
        rcases en p hp q with ⟨e1, e2⟩ | ⟨e1, e2⟩ <;> rw [e2, gP_n] <;> rfl
    · show gS n _ id (nI mask) (eN p) 6 = couM (addX n X id mask) p
      unfold couM
      by_cases q : p < 2 * n
      · rw [so _ _ (eN_pos p) (by have := eb p q; omega), addX_lk q]; exact s5 p q
      · rw [addX_new hp q]
        rcases en p hp q with ⟨e1, e2⟩ | ⟨e1, e2⟩ <;> rw [e2, gS_n] <;> rfl
  · by_cases q : c = n
    · subst q
      have d0 := forD_e (D := D) (c := c) (p := 2 * c) (by omega)
      have d1 := forD_e (D := D) (c := c) (p := 2 * c + 1) (by omega)
      have v0 : eN (2 * c) = carB c + 2 := by rw [eN_v]; simp only [carB]; omega
      have v1 : eN (2 * c + 1) = carB c + 14 := by rw [eN_v]; simp only [carB]; omega
      have e1 : dDi (forD c D) c = [] := up1_s
      have e4 : dCr (forD c D) c = nI 0 := up1_s
      have e5 : dCh (forD c D) c = nI 0 := up1_s
      have c0 : ∀ k, gS c (up2 T.2.2 0 4 (nI (c + 1))) id (nI mask) (carB c) k = gK id (nI mask) 0 k := fun k => gS_c k
      refine ⟨?_, ?_, ?_⟩
      · show gS c _ id (nI mask) (eN (2 * c)) 7 = nI (dWh (forD c D) (2 * c)) ∧ gS c _ id (nI mask) (eN (2 * c)) 8 = nI (dSi (forD c D) (2 * c)) ∧ gL c T.1 (eN (2 * c) + 1) = (dVw (forD c D) (2 * c)).map _ ∧ gL c T.1 (eN (2 * c) + 3) = ((dTo (forD c D) (2 * c)).getD []).map _
        rw [d0.1, d0.2.1, d0.2.2.1, d0.2.2.2, v0, gS_n, Nat.add_assoc, gL_n, Nat.add_assoc, gL_n]
        exact ⟨rfl, rfl, rfl, rfl⟩
      · show gS c _ id (nI mask) (eN (2 * c + 1)) 7 = nI (dWh (forD c D) (2 * c + 1)) ∧ gS c _ id (nI mask) (eN (2 * c + 1)) 8 = nI (dSi (forD c D) (2 * c + 1)) ∧ gL c T.1 (eN (2 * c + 1) + 1) = (dVw (forD c D) (2 * c + 1)).map _ ∧ gL c T.1 (eN (2 * c + 1) + 3) = ((dTo (forD c D) (2 * c + 1)).getD []).map _
        rw [d1.1, d1.2.1, d1.2.2.1, d1.2.2.2, v1, gS_n, Nat.add_assoc, gL_n, Nat.add_assoc, gL_n]
        exact ⟨rfl, rfl, rfl, rfl⟩
      · show gL c T.1 (carB c + 26) = (dDi (forD c D) c).map _ ∧ gS c _ id (nI mask) (carB c) 7 = nI (rowNo c (dDi (forD c D) c) 0) ∧ gS c _ id (nI mask) (carB c) 9 = dCh (forD c D) c ∧ gS c _ id (nI mask) (carB c) 10 = dCr (forD c D) c ∧ (∀ i, i < 4 → byI (gS c _ id (nI mask) (carB c) 8) (nI i) = up1 (dBy D) c (fun _ _ => nI 0) c c i) ∧ ∀ j, j < (dDi (forD c D) c).length → _
        rw [e1, e4, e5, gL_n, c0, c0, c0, c0, up1_s]
        refine ⟨rfl, rfl, rfl, rfl, fun i hi => ?_, fun j hj => by cases hj⟩
        show byI 0 (nI i) = nI 0
        have : ∀ i : Fin 4, byI 0 (nI i.val) = nI 0 := by decide +kernel
        exact this ⟨i, hi⟩
    · have hc' : c < n := by omega
      have d0 := forD_o (D := D) (c := n) (p := 2 * c) (by omega)
      have d1 := forD_o (D := D) (c := n) (p := 2 * c + 1) (by omega)
      have old := h.ca c hc'
      have w0 := h.wd.1 (2 * c) (by omega)
      have w1 := h.wd.1 (2 * c + 1) (by omega)
      have b0 := eb (2 * c) (by omega)
      have b1 := eb (2 * c + 1) (by omega)
      have tl : ∀ p, p < 2 * n → ∀ x ∈ (dTo D p).getD [], x < 2 * n := by
        intro p hp x hx
        cases ht : dTo D p with
        | none => rw [ht] at hx; cases hx
        | some l => rw [ht] at hx; exact (h.wd.2.1 p hp l ht).2 x hx
      have E : ∀ p, p < 2 * n → EndR X T D p → dVw (forD n D) p = dVw D p ∧ dWh (forD n D) p = dWh D p ∧ dSi (forD n D) p = dSi D p ∧ dTo (forD n D) p = dTo D p → EndR (addX n X id mask) (gL n T.1, gV n T.2.1, gS n (up2 T.2.2 0 4 (nI (n + 1))) id (nI mask)) (newD n D) p := by
        intro p hp he hd
        have b := eb p hp
        show gS n _ id (nI mask) (eN p) 7 = nI (dWh (forD n D) p) ∧ gS n _ id (nI mask) (eN p) 8 = nI (dSi (forD n D) p) ∧ gL n T.1 (eN p + 1) = (dVw (forD n D) p).map _ ∧ gL n T.1 (eN p + 3) = ((dTo (forD n D) p).getD []).map _
        rw [hd.1, hd.2.1, hd.2.2.1, hd.2.2.2, so _ _ (eN_pos p) (by omega), so _ _ (eN_pos p) (by omega), gL_o (by omega), gL_o (by omega), addX_map (h.wd.1 p hp).1.2, addX_map (tl p hp)]
        exact he
      refine ⟨E _ (by omega) old.1 d0, E _ (by omega) old.2.1 d1, ?_⟩
      have e1 : dDi (forD n D) c = dDi D c := up1_n q
      have e2 : dAg (forD n D) c = dAg D c := up1_n q
      have e3 : up1 (dBy D) n (fun _ _ => nI 0) c = dBy D c := up1_n q
      have e4 : dCr (forD n D) c = dCr D c := up1_n q
      have e5 : dCh (forD n D) c = dCh D c := up1_n q
      have cb : ∀ k, k < 32 → carB c + k < 34 + 32 * n := fun k hk => by simp only [carB]; omega
      have c0 : carB c ≠ 0 := by simp only [carB]; omega
      have cb0 := cb 0 (by omega)
      rw [Nat.add_zero] at cb0
      show gL n T.1 (carB c + 26) = (dDi (forD n D) c).map _ ∧ gS n _ id (nI mask) (carB c) 7 = nI (rowNo c (dDi (forD n D) c) 0) ∧ gS n _ id (nI mask) (carB c) 9 = dCh (forD n D) c ∧ gS n _ id (nI mask) (carB c) 10 = dCr (forD n D) c ∧ (∀ i, i < 4 → byI (gS n _ id (nI mask) (carB c) 8) (nI i) = up1 (dBy D) n (fun _ _ => nI 0) c c i) ∧ ∀ j, j < (dDi (forD n D) c).length → j + 1 ≠ rowNo c (dDi (forD n D) c) 0 → (gV n T.2.1 (carB c + 30) j = dAg (forD n D) c ((dDi (forD n D) c).getD j 0 / 2) ∧ (¬ dAg (forD n D) c ((dDi (forD n D) c).getD j 0 / 2) = -1 → ∀ i, i < 4 → byI (gV n T.2.1 (carB c + 31) j) (nI i) = up1 (dBy D) n (fun _ _ => nI 0) c ((dDi (forD n D) c).getD j 0 / 2) i))
      rw [e1, e2, e3, e4, e5, gL_o (cb 26 (by omega)), so _ _ c0 cb0, so _ _ c0 cb0, so _ _ c0 cb0, so _ _ c0 cb0, gV_o (cb 30 (by omega)), gV_o (cb 31 (by omega)), addX_map (h.wd.2.2 c hc').1.2]
      exact old.2.2
  · refine ⟨?_, f1, ?_, ?_, ?_⟩
    · show gS n _ id (nI mask) 0 4 = _; rw [z, up2_s]
    · show gS n _ id (nI mask) 0 5 = _; rw [z, up2_k (by omega), f7]; exact co.2.2.1
    · show gS n _ id (nI mask) 0 7 = _; rw [z, up2_k (by omega), f8]; exact co.2.2.2.1
    · show gS n _ id (nI mask) 0 8 = _; rw [z, up2_k (by omega), f9]; exact co.2.2.2.2
  · intro k hk
    show takI (gS n _ id (nI mask) 0 6) k = true ↔ _
    rw [z, up2_k (by omega)]; exact h.tk k hk
