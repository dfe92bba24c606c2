/-! The class against the reference: cars by number, items by id -/
def eN (p : Nat) : Nat := carE (p / 2) (p % 2)
def itm (X : Fx) (p : Nat) : Nat := 2 * xId X (p / 2) + p % 2
theorem eN_v (p : Nat) : eN p = 36 + 32 * (p / 2) + 12 * (p % 2) := by
  unfold eN carE
  split <;> simp only [carB] <;> omega
theorem eN_0 (c : Nat) : carE c 0 = eN (2 * c) := by rw [eN_v]; unfold carE; rw [if_pos rfl]; simp only [carB]; omega
theorem eN_1 (c : Nat) : carE c 1 = eN (2 * c + 1) := by rw [eN_v]; unfold carE; rw [if_neg (by omega)]; simp only [carB]; omega
theorem eN_N {n p : Nat} (h : p < 2 * n) : endN n (eN p) := carE_N (by omega)
theorem eN_opp (p : Nat) : opp (eN p) = eN (p ^^^ 1) := by
  have a := x1_div p
  have b := x1_mod p
  rw [eN_v, eN_v, a, b]
  unfold opp
  rcases Nat.mod_two_eq_zero_or_one p with q | q
  · rw [q, if_pos (by omega)]
  · rw [q, if_neg (by omega)]; omega
theorem eN_inj {p q : Nat} (h : eN p = eN q) : p = q := by rw [eN_v, eN_v] at h; omega
theorem itm_div (X : Fx) (p : Nat) : itm X p / 2 = xId X (p / 2) := by unfold itm; omega
theorem itm_mod (X : Fx) (p : Nat) : itm X p % 2 = p % 2 := by unfold itm; omega
theorem itm_x1 (X : Fx) (p : Nat) : itm X (p ^^^ 1) = itm X p ^^^ 1 := by
  have a := x1_div (itm X p)
  have b := x1_mod (itm X p)
  rw [itm_div] at a
  rw [itm_mod] at b
  have c : itm X (p ^^^ 1) = 2 * xId X (p / 2) + (1 - p % 2) := by unfold itm; rw [x1_div, x1_mod]
  omega
theorem itm_lt {n : Nat} {X : Fx} (hX : WfX n X) {p : Nat} (hp : p < 2 * n) : itm X p < 512 := by
  have := (hX.2.1 (p / 2) (by omega)).2
  unfold itm
  omega
theorem itm_inj {n : Nat} {X : Fx} (hX : WfX n X) {p q : Nat} (hp : p < 2 * n) (hq : q < 2 * n) (h : itm X p = itm X q) : p = q := by
  have a : xId X (p / 2) = xId X (q / 2) := by rw [← itm_div, ← itm_div, h]
  have b := hX.2.2.1 (p / 2) (q / 2) (by omega) (by omega) a
  have c : p % 2 = q % 2 := by rw [← itm_mod X, ← itm_mod X q, h]
  omega
theorem map_turn (X : Fx) (l : List Nat) : rowTurn (l.map (itm X)) = (rowTurn l).map (itm X) := by
  unfold rowTurn
  rw [← List.map_reverse, List.map_map, List.map_map]
  exact List.map_congr_left (fun x _ => (itm_x1 X x).symm)
theorem map_inj {n : Nat} {X : Fx} (hX : WfX n X) : ∀ {l m : List Nat}, (∀ x ∈ l, x < 2 * n) → (∀ x ∈ m, x < 2 * n) → l.map (itm X) = m.map (itm X) → l = m
  | [], [], _, _, _ => rfl
  | [], b :: m, _, _, h => by cases h
  | a :: l, [], _, _, h => by cases h
  | a :: l, b :: m, h1, h2, h => by
    rw [List.map_cons, List.map_cons] at h
    injection h with e1 e2
    rw [itm_inj hX (h1 a (List.mem_cons_self ..)) (h2 b (List.mem_cons_self ..)) e1, map_inj hX (fun x hx => h1 x (List.mem_cons_of_mem _ hx)) (fun x hx => h2 x (List.mem_cons_of_mem _ hx)) e2]
theorem map_eq {n : Nat} {X : Fx} (hX : WfX n X) {l m : List Nat} (h1 : ∀ x ∈ l, x < 2 * n) (h2 : ∀ x ∈ m, x < 2 * n) : l.map (itm X) = m.map (itm X) ↔ l = m := ⟨map_inj hX h1 h2, fun e => by rw [e]⟩
theorem map_nil {X : Fx} {l : List Nat} : l.map (itm X) = [] ↔ l = [] := List.map_eq_nil_iff
theorem getD_map (X : Fx) {l : List Nat} {k : Nat} (h : k < l.length) : (l.map (itm X)).getD k 0 = itm X (l.getD k 0) := by
  rw [List.getD_eq_getElem?_getD, List.getD_eq_getElem?_getD, List.getElem?_map, List.getElem?_eq_getElem h]; rfl
theorem nodup_inj {f : Nat → Nat} : ∀ {l : List Nat}, (∀ a ∈ l, ∀ b ∈ l, f a = f b → a = b) → ((l.map f).Nodup ↔ l.Nodup)
  | [], _ => by simp
  | a :: l, h => by
    rw [List.map_cons, List.nodup_cons, List.nodup_cons, nodup_inj (fun x hx y hy => h x (List.mem_cons_of_mem _ hx) y (List.mem_cons_of_mem _ hy))]
    have : f a ∈ l.map f ↔ a ∈ l := by
      rw [List.mem_map]
      constructor
      · rintro ⟨x, hx, e⟩
        rw [← h x (List.mem_cons_of_mem _ hx) a (List.mem_cons_self ..) e]; exact hx
      · intro hx; exact ⟨a, hx, rfl⟩
    rw [this]
theorem rowIds_map (X : Fx) (l : List Nat) : rowIds (l.map (itm X)) = (rowIds l).map (xId X) := by
  show List.map (· / 2) (l.map (itm X)) = List.map (xId X) (List.map (· / 2) l)
  rw [List.map_map, List.map_map]
  exact List.map_congr_left (fun x _ => itm_div X x)
theorem tw_map {n : Nat} {X : Fx} (hX : WfX n X) {l : List Nat} (h : ∀ x ∈ l, x < 2 * n) : rowTw (l.map (itm X)) = rowTw l := by
  have a : (rowIds (l.map (itm X))).Nodup ↔ (rowIds l).Nodup := by
    rw [rowIds_map]
    exact nodup_inj (fun a ha b hb e => hX.2.2.1 a b (rowIds_lt h a ha) (rowIds_lt h b hb) e)
  unfold rowTw
  by_cases q : (rowIds l).Nodup
  · rw [if_pos q, if_pos (a.mpr q)]
  · rw [if_neg q, if_neg (fun e => q (a.mp e))]
theorem no_map {n : Nat} {X : Fx} (hX : WfX n X) {c : Nat} (hc : c < n) : ∀ {l : List Nat} (k : Nat), (∀ x ∈ l, x < 2 * n) → rowNo (xId X c) (l.map (itm X)) k = rowNo c l k
  | [], _, _ => rfl
  | v :: l, k, h => by
    rw [List.map_cons]
    unfold rowNo
    have hv := h v (List.mem_cons_self ..)
    have e : itm X v / 2 = xId X c ↔ v / 2 = c := by
      rw [itm_div]
      exact ⟨fun q => hX.2.2.1 _ _ (by omega) hc q, fun q => by rw [q]⟩
    by_cases q : v / 2 = c
    · rw [if_pos q, if_pos (e.mpr q)]
    · rw [if_neg q, if_neg (fun z => q (e.mp z))]
      exact no_map hX hc (k + 1) (fun x hx => h x (List.mem_cons_of_mem _ hx))
theorem rowNo_p {x : Nat} : ∀ {l : List Nat} {k : Nat}, rowNo x l k ≠ 0 → ∃ i, i < l.length ∧ rowNo x l k = k + i + 1 ∧ l.getD i 0 / 2 = x
  | [], k, h => absurd rfl h
  | v :: l, k, h => by
    unfold rowNo at h ⊢
    by_cases q : v / 2 = x
    · rw [if_pos q]; exact ⟨0, by simp, by omega, q⟩
    · rw [if_neg q] at h ⊢
      obtain ⟨i, h1, h2, h3⟩ := rowNo_p h
      exact ⟨i + 1, by rw [List.length_cons]; omega, by omega, h3⟩
theorem draft_map {n : Nat} {X : Fx} {D : Dy} (hX : WfX n X) (hD : WfD n D) {c : Nat} (hc : c < n) : draftI ((dVw D (2 * c)).map (itm X)) ((dVw D (2 * c + 1)).map (itm X)) (itm X (2 * c)) (nI (dWh D (2 * c))) (nI (dWh D (2 * c + 1))) = (seeM X D c).map (itm X) := by
  have w0 := (hD.1 (2 * c) (by omega))
  have w1 := (hD.1 (2 * c + 1) (by omega))
  have z0 : nI (dWh D (2 * c)) = nI 0 ↔ dWh D (2 * c) = 0 := nI_eq (by omega) (by omega)
  have z1 : nI (dWh D (2 * c + 1)) = nI 0 ↔ dWh D (2 * c + 1) = 0 := nI_eq (by omega) (by omega)
  have lt := seeT_lt (n := n) (l0 := dVw D (2 * c)) (l1 := dVw D (2 * c + 1)) (p := 2 * c) w0.1.2 w1.1.2 (by omega)
  have eT : rowTurn ((dVw D (2 * c)).map (itm X)) ++ [itm X (2 * c)] ++ (dVw D (2 * c + 1)).map (itm X) = (seeT (dVw D (2 * c)) (dVw D (2 * c + 1)) (2 * c)).map (itm X) := by
    unfold seeT
    rw [map_turn, List.map_append, List.map_append]; rfl
  have len := seeT_len (dVw D (2 * c)) (dVw D (2 * c + 1)) (2 * c)
  unfold draftI seeM
  rw [eT, List.length_map, List.length_map]
  generalize seeT (dVw D (2 * c)) (dVw D (2 * c + 1)) (2 * c) = t at lt eT len ⊢
  by_cases q : dWh D (2 * c) = 0 ∨ dWh D (2 * c + 1) = 0 ∨ 23 < (dVw D (2 * c)).length + (dVw D (2 * c + 1)).length
  · rw [if_pos q, if_pos (by rw [z0, z1]; omega)]; rfl
  · rw [if_neg q, if_neg (by rw [z0, z1]; omega)]
    unfold seeS
    rw [tw_map hX lt]
    by_cases q2 : rowTw t = 1
    · rw [if_pos q2, if_pos q2]; rfl
    · rw [if_neg q2, if_neg q2, show (dVw D (2 * c)).length + (dVw D (2 * c + 1)).length = t.length - 1 by omega, getD_map X (by omega), getD_map X (by omega), itm_div, itm_div]
      split
      · rw [map_turn]
      · rfl
/-- what does not move, on the class's side -/
def StR (n : Nat) (X : Fx) (S : Nat → Nat → Int32) (pe : Nat → Option Nat) : Prop := (∀ c, c < n → S (carB c) 0 = nI (xId X c)) ∧ (∀ c, c < n → S (carB c) 1 = nI (xMk X c)) ∧ (∀ p, p < 2 * n → S (eN p) 0 = nI (itm X p)) ∧
  (∀ p, p < 2 * n → pe (eN p) = (xLk X p).map eN) ∧ (∀ p, p < 2 * n → S (eN p) 6 = couM X p)
/-- one end of the class -/
def EndR (X : Fx) (T : LVS) (D : Dy) (p : Nat) : Prop := T.2.2 (eN p) 7 = nI (dWh D p) ∧ T.2.2 (eN p) 8 = nI (dSi D p) ∧ T.1 (eN p + 1) = (dVw D p).map (itm X) ∧ T.1 (eN p + 3) = ((dTo D p).getD []).map (itm X)
/-- what a car knows of the car at a place -/
def NewR (D : Dy) (c k : Nat) (a w : Int32) : Prop := a = dAg D c k ∧ (¬ dAg D c k = -1 → ∀ i, i < 4 → byI w (nI i) = dBy D c k i)
def DirR (X : Fx) (T : LVS) (D : Dy) (c : Nat) : Prop := T.1 (carB c + 26) = (dDi D c).map (itm X) ∧ T.2.2 (carB c) 7 = nI (rowNo c (dDi D c) 0) ∧ T.2.2 (carB c) 9 = dCh D c ∧ T.2.2 (carB c) 10 = dCr D c ∧
  (∀ i, i < 4 → byI (T.2.2 (carB c) 8) (nI i) = dBy D c c i) ∧ ∀ j, j < (dDi D c).length → j + 1 ≠ rowNo c (dDi D c) 0 → NewR D c ((dDi D c).getD j 0 / 2) (T.2.1 (carB c + 30) j) (T.2.1 (carB c + 31) j)
def CarR (X : Fx) (T : LVS) (D : Dy) (c : Nat) : Prop := EndR X T D (2 * c) ∧ EndR X T D (2 * c + 1) ∧ DirR X T D c
/-- the frame that end q sends -/
def FrmR (X : Fx) (T : LVS) (D : Dy) (q : Nat) : Prop := T.1 (eN q + 5 + 1) = (dVw D (q ^^^ 1)).map (itm X) ∧ T.1 (eN q + 5 + 3) = (dDi D (q / 2)).map (itm X) ∧ T.2.2 (eN q + 5) 4 = nI (itm X q) ∧ T.2.2 (eN q + 5) 5 = nI (dWh D (q ^^^ 1)) ∧
  ∀ j, j < (dDi D (q / 2)).length → NewR D (q / 2) ((dDi D (q / 2)).getD j 0 / 2) (T.2.1 (eN q + 5 + 5) j) (T.2.1 (eN q + 5 + 6) j)
theorem CarR.e {X : Fx} {T : LVS} {D : Dy} {c p : Nat} (h : CarR X T D c) (hp : p / 2 = c) : EndR X T D p := by
  rcases two_div hp with e | e
  · rw [e]; exact h.1
  · rw [e]; exact h.2.1
