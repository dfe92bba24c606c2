/-! Runs of coupled cars -/
def Run (lk : Nat → Option Nat) (r : List Nat) : Prop := 0 < r.length ∧ lk (r.getD 0 0) = none ∧ lk (r.getD (r.length - 1) 0 ^^^ 1) = none ∧
  ∀ i, i + 1 < r.length → lk (r.getD i 0 ^^^ 1) = some (r.getD (i + 1) 0) ∧ lk (r.getD (i + 1) 0) = some (r.getD i 0 ^^^ 1)
theorem Run.turn {lk : Nat → Option Nat} {r : List Nat} (h : Run lk r) : Run lk (rowTurn r) := by
  obtain ⟨h1, h2, h3, h4⟩ := h
  refine ⟨by rw [rowTurn_len]; exact h1, ?_, ?_, ?_⟩
  · rw [rowTurn_get r h1]; exact h3
  · rw [rowTurn_len, rowTurn_get r (by omega), x1_x1, show r.length - 1 - (r.length - 1) = 0 by omega]; exact h2
  · intro i hi
    rw [rowTurn_len] at hi
    rw [rowTurn_get r (by omega), rowTurn_get r hi, x1_x1]
    have := h4 (r.length - 1 - (i + 1)) (by omega)
    rw [show r.length - 1 - (i + 1) + 1 = r.length - 1 - i by omega] at this
    exact ⟨this.2, this.1⟩
theorem Run.out {lk : Nat → Option Nat} {r : List Nat} (h : Run lk r) : ∀ (i m : Nat), i ≤ m → i < r.length → outM lk m (r.getD i 0) = r.getD 0 0
  | 0, 0, _, _ => rfl
  | 0, m + 1, _, _ => by unfold outM; rw [h.2.1]
  | i + 1, m + 1, hm, hi => by
    unfold outM
    rw [(h.2.2.2 i hi).2]
    show outM lk m (r.getD i 0 ^^^ 1 ^^^ 1) = _
    rw [x1_x1]
    exact Run.out h i m (by omega) (by omega)
theorem Run.walk {lk : Nat → Option Nat} {r : List Nat} (h : Run lk r) : ∀ (m i : Nat), r.length ≤ m + i → i < r.length → runM lk m (some (r.getD i 0)) = r.drop i ∧ endM lk m (some (r.getD i 0)) = none
  | 0, i, hm, hi => by omega
  | m + 1, i, hm, hi => by
    unfold runM endM
    have e : r.drop i = r.getD i 0 :: r.drop (i + 1) := by
      rw [List.drop_eq_getElem_cons hi, List.getD_eq_getElem?_getD, List.getElem?_eq_getElem hi]; rfl
    rw [e]
    by_cases q : i + 1 < r.length
    · rw [(h.2.2.2 i q).1]
      have := Run.walk h m (i + 1) (by omega) q
      rw [this.1, this.2]
      exact ⟨rfl, rfl⟩
    · have e2 : i = r.length - 1 := by omega
      have e3 : lk (r.getD i 0 ^^^ 1) = none := by rw [e2]; exact h.2.2.1
      rw [e3, List.drop_of_length_le (by omega)]
      cases m <;> exact ⟨rfl, rfl⟩
/-- each car lies in a run -/
def Rns (n : Nat) (lk : Nat → Option Nat) : Prop := ∀ c, c < n → ∃ r, Run lk r ∧ (rowIds r).Nodup ∧ (∀ x ∈ r, x < 2 * n) ∧ c ∈ rowIds r
theorem nd_le : ∀ (N : Nat) (l : List Nat), l.Nodup → (∀ x ∈ l, x < N) → l.length ≤ N
  | 0, l, _, h => by
    cases l with
    | nil => exact Nat.le_refl _
    | cons a t => exact absurd (h a (List.mem_cons_self ..)) (Nat.not_lt_zero _)
  | N + 1, l, hn, h => by
    have h1 := nd_le N (l.erase N) (hn.erase N) (fun x hx => by
      have a := h x (List.mem_of_mem_erase hx)
      have b : x ≠ N := fun e => by subst e; exact (List.Nodup.not_mem_erase hn) hx
      omega)
    have := List.length_erase (a := N) (l := l)
    by_cases q : N ∈ l
    · rw [if_pos q] at this; omega
    · rw [if_neg q] at this; omega
theorem rowIds_lt {n : Nat} {r : List Nat} (h : ∀ x ∈ r, x < 2 * n) : ∀ c ∈ rowIds r, c < n := by
  intro c hc
  obtain ⟨x, hx, rfl⟩ := List.mem_map.mp hc
  have := h x hx
  omega
theorem run_le {n : Nat} {r : List Nat} (hd : (rowIds r).Nodup) (h : ∀ x ∈ r, x < 2 * n) : r.length ≤ n := by
  have := nd_le n (rowIds r) hd (rowIds_lt h)
  rw [List.length_map] at this
  exact this
theorem rowIds_at {c : Nat} {r : List Nat} (h : c ∈ rowIds r) : ∃ i, i < r.length ∧ r.getD i 0 / 2 = c := by
  obtain ⟨x, hx, e⟩ := List.mem_map.mp h
  obtain ⟨i, hi, e1⟩ := List.mem_iff_getElem.mp hx
  exact ⟨i, hi, by rw [List.getD_eq_getElem?_getD, List.getElem?_eq_getElem hi]; show r[i] / 2 = c; rw [e1]; exact e⟩
theorem at_rowIds {c i : Nat} {r : List Nat} (hi : i < r.length) (h : r.getD i 0 / 2 = c) : c ∈ rowIds r := List.mem_map.mpr ⟨_, row_get r hi, h⟩
theorem rowTurn_mem {r : List Nat} {x : Nat} : x ∈ rowTurn r ↔ x ^^^ 1 ∈ r := by
  unfold rowTurn
  rw [List.mem_map]
  constructor
  · rintro ⟨y, hy, rfl⟩
    rw [List.mem_reverse] at hy
    show y ^^^ 1 ^^^ 1 ∈ r
    rw [x1_x1]; exact hy
  · intro h
    exact ⟨x ^^^ 1, List.mem_reverse.mpr h, x1_x1 x⟩
theorem two_div {x c : Nat} (h : x / 2 = c) : x = 2 * c ∨ x = 2 * c + 1 := by omega
theorem x1_even (c : Nat) : (2 * c) ^^^ 1 = 2 * c + 1 := by
  have a := x1_div (2 * c)
  have b := x1_mod (2 * c)
  omega
theorem x1_odd (c : Nat) : (2 * c + 1) ^^^ 1 = 2 * c := by
  have a := x1_div (2 * c + 1)
  have b := x1_mod (2 * c + 1)
  omega
theorem x1_ne (x : Nat) : x ^^^ 1 ≠ x := by
  have b := x1_mod x
  intro e; rw [e] at b; omega
/-- the run of car c that shows its end 0 -/
theorem Rns.face {n : Nat} {lk : Nat → Option Nat} (h : Rns n lk) {c : Nat} (hc : c < n) : ∃ r i, Run lk r ∧ (rowIds r).Nodup ∧ (∀ x ∈ r, x < 2 * n) ∧ i < r.length ∧ r.getD i 0 = 2 * c := by
  obtain ⟨r, h1, h2, h3, h4⟩ := h c hc
  obtain ⟨i, hi, e⟩ := rowIds_at h4
  rcases two_div e with e | e
  · exact ⟨r, i, h1, h2, h3, hi, e⟩
  · refine ⟨rowTurn r, r.length - 1 - i, h1.turn, ?_, ?_, by rw [rowTurn_len]; omega, ?_⟩
    · rw [rowIds_turn]; exact (List.reverse_perm _).nodup_iff.mpr h2
    · exact turn_lt h3
    · rw [rowTurn_get r (by omega), show r.length - 1 - (r.length - 1 - i) = i by omega, e, x1_odd]
theorem Run.of {lk : Nat → Option Nat} {r : List Nat} (h : Run lk r) (h24 : r.length ≤ 24) {i : Nat} (hi : i < r.length) : outM lk 24 (r.getD i 0) = r.getD 0 0 ∧ outM lk 24 (r.getD i 0 ^^^ 1) = r.getD (r.length - 1) 0 ^^^ 1 := by
  refine ⟨h.out i 24 (by omega) hi, ?_⟩
  have a := h.turn.out (r.length - 1 - i) 24 (by omega) (by rw [rowTurn_len]; omega)
  rw [rowTurn_get r (by omega), show r.length - 1 - (r.length - 1 - i) = i by omega, rowTurn_get r h.1, show r.length - 1 - 0 = r.length - 1 by omega] at a
  exact a
theorem Rns.acy {n : Nat} {X : Fx} (h : Rns n (xLk X)) (h24 : n ≤ 24) : Acy n X := by
  intro p hp
  obtain ⟨r, i, h1, h2, h3, hi, e⟩ := h.face (c := p / 2) (by omega)
  have hl := run_le h2 h3
  have ho := h1.of (by omega) hi
  rw [e] at ho
  rcases two_div (rfl : p / 2 = p / 2) with q | q
  · rw [q, ho.1]
    exact ⟨h1.2.1, (h1.walk 24 0 (by omega) h1.1).2⟩
  · rw [q, ← x1_even, ho.2]
    have a := h1.turn.walk 24 0 (by rw [rowTurn_len]; omega) (by rw [rowTurn_len]; exact h1.1)
    rw [rowTurn_get r h1.1, show r.length - 1 - 0 = r.length - 1 by omega] at a
    exact ⟨h1.2.2.1, a.2⟩
/-- a car's run, told by the walk from its end 0 -/
theorem Rns.tr {n : Nat} {X : Fx} (h : Rns n (xLk X)) (h24 : n ≤ 24) {c : Nat} (hc : c < n) : Run (xLk X) (trM X c) ∧ (rowIds (trM X c)).Nodup ∧ (∀ x ∈ trM X c, x < 2 * n) ∧ ∃ i, i < (trM X c).length ∧ (trM X c).getD i 0 = 2 * c := by
  obtain ⟨r, i, h1, h2, h3, hi, e⟩ := h.face hc
  have hl := run_le h2 h3
  have ho := h1.of (by omega) hi
  rw [e] at ho
  have : trM X c = r := by
    unfold trM
    rw [ho.1, (h1.walk 24 0 (by omega) h1.1).1]; rfl
  rw [this]
  exact ⟨h1, h2, h3, i, hi, e⟩
/-- two runs with a car in common have the same cars -/
theorem Rns.same {n : Nat} {X : Fx} (h24 : n ≤ 24) {r : List Nat} (h1 : Run (xLk X) r) (h2 : (rowIds r).Nodup) (h3 : ∀ x ∈ r, x < 2 * n) {c : Nat} (hc : c ∈ rowIds r) : ∀ z, z ∈ rowIds r ↔ z ∈ rowIds (trM X c) := by
  obtain ⟨i, hi, e⟩ := rowIds_at hc
  have hl := run_le h2 h3
  intro z
  rcases two_div e with e | e
  · have ho := h1.of (by omega) hi
    rw [e] at ho
    have : trM X c = r := by
      unfold trM
      rw [ho.1, (h1.walk 24 0 (by omega) h1.1).1]; rfl
    rw [this]
  · have ho := h1.of (by omega) hi
    rw [e, x1_odd] at ho
    have : trM X c = rowTurn r := by
      unfold trM
      have a := h1.turn.walk 24 0 (by rw [rowTurn_len]; omega) (by rw [rowTurn_len]; exact h1.1)
      rw [rowTurn_get r h1.1, show r.length - 1 - 0 = r.length - 1 by omega] at a
      rw [ho.2, a.1]; rfl
    rw [this, rowIds_turn, List.mem_reverse]
theorem Rns.cars {n : Nat} {X : Fx} (h : Rns n (xLk X)) (h24 : n ≤ 24) {c : Nat} (hc : c < n) (z : Nat) : z ∈ rowIds (trR X c) ↔ z ∈ rowIds (trM X c) := by
  unfold trR
  by_cases q : (trM X c).length = 1
  · rw [if_pos q]
    obtain ⟨-, -, -, i, hi, e⟩ := h.tr h24 hc
    have : trM X c = [2 * c] := by
      cases ht : trM X c with
      | nil => rw [ht] at q; cases q
      | cons a t =>
        rw [ht] at q e hi
        cases t with
        | nil =>
          have : i = 0 := by simp only [List.length_singleton] at hi; omega
          subst this
          have e1 : a = 2 * c := e
          rw [e1]
        | cons b u => simp only [List.length_cons] at q; omega
    rw [this]
  · rw [if_neg q]
    unfold trN
    split
    · rw [rowIds_turn, List.mem_reverse]
    · exact Iff.rfl
theorem rowNo_0 {x : Nat} {l : List Nat} : rowNo x l 0 = 0 ↔ x ∉ rowIds l := by
  constructor
  · intro h hx
    have : ∀ (l : List Nat) (k : Nat), x ∈ rowIds l → rowNo x l k ≠ 0 := by
      intro l
      induction l with
      | nil => intro k hx; cases hx
      | cons v t ih =>
        intro k hx
        unfold rowNo
        by_cases e : v / 2 = x
        · rw [if_pos e]; omega
        · rw [if_neg e]
          rcases List.mem_cons.mp hx with q | q
          · exact absurd q.symm e
          · exact ih (k + 1) q
    exact this l 0 hx h
  · intro h
    exact rowNo_no (fun v hv e => h (List.mem_map.mpr ⟨v, hv, e⟩))
