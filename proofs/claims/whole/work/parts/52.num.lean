/-! Couplings' numbers -/
def NumR (n : Nat) (X : Fx) : Prop := (∀ p q, p < 2 * n → xLk X p = some q → q ≠ p) ∧ (∀ k, k < 24 → xUs X k = 1 → ∃ p q, p < 2 * n ∧ xLk X p = some q ∧ xNu X p = k) ∧
  (∀ p p' q q', p < 2 * n → p' < 2 * n → xLk X p = some q → xLk X p' = some q' → xNu X p = xNu X p' → p' = p ∨ p' = q)
theorem num_list {n : Nat} {X : Fx} (hX : WfX n X) (hN : NumR n X) (ha : ∀ k, k < 24 → xUs X k = 1) : ∀ m, m ≤ 24 → ∃ l : List Nat, l.length = 2 * m ∧ l.Nodup ∧ ∀ x ∈ l, x < 2 * n ∧ (∃ q, xLk X x = some q) ∧ xNu X x < m
  | 0, _ => ⟨[], rfl, List.nodup_nil, fun x hx => by cases hx⟩
  | m + 1, hm => by
    obtain ⟨l, h1, h2, h3⟩ := num_list hX hN ha m (by omega)
    obtain ⟨p, q, hp, hl, hk⟩ := hN.2.1 m (by omega) (ha m (by omega))
    obtain ⟨w1, w2, w3, w4, w5⟩ := hX.2.2.2.2.1 p q hp hl
    have ne := hN.1 p q hp hl
    have np : p ∉ l := fun e => by have := (h3 p e).2.2; omega
    have nq : q ∉ l := fun e => by have := (h3 q e).2.2; omega
    refine ⟨p :: q :: l, by simp only [List.length_cons]; omega, ?_, ?_⟩
    · refine List.nodup_cons.mpr ⟨fun e => ?_, List.nodup_cons.mpr ⟨nq, h2⟩⟩
      rcases List.mem_cons.mp e with e | e
      · exact ne e.symm
      · exact np e
    · intro x hx
      rcases List.mem_cons.mp hx with e | hx
      · subst e; exact ⟨hp, ⟨q, hl⟩, by omega⟩
      · rcases List.mem_cons.mp hx with e | hx
        · subst e; exact ⟨w1, ⟨p, w2⟩, by omega⟩
        · have := h3 x hx
          exact ⟨this.1, this.2.1, by omega⟩
theorem NumR.free {n : Nat} {X : Fx} (hN : NumR n X) (hX : WfX n X) {p : Nat} (hp : p < 2 * n) (hl : xLk X p = none) : ∃ r, r < 24 ∧ xUs X r = 0 ∧ ∀ k, k < r → xUs X k = 1 := by
  have ex : ∃ r, r < 24 ∧ xUs X r = 0 := by
    apply Classical.byContradiction
    intro hno
    have ha : ∀ k, k < 24 → xUs X k = 1 := by
      intro k hk
      have := hX.2.2.2.2.2 k
      have : xUs X k ≠ 0 := fun e => hno ⟨k, hk, e⟩
      omega
    obtain ⟨l, h1, h2, h3⟩ := num_list hX hN ha 24 (Nat.le_refl _)
    have np : p ∉ l := fun e => by obtain ⟨q, hq⟩ := (h3 p e).2.1; rw [hl] at hq; cases hq
    have := nd_le (2 * n) (p :: l) (List.nodup_cons.mpr ⟨np, h2⟩) (fun x hx => by
      rcases List.mem_cons.mp hx with e | hx
      · subst e; exact hp
      · exact (h3 x hx).1)
    simp only [List.length_cons] at this
    have h24 := hX.1
    omega
  have find : ∀ m, m ≤ 24 → (∃ r, r < m ∧ xUs X r = 0 ∧ ∀ k, k < r → xUs X k = 1) ∨ ∀ k, k < m → xUs X k = 1 := by
    intro m
    induction m with
    | zero => intro _; exact Or.inr (fun k hk => by omega)
    | succ m ih =>
      intro hm
      rcases ih (by omega) with ⟨r, h1, h2, h3⟩ | h
      · exact Or.inl ⟨r, by omega, h2, h3⟩
      · by_cases e : xUs X m = 0
        · exact Or.inl ⟨m, by omega, e, h⟩
        · refine Or.inr (fun k hk => ?_)
          by_cases q : k = m
          · subst q; have := hX.2.2.2.2.2 k; omega
          · exact h k (by omega)
  rcases find 24 (Nat.le_refl _) with ⟨r, h1, h2, h3⟩ | h
  · exact ⟨r, h1, h2, h3⟩
  · obtain ⟨r, h1, h2⟩ := ex
    have := h r h1
    omega
/-- the fixed part with a car more -/
def addX (n : Nat) (X : Fx) (id mask : Nat) : Fx := (up1 (xId X) n id, up1 (xMk X) n mask, up1 (up1 (xLk X) (2 * n) none) (2 * n + 1) none, xNu X, xUs X)
theorem addX_lk {n : Nat} {X : Fx} {id mask p : Nat} (hp : p < 2 * n) : xLk (addX n X id mask) p = xLk X p := by
  show up1 (up1 (xLk X) (2 * n) none) (2 * n + 1) none p = _
  rw [up1_n (by omega), up1_n (by omega)]
theorem addX_new {n : Nat} {X : Fx} {id mask p : Nat} (hp : p < 2 * (n + 1)) (h : ¬ p < 2 * n) : xLk (addX n X id mask) p = none := by
  show up1 (up1 (xLk X) (2 * n) none) (2 * n + 1) none p = _
  by_cases e : p = 2 * n + 1
  · subst e; exact up1_s
  · rw [up1_n e, show p = 2 * n by omega]; exact up1_s
theorem WfX.add {n : Nat} {X : Fx} (h : WfX n X) {id mask : Nat} (h24 : n < 24) (h1 : 1 ≤ id) (h2 : id ≤ 255) (h3 : mask ≤ 65535) (hno : ∀ c, c < n → xId X c ≠ id) : WfX (n + 1) (addX n X id mask) := by
  obtain ⟨w1, w2, w3, w4, w5, w6⟩ := h
  have iD : ∀ c, xId (addX n X id mask) c = if c = n then id else xId X c := fun c => rfl
  refine ⟨by omega, ?_, ?_, ?_, ?_, w6⟩
  · intro c hc
    rw [iD]
    split
    · exact ⟨h1, h2⟩
    · exact w2 c (by omega)
  · intro c e hc he
    rw [iD, iD]
    split <;> split
    · intro _; omega
    · intro q; exact absurd q.symm (hno e (by omega))
    · intro q; exact absurd q (hno c (by omega))
    · exact w3 c e (by omega) (by omega)
  · intro c hc
    show up1 (xMk X) n mask c ≤ _
    by_cases e : c = n
    · subst e; rw [up1_s]; exact h3
    · rw [up1_n e]; exact w4 c (by omega)
  · intro p q hp hl
    by_cases e : p < 2 * n
    · rw [addX_lk e] at hl
      obtain ⟨a1, a2, a3, a4, a5⟩ := w5 p q e hl
      refine ⟨by omega, by rw [addX_lk a1]; exact a2, a3, a4, a5⟩
    · rw [addX_new hp e] at hl; cases hl
theorem NumR.add {n : Nat} {X : Fx} (h : NumR n X) {id mask : Nat} : NumR (n + 1) (addX n X id mask) := by
  obtain ⟨h1, h2, h3⟩ := h
  have lo : ∀ p q, p < 2 * (n + 1) → xLk (addX n X id mask) p = some q → p < 2 * n ∧ xLk X p = some q := by
    intro p q hp hl
    by_cases e : p < 2 * n
    · rw [addX_lk e] at hl; exact ⟨e, hl⟩
    · rw [addX_new hp e] at hl; cases hl
  refine ⟨?_, ?_, ?_⟩
  · intro p q hp hl
    have a := lo p q hp hl
    exact h1 p q a.1 a.2
  · intro k hk hu
    obtain ⟨p, q, a1, a2, a3⟩ := h2 k hk hu
    exact ⟨p, q, by omega, by rw [addX_lk a1]; exact a2, a3⟩
  · intro p p' q q' hp hp' hl hl' hn
    have a := lo p q hp hl
    have b := lo p' q' hp' hl'
    exact h3 p p' q q' a.1 b.1 a.2 b.2 hn
theorem couX_lk {X : Fx} {p q r x y : Nat} (hne : p ≠ q) (h : xLk (couX X p q r) x = some y) : (x = p ∧ y = q) ∨ (x = q ∧ y = p) ∨ (x ≠ p ∧ x ≠ q ∧ xLk X x = some y) := by
  by_cases e1 : x = q
  · subst e1
    have : xLk (couX X p x r) x = some p := up1_s
    rw [this] at h; cases h
    exact Or.inr (Or.inl ⟨rfl, rfl⟩)
  · by_cases e2 : x = p
    · subst e2
      have : xLk (couX X x q r) x = some q := by show up1 _ q _ x = _; rw [up1_n e1]; exact up1_s
      rw [this] at h; cases h
      exact Or.inl ⟨rfl, rfl⟩
    · have : xLk (couX X p q r) x = xLk X x := by show up1 _ q _ x = _; rw [up1_n e1, up1_n e2]
      rw [this] at h
      exact Or.inr (Or.inr ⟨e2, e1, h⟩)
theorem couX_p {X : Fx} {p q r : Nat} (hne : p ≠ q) : xLk (couX X p q r) p = some q ∧ xLk (couX X p q r) q = some p ∧ xNu (couX X p q r) p = r ∧ xNu (couX X p q r) q = r := by
  refine ⟨?_, up1_s, ?_, up1_s⟩
  · show up1 _ q _ p = _; rw [up1_n hne]; exact up1_s
  · show up1 _ q _ p = _; rw [up1_n hne]; exact up1_s
theorem couX_o {X : Fx} {p q r x : Nat} (h1 : x ≠ p) (h2 : x ≠ q) : xLk (couX X p q r) x = xLk X x ∧ xNu (couX X p q r) x = xNu X x := by
  refine ⟨?_, ?_⟩
  · show up1 _ q _ x = _; rw [up1_n h2, up1_n h1]
  · show up1 _ q _ x = _; rw [up1_n h2, up1_n h1]
theorem WfX.cou {n : Nat} {X : Fx} (h : WfX n X) {p q r : Nat} (hp : p < 2 * n) (hq : q < 2 * n) (hne : p ≠ q) (h0 : xLk X p = none) (h1 : xLk X q = none) (hr : r < 24) : WfX n (couX X p q r) := by
  obtain ⟨w1, w2, w3, w4, w5, w6⟩ := h
  have P := couX_p (X := X) (r := r) hne
  have us : ∀ k, xUs (couX X p q r) k = if k = r then 1 else xUs X k := fun k => rfl
  refine ⟨w1, w2, w3, w4, ?_, ?_⟩
  · intro x y hx hl
    rcases couX_lk hne hl with ⟨rfl, rfl⟩ | ⟨rfl, rfl⟩ | ⟨e1, e2, e3⟩
    · exact ⟨hq, P.2.1, by rw [P.2.2.2, P.2.2.1], by rw [P.2.2.1]; exact hr, by rw [P.2.2.1, us, if_pos rfl]⟩
    · exact ⟨hp, P.1, by rw [P.2.2.2, P.2.2.1], by rw [P.2.2.2]; exact hr, by rw [P.2.2.2, us, if_pos rfl]⟩
    · obtain ⟨a1, a2, a3, a4, a5⟩ := w5 x y hx e3
      have n1 : y ≠ p := fun e => by rw [e, h0] at a2; cases a2
      have n2 : y ≠ q := fun e => by rw [e, h1] at a2; cases a2
      have o1 := couX_o (X := X) (r := r) n1 n2
      have o2 := couX_o (X := X) (r := r) e1 e2
      refine ⟨a1, by rw [o1.1]; exact a2, by rw [o1.2, o2.2]; exact a3, by rw [o2.2]; exact a4, ?_⟩
      rw [o2.2, us]
      split
      · rfl
      · exact a5
  · intro k
    rw [us]
    split
    · omega
    · exact w6 k
theorem NumR.cou {n : Nat} {X : Fx} (h : NumR n X) (hX : WfX n X) {p q r : Nat} (hp : p < 2 * n) (hne : p ≠ q) (h0 : xLk X p = none) (h1 : xLk X q = none) (hu : xUs X r = 0) : NumR n (couX X p q r) := by
  obtain ⟨a1, a2, a3⟩ := h
  have P := couX_p (X := X) (r := r) hne
  have us : ∀ k, xUs (couX X p q r) k = if k = r then 1 else xUs X k := fun k => rfl
  have nr : ∀ x y, x < 2 * n → xLk X x = some y → xNu X x ≠ r := by
    intro x y hx hl e
    have := (hX.2.2.2.2.1 x y hx hl).2.2.2.2
    rw [e, hu] at this; omega
  refine ⟨?_, ?_, ?_⟩
  · intro x y hx hl
    rcases couX_lk hne hl with ⟨rfl, rfl⟩ | ⟨rfl, rfl⟩ | ⟨e1, e2, e3⟩
    · exact Ne.symm hne
    · exact hne
    · exact a1 x y hx e3
  · intro k hk hu2
    by_cases e : k = r
    · subst e; exact ⟨p, q, hp, P.1, P.2.2.1⟩
    · rw [us, if_neg e] at hu2
      obtain ⟨x, y, b1, b2, b3⟩ := a2 k hk hu2
      have n1 : x ≠ p := fun e => by rw [e, h0] at b2; cases b2
      have n2 : x ≠ q := fun e => by rw [e, h1] at b2; cases b2
      have o := couX_o (X := X) (r := r) n1 n2
      exact ⟨x, y, b1, by rw [o.1]; exact b2, by rw [o.2]; exact b3⟩
  · intro x x' y y' hx hx' hl hl' hn
    rcases couX_lk hne hl with ⟨rfl, rfl⟩ | ⟨rfl, rfl⟩ | ⟨e1, e2, e3⟩ <;> rcases couX_lk hne hl' with ⟨rfl, rfl⟩ | ⟨rfl, rfl⟩ | ⟨f1, f2, f3⟩
    · exact Or.inl rfl
    · exact Or.inr rfl
    · rw [P.2.2.1, (couX_o (X := X) (r := r) f1 f2).2] at hn
      exact absurd hn.symm (nr _ _ hx' f3)
    · exact Or.inr rfl
    · exact Or.inl rfl
    · rw [P.2.2.2, (couX_o (X := X) (r := r) f1 f2).2] at hn
      exact absurd hn.symm (nr _ _ hx' f3)
    · rw [P.2.2.1, (couX_o (X := X) (r := r) e1 e2).2] at hn
      exact absurd hn (nr _ _ hx e3)
    · rw [P.2.2.2, (couX_o (X := X) (r := r) e1 e2).2] at hn
      exact absurd hn (nr _ _ hx e3)
    · rw [(couX_o (X := X) (r := r) e1 e2).2, (couX_o (X := X) (r := r) f1 f2).2] at hn
      exact a3 x x' y y' hx hx' e3 f3 hn
theorem uncX_lk {X : Fx} {p q x y : Nat} (h : xLk (uncX X p q) x = some y) : x ≠ p ∧ x ≠ q ∧ xLk X x = some y := by
  by_cases e1 : x = p
  · subst e1
    have : xLk (uncX X x q) x = none := up1_s
    rw [this] at h; cases h
  · by_cases e2 : x = q
    · subst e2
      have : xLk (uncX X p x) x = none := by show up1 _ p _ x = _; rw [up1_n e1]; exact up1_s
      rw [this] at h; cases h
    · have : xLk (uncX X p q) x = xLk X x := by show up1 _ p _ x = _; rw [up1_n e1, up1_n e2]
      rw [this] at h
      exact ⟨e1, e2, h⟩
theorem uncX_o {X : Fx} {p q x : Nat} (h1 : x ≠ p) (h2 : x ≠ q) : xLk (uncX X p q) x = xLk X x := by
  show up1 _ p _ x = _; rw [up1_n h1, up1_n h2]
theorem WfX.unc {n : Nat} {X : Fx} (h : WfX n X) (hN : NumR n X) {p q : Nat} (hp : p < 2 * n) (hl0 : xLk X p = some q) : WfX n (uncX X p q) := by
  have hw := h
  obtain ⟨w1, w2, w3, w4, w5, w6⟩ := h
  have us : ∀ k, xUs (uncX X p q) k = if k = xNu X p then 0 else xUs X k := fun k => rfl
  refine ⟨w1, w2, w3, w4, ?_, ?_⟩
  · intro x y hx hl
    obtain ⟨e1, e2, e3⟩ := uncX_lk hl
    obtain ⟨a1, a2, a3, a4, a5⟩ := w5 x y hx e3
    obtain ⟨b1, b2, b3, b4, b5⟩ := w5 p q hp hl0
    have n1 : y ≠ p := fun e => by rw [e, hl0] at a2; cases a2; exact e2 rfl
    have n2 : y ≠ q := fun e => by rw [e, b2] at a2; cases a2; exact e1 rfl
    refine ⟨a1, by rw [uncX_o n1 n2]; exact a2, a3, a4, ?_⟩
    show xUs (uncX X p q) (xNu X x) = 1
    rw [us, if_neg, a5]
    intro e
    rcases hN.2.2 p x q y hp hx hl0 e3 e.symm with e | e
    · exact e1 e
    · exact e2 e
  · intro k
    rw [us]
    split
    · omega
    · exact w6 k
theorem NumR.unc {n : Nat} {X : Fx} (h : NumR n X) (hX : WfX n X) {p q : Nat} (hp : p < 2 * n) (hl0 : xLk X p = some q) : NumR n (uncX X p q) := by
  obtain ⟨a1, a2, a3⟩ := h
  have us : ∀ k, xUs (uncX X p q) k = if k = xNu X p then 0 else xUs X k := fun k => rfl
  obtain ⟨b1, b2, b3, b4, b5⟩ := hX.2.2.2.2.1 p q hp hl0
  refine ⟨?_, ?_, ?_⟩
  · intro x y hx hl
    obtain ⟨e1, e2, e3⟩ := uncX_lk hl
    exact a1 x y hx e3
  · intro k hk hu2
    rw [us] at hu2
    by_cases e : k = xNu X p
    · rw [if_pos e] at hu2; omega
    · rw [if_neg e] at hu2
      obtain ⟨x, y, c1, c2, c3⟩ := a2 k hk hu2
      have n1 : x ≠ p := fun f => by rw [f] at c3; exact e c3.symm
      have n2 : x ≠ q := fun f => by rw [f, b3] at c3; exact e c3.symm
      exact ⟨x, y, c1, by rw [uncX_o n1 n2]; exact c2, c3⟩
  · intro x x' y y' hx hx' hl hl' hn
    obtain ⟨e1, e2, e3⟩ := uncX_lk hl
    obtain ⟨f1, f2, f3⟩ := uncX_lk hl'
    exact a3 x x' y y' hx hx' e3 f3 hn
