/-! The reference's arrays: forgetting, putting, a car more -/
theorem mFor_k {c j : Nat} {A : Nat → Nat → Int32} (h : j ≠ 6 ∧ j ≠ 7 ∧ j ≠ 8 ∧ j ≠ 12 ∧ j ≠ 13 ∧ j ≠ 10 ∧ j ≠ 15 ∧ j ≠ 16) : mFor c A j = A j := by
  unfold mFor mfE
  rw [up1_n h.2.2.2.2.2.2.2, up1_n h.2.2.2.2.2.2.1, up1_n h.2.2.2.2.2.1, up1_n h.2.2.2.2.1, up1_n h.2.2.2.1, up1_n h.2.2.1, up1_n h.2.1, up1_n h.1, up1_n h.2.2.2.1, up1_n h.2.2.1, up1_n h.2.1, up1_n h.1]
theorem mFor_6 {c : Nat} {A : Nat → Nat → Int32} : mFor c A 6 = upd (upd (A 6) (2 * c + 0) (nI 0)) (2 * c + 1) (nI 0) := rfl
theorem mFor_7 {c : Nat} {A : Nat → Nat → Int32} : mFor c A 7 = upd (upd (A 7) (2 * c + 0) (nI 0)) (2 * c + 1) (nI 0) := rfl
theorem mFor_8 {c : Nat} {A : Nat → Nat → Int32} : mFor c A 8 = upd (upd (A 8) (2 * c + 0) (nI 0)) (2 * c + 1) (nI 0) := rfl
theorem mFor_12 {c : Nat} {A : Nat → Nat → Int32} : mFor c A 12 = upd (upd (A 12) (2 * c + 0) (-1)) (2 * c + 1) (-1) := rfl
theorem mFor_13 {c : Nat} {A : Nat → Nat → Int32} : mFor c A 13 = agF c 24 (A 13) := rfl
theorem mFor_10 {c : Nat} {A : Nat → Nat → Int32} : mFor c A 10 = upd (A 10) c (nI 0) := rfl
theorem mFor_15 {c : Nat} {A : Nat → Nat → Int32} : mFor c A 15 = upd (A 15) c (nI 0) := rfl
theorem mFor_16 {c : Nat} {A : Nat → Nat → Int32} : mFor c A 16 = upd (A 16) c (nI 0) := rfl
theorem upd11 {f : Nat → Int32} {c p : Nat} {v : Int32} : upd (upd f (2 * c + 0) v) (2 * c + 1) v p = if p / 2 = c then v else f p := by
  unfold upd
  by_cases q : p / 2 = c
  · rw [if_pos q]
    rcases two_div q with e | e
    · rw [if_neg (by omega), if_pos (by omega)]
    · rw [if_pos e]
  · rw [if_neg q, if_neg (by omega), if_neg (by omega)]
theorem ModR.forG {m c : Nat} {X : Fx} {D : Dy} {A : Nat → Nat → Int32}
    (h0 : ∀ k, k < m → A 0 k = nI (xId X k)) (h1 : ∀ k, k < m → A 1 k = nI (xMk X k)) (h2 : ∀ p, p < 2 * m → A 2 p = oI (xLk X p)) (h3 : ∀ p, p < 2 * m → ∀ q, xLk X p = some q → A 3 p = nI (xNu X p)) (h4 : ∀ k, k < 32 → A 4 k = nI (xUs X k))
    (h5 : ∀ p, p < 2 * m → p / 2 ≠ c → LisR (A 5) (A 6) p (dVw D p)) (h7 : ∀ p, p < 2 * m → p / 2 ≠ c → A 7 p = nI (dWh D p)) (h8 : ∀ p, p < 2 * m → p / 2 ≠ c → A 8 p = nI (dSi D p)) (h9 : ∀ k, k < m → k ≠ c → LisR (A 9) (A 10) k (dDi D k)) (h11 : ∀ p, p < 2 * m → p / 2 ≠ c → TolR (A 11) (A 12) p (dTo D p))
    (h13 : ∀ a k, a < m → a ≠ c → k < 24 → A 13 (24 * a + k) = dAg D a k) (h14 : ∀ a k i, a < m → k < 24 → i < 4 → A 14 (4 * (24 * a + k) + i) = dBy D a k i) (h15 : ∀ k, k < m → k ≠ c → A 15 k = dCr D k) (h16 : ∀ k, k < m → k ≠ c → A 16 k = dCh D k) : ModR m X (forD c D) (mFor c A) := by
  refine ⟨?_, ?_, ?_, ?_, ?_, ?_, ?_, ?_, ?_, ?_, ?_, ?_, ?_, ?_⟩
  · rw [mFor_k (by omega)]; exact h0
  · rw [mFor_k (by omega)]; exact h1
  · rw [mFor_k (by omega)]; exact h2
  · rw [mFor_k (by omega)]; exact h3
  · rw [mFor_k (by omega)]; exact h4
  · intro p hp
    rw [mFor_k (j := 5) (by omega), mFor_6]
    unfold LisR
    rw [upd11]
    by_cases q : p / 2 = c
    · rw [(forD_e (D := D) q).1, if_pos q]; exact ⟨rfl, fun k hk => by cases hk⟩
    · rw [(forD_o (D := D) q).1, if_neg q]; exact h5 p hp q
  · intro p hp
    rw [mFor_7, upd11]
    by_cases q : p / 2 = c
    · rw [(forD_e (D := D) q).2.1, if_pos q]
    · rw [(forD_o (D := D) q).2.1, if_neg q]; exact h7 p hp q
  · intro p hp
    rw [mFor_8, upd11]
    by_cases q : p / 2 = c
    · rw [(forD_e (D := D) q).2.2.1, if_pos q]
    · rw [(forD_o (D := D) q).2.2.1, if_neg q]; exact h8 p hp q
  · intro k hk
    rw [mFor_k (j := 9) (by omega), mFor_10]
    unfold LisR
    by_cases q : k = c
    · subst q
      have e : dDi (forD k D) k = [] := up1_s
      rw [e, upd_s]; exact ⟨rfl, fun k hk => by cases hk⟩
    · have e : dDi (forD c D) k = dDi D k := up1_n q
      rw [e, upd_n q]; exact h9 k hk q
  · intro p hp
    rw [mFor_k (j := 11) (by omega), mFor_12]
    unfold TolR
    rw [upd11]
    by_cases q : p / 2 = c
    · rw [(forD_e (D := D) q).2.2.2, if_pos q]; exact ⟨rfl, fun l hl => by cases hl⟩
    · rw [(forD_o (D := D) q).2.2.2, if_neg q]; exact h11 p hp q
  · intro a k ha hk
    rw [mFor_13]
    unfold agF
    by_cases q : a = c
    · subst q
      have e : dAg (forD a D) a = fun j => if j = a then nI 0 else -1 := up1_s
      rw [e, if_pos (by omega)]
      by_cases z : k = a
      · subst z; rw [if_pos rfl]; exact (if_pos rfl).symm
      · rw [if_neg (by omega)]; exact (if_neg z).symm
    · have e : dAg (forD c D) a = dAg D a := up1_n q
      rw [e, if_neg (by omega)]; exact h13 a k ha q hk
  · rw [mFor_k (by omega)]; exact h14
  · intro k hk
    rw [mFor_15]
    by_cases q : k = c
    · subst q; rw [upd_s]; exact up1_s.symm
    · rw [upd_n q]; exact (h15 k hk q).trans (up1_n q).symm
  · intro k hk
    rw [mFor_16]
    by_cases q : k = c
    · subst q; rw [upd_s]; exact up1_s.symm
    · rw [upd_n q]; exact (h16 k hk q).trans (up1_n q).symm
theorem ModR.for {n c : Nat} {X : Fx} {D : Dy} {A : Nat → Nat → Int32} (h : ModR n X D A) : ModR n X (forD c D) (mFor c A) :=
  ModR.forG h.ids h.mks h.lks h.nus h.uss (fun p hp _ => h.vws p hp) (fun p hp _ => h.whs p hp) (fun p hp _ => h.sis p hp) (fun k hk _ => h.dis k hk) (fun p hp _ => h.tos p hp) (fun a k ha _ hk => h.ags a k ha hk) h.bys (fun k hk _ => h.crs k hk) (fun k hk _ => h.chs k hk)
theorem Bz.for {c : Nat} {A : Nat → Nat → Int32} (h : Bz A) : Bz (mFor c A) := by
  intro i hi
  rw [mFor_7, upd11]
  split
  · exact Or.inl rfl
  · exact h i hi
theorem ModR.put {n c i : Nat} {X : Fx} {D : Dy} {A : Nat → Nat → Int32} {v : Int32} (h : ModR n X D A) (h24 : n ≤ 24) (hc : c < n) (hi : i < 4) : ModR n X (putD D c i v) (up1 A 14 (upd (A 14) (100 * c + i) v)) := by
  refine ⟨h.ids, h.mks, h.lks, h.nus, h.uss, h.vws, h.whs, h.sis, h.dis, h.tos, h.ags, ?_, h.crs, h.chs⟩
  intro a k j ha hk hj
  rw [up1_s]
  show upd _ _ _ _ = if a = c ∧ k = c ∧ j = i then v else dBy D a k j
  by_cases q : a = c ∧ k = c ∧ j = i
  · rw [if_pos q, q.1, q.2.1, q.2.2, show 4 * (24 * c + c) + i = 100 * c + i by omega, upd_s]
  · rw [if_neg q, upd_n (by omega)]; exact h.bys a k j ha hk hj
/-- the arrays that add writes before it forgets -/
def byZ (n k : Nat) (f : Nat → Int32) : Nat → Int32 := fun i => if 96 * n ≤ i ∧ i < 96 * n + k then nI 0 else f i
def adA (n id mask : Nat) (A : Nat → Nat → Int32) : Nat → Nat → Int32 := up1 (up1 (up1 (up1 A 0 (upd (A 0) n (nI id))) 1 (upd (A 1) n (nI mask))) 2 (upd (upd (A 2) (2 * n) (-1)) (2 * n + 1) (-1))) 14 (byZ n 96 (A 14))
theorem byZ_0 (n : Nat) (f : Nat → Int32) : byZ n 0 f = f := by funext i; unfold byZ; rw [if_neg (by omega)]
theorem byZ_s (n k : Nat) (f : Nat → Int32) : upd (byZ n k f) (96 * n + k) (nI 0) = byZ n (k + 1) f := by
  funext i
  by_cases h : i = 96 * n + k
  · subst h; rw [upd_s]; unfold byZ; rw [if_pos (by omega)]
  · rw [upd_n h]
    unfold byZ
    by_cases q : 96 * n ≤ i ∧ i < 96 * n + k
    · rw [if_pos q, if_pos (by omega)]
    · rw [if_neg q, if_neg (by omega)]
theorem ModR.add {n id mask : Nat} {X : Fx} {D : Dy} {A : Nat → Nat → Int32} (h : ModR n X D A) : ModR (n + 1) (addX n X id mask) (newD n D) (mFor n (adA n id mask A)) := by
  have a0 : adA n id mask A 0 = upd (A 0) n (nI id) := rfl
  have a1 : adA n id mask A 1 = upd (A 1) n (nI mask) := rfl
  have a2 : adA n id mask A 2 = upd (upd (A 2) (2 * n) (-1)) (2 * n + 1) (-1) := rfl
  have a14 : adA n id mask A 14 = byZ n 96 (A 14) := rfl
  refine ModR.forG (m := n + 1) (c := n) (X := addX n X id mask) (D := (dVw D, dWh D, dSi D, dTo D, dDi D, dAg D, up1 (dBy D) n (fun _ _ => nI 0), dCr D, dCh D)) (A := adA n id mask A) ?_ ?_ ?_ ?_ ?_ ?_ ?_ ?_ ?_ ?_ ?_ ?_ ?_ ?_
  · intro k hk
    rw [a0]
    show _ = nI (up1 (xId X) n id k)
    by_cases q : k = n
    · subst q; rw [upd_s, up1_s]
    · rw [upd_n q, up1_n q]; exact h.ids k (by omega)
  · intro k hk
    rw [a1]
    show _ = nI (up1 (xMk X) n mask k)
    by_cases q : k = n
    · subst q; rw [upd_s, up1_s]
    · rw [upd_n q, up1_n q]; exact h.mks k (by omega)
  · intro p hp
    rw [a2]
    by_cases q : p < 2 * n
    · rw [addX_lk q, upd_n (by omega), upd_n (by omega)]; exact h.lks p q
    · rw [addX_new hp q]
      by_cases e : p = 2 * n + 1
      · subst e; rw [upd_s]; rfl
      · rw [upd_n e, show p = 2 * n by omega, upd_s]; rfl
  · intro p hp q hl
    by_cases e : p < 2 * n
    · rw [addX_lk e] at hl; exact h.nus p e q hl
    · rw [addX_new hp e] at hl; cases hl
  · exact h.uss
  · intro p hp hn; exact h.vws p (by omega)
  · intro p hp hn; exact h.whs p (by omega)
  · intro p hp hn; exact h.sis p (by omega)
  · intro k hk hn; exact h.dis k (by omega)
  · intro p hp hn; exact h.tos p (by omega)
  · intro a k ha hn hk; exact h.ags a k (by omega) hk
  · intro a k i ha hk hi
    rw [a14]
    show byZ n 96 (A 14) _ = up1 (dBy D) n (fun _ _ => nI 0) a k i
    unfold byZ
    by_cases q : a = n
    · subst q; rw [if_pos (by omega), up1_s]
    · rw [if_neg (by omega), up1_n q]; exact h.bys a k i (by omega) hk hi
  · intro k hk hn; exact h.crs k (by omega)
  · intro k hk hn; exact h.chs k (by omega)
theorem Bz.ad {n id mask : Nat} {A : Nat → Nat → Int32} (h : Bz A) : Bz (adA n id mask A) := h
