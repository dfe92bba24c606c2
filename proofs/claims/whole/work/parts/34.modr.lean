/-! What both sides mean: cars by number, ends 2 * car + end -/
abbrev Dy : Type := (Nat → List Nat) × (Nat → Nat) × (Nat → Nat) × (Nat → Option (List Nat)) × (Nat → List Nat) × (Nat → Nat → Int32) × (Nat → Nat → Nat → Int32) × (Nat → Int32) × (Nat → Int32)
abbrev dVw (D : Dy) : Nat → List Nat := D.1
abbrev dWh (D : Dy) : Nat → Nat := D.2.1
abbrev dSi (D : Dy) : Nat → Nat := D.2.2.1
abbrev dTo (D : Dy) : Nat → Option (List Nat) := D.2.2.2.1
abbrev dDi (D : Dy) : Nat → List Nat := D.2.2.2.2.1
abbrev dAg (D : Dy) : Nat → Nat → Int32 := D.2.2.2.2.2.1
abbrev dBy (D : Dy) : Nat → Nat → Nat → Int32 := D.2.2.2.2.2.2.1
abbrev dCr (D : Dy) : Nat → Int32 := D.2.2.2.2.2.2.2.1
abbrev dCh (D : Dy) : Nat → Int32 := D.2.2.2.2.2.2.2.2
/-- the fixed part: ids, masks, links, their numbers, numbers in use -/
abbrev Fx : Type := (Nat → Nat) × (Nat → Nat) × (Nat → Option Nat) × (Nat → Nat) × (Nat → Nat)
abbrev xId (X : Fx) : Nat → Nat := X.1
abbrev xMk (X : Fx) : Nat → Nat := X.2.1
abbrev xLk (X : Fx) : Nat → Option Nat := X.2.2.1
abbrev xNu (X : Fx) : Nat → Nat := X.2.2.2.1
abbrev xUs (X : Fx) : Nat → Nat := X.2.2.2.2
/-- a list in an array, 24 places each -/
def LisR (a al : Nat → Int32) (x : Nat) (l : List Nat) : Prop := al x = nI l.length ∧ ∀ k, k < l.length → a (24 * x + k) = nI (l.getD k 0)
def tolI (t : Option (List Nat)) : Int32 := match t with
  | none => -1
  | some l => nI l.length
def TolR (a al : Nat → Int32) (x : Nat) (t : Option (List Nat)) : Prop := al x = tolI t ∧ ∀ l, t = some l → ∀ k, k < l.length → a (24 * x + k) = nI (l.getD k 0)
def ModR (n : Nat) (X : Fx) (D : Dy) (A : Nat → Nat → Int32) : Prop :=
  (∀ c, c < n → A 0 c = nI (xId X c)) ∧
  (∀ c, c < n → A 1 c = nI (xMk X c)) ∧
  (∀ p, p < 2 * n → A 2 p = oI (xLk X p)) ∧
  (∀ p, p < 2 * n → ∀ q, xLk X p = some q → A 3 p = nI (xNu X p)) ∧
  (∀ k, k < 32 → A 4 k = nI (xUs X k)) ∧
  (∀ p, p < 2 * n → LisR (A 5) (A 6) p (dVw D p)) ∧
  (∀ p, p < 2 * n → A 7 p = nI (dWh D p)) ∧
  (∀ p, p < 2 * n → A 8 p = nI (dSi D p)) ∧
  (∀ c, c < n → LisR (A 9) (A 10) c (dDi D c)) ∧
  (∀ p, p < 2 * n → TolR (A 11) (A 12) p (dTo D p)) ∧
  (∀ c k, c < n → k < 24 → A 13 (24 * c + k) = dAg D c k) ∧
  (∀ c k i, c < n → k < 24 → i < 4 → A 14 (4 * (24 * c + k) + i) = dBy D c k i) ∧
  (∀ c, c < n → A 15 c = dCr D c) ∧
  (∀ c, c < n → A 16 c = dCh D c)
theorem ModR.ids {n : Nat} {X : Fx} {D : Dy} {A : Nat → Nat → Int32} (h : ModR n X D A) : ∀ c, c < n → A 0 c = nI (xId X c) := h.1
theorem ModR.mks {n : Nat} {X : Fx} {D : Dy} {A : Nat → Nat → Int32} (h : ModR n X D A) : ∀ c, c < n → A 1 c = nI (xMk X c) := h.2.1
theorem ModR.lks {n : Nat} {X : Fx} {D : Dy} {A : Nat → Nat → Int32} (h : ModR n X D A) : ∀ p, p < 2 * n → A 2 p = oI (xLk X p) := h.2.2.1
theorem ModR.nus {n : Nat} {X : Fx} {D : Dy} {A : Nat → Nat → Int32} (h : ModR n X D A) : ∀ p, p < 2 * n → ∀ q, xLk X p = some q → A 3 p = nI (xNu X p) := h.2.2.2.1
theorem ModR.uss {n : Nat} {X : Fx} {D : Dy} {A : Nat → Nat → Int32} (h : ModR n X D A) : ∀ k, k < 32 → A 4 k = nI (xUs X k) := h.2.2.2.2.1
theorem ModR.vws {n : Nat} {X : Fx} {D : Dy} {A : Nat → Nat → Int32} (h : ModR n X D A) : ∀ p, p < 2 * n → LisR (A 5) (A 6) p (dVw D p) := h.2.2.2.2.2.1
theorem ModR.whs {n : Nat} {X : Fx} {D : Dy} {A : Nat → Nat → Int32} (h : ModR n X D A) : ∀ p, p < 2 * n → A 7 p = nI (dWh D p) := h.2.2.2.2.2.2.1
theorem ModR.sis {n : Nat} {X : Fx} {D : Dy} {A : Nat → Nat → Int32} (h : ModR n X D A) : ∀ p, p < 2 * n → A 8 p = nI (dSi D p) := h.2.2.2.2.2.2.2.1
theorem ModR.dis {n : Nat} {X : Fx} {D : Dy} {A : Nat → Nat → Int32} (h : ModR n X D A) : ∀ c, c < n → LisR (A 9) (A 10) c (dDi D c) := h.2.2.2.2.2.2.2.2.1
theorem ModR.tos {n : Nat} {X : Fx} {D : Dy} {A : Nat → Nat → Int32} (h : ModR n X D A) : ∀ p, p < 2 * n → TolR (A 11) (A 12) p (dTo D p) := h.2.2.2.2.2.2.2.2.2.1
theorem ModR.ags {n : Nat} {X : Fx} {D : Dy} {A : Nat → Nat → Int32} (h : ModR n X D A) : ∀ c k, c < n → k < 24 → A 13 (24 * c + k) = dAg D c k := h.2.2.2.2.2.2.2.2.2.2.1
theorem ModR.bys {n : Nat} {X : Fx} {D : Dy} {A : Nat → Nat → Int32} (h : ModR n X D A) : ∀ c k i, c < n → k < 24 → i < 4 → A 14 (4 * (24 * c + k) + i) = dBy D c k i := h.2.2.2.2.2.2.2.2.2.2.2.1
theorem ModR.crs {n : Nat} {X : Fx} {D : Dy} {A : Nat → Nat → Int32} (h : ModR n X D A) : ∀ c, c < n → A 15 c = dCr D c := h.2.2.2.2.2.2.2.2.2.2.2.2.1
theorem ModR.chs {n : Nat} {X : Fx} {D : Dy} {A : Nat → Nat → Int32} (h : ModR n X D A) : ∀ c, c < n → A 16 c = dCh D c := h.2.2.2.2.2.2.2.2.2.2.2.2.2
theorem ModR.cg {n : Nat} {X : Fx} {D : Dy} {A A1 : Nat → Nat → Int32} (h : ModR n X D A) (e : ∀ j, j < 17 → A1 j = A j) : ModR n X D A1 := by
  unfold ModR at h ⊢
  rw [e 0 (by decide), e 1 (by decide), e 2 (by decide), e 3 (by decide), e 4 (by decide), e 5 (by decide), e 6 (by decide), e 7 (by decide), e 8 (by decide), e 9 (by decide), e 10 (by decide), e 11 (by decide), e 12 (by decide), e 13 (by decide), e 14 (by decide), e 15 (by decide), e 16 (by decide)]
  exact h
def OldR (n : Nat) (D : Dy) (A : Nat → Nat → Int32) : Prop :=
  (∀ p, p < 2 * n → LisR (A 17) (A 18) p (dVw D p)) ∧
  (∀ p, p < 2 * n → A 19 p = nI (dWh D p)) ∧
  (∀ c, c < n → LisR (A 20) (A 21) c (dDi D c)) ∧
  (∀ c k, c < n → k < 24 → A 22 (24 * c + k) = dAg D c k) ∧
  (∀ c k i, c < n → k < 24 → i < 4 → A 23 (4 * (24 * c + k) + i) = dBy D c k i)
theorem OldR.ovw {n : Nat} {D : Dy} {A : Nat → Nat → Int32} (h : OldR n D A) : ∀ p, p < 2 * n → LisR (A 17) (A 18) p (dVw D p) := h.1
theorem OldR.owh {n : Nat} {D : Dy} {A : Nat → Nat → Int32} (h : OldR n D A) : ∀ p, p < 2 * n → A 19 p = nI (dWh D p) := h.2.1
theorem OldR.odi {n : Nat} {D : Dy} {A : Nat → Nat → Int32} (h : OldR n D A) : ∀ c, c < n → LisR (A 20) (A 21) c (dDi D c) := h.2.2.1
theorem OldR.oag {n : Nat} {D : Dy} {A : Nat → Nat → Int32} (h : OldR n D A) : ∀ c k, c < n → k < 24 → A 22 (24 * c + k) = dAg D c k := h.2.2.2.1
theorem OldR.oby {n : Nat} {D : Dy} {A : Nat → Nat → Int32} (h : OldR n D A) : ∀ c k i, c < n → k < 24 → i < 4 → A 23 (4 * (24 * c + k) + i) = dBy D c k i := h.2.2.2.2
theorem OldR.cg {n : Nat} {D : Dy} {A A1 : Nat → Nat → Int32} (h : OldR n D A) (e : ∀ j, 17 ≤ j → j < 24 → A1 j = A j) : OldR n D A1 := by
  unfold OldR at h ⊢
  rw [e 17 (by decide) (by decide), e 18 (by decide) (by decide), e 19 (by decide) (by decide), e 20 (by decide) (by decide), e 21 (by decide) (by decide), e 22 (by decide) (by decide), e 23 (by decide) (by decide)]
  exact h
def itL (n : Nat) (l : List Nat) : Prop := l.length ≤ 24 ∧ ∀ x ∈ l, x < 2 * n
theorem itL.get {n : Nat} {l : List Nat} (h : itL n l) {k : Nat} (hk : k < l.length) : l.getD k 0 < 2 * n := h.2 _ (row_get l hk)
/-- what always holds of the fixed part -/
def WfX (n : Nat) (X : Fx) : Prop := n ≤ 24 ∧ (∀ c, c < n → 1 ≤ xId X c ∧ xId X c ≤ 255) ∧ (∀ c e, c < n → e < n → xId X c = xId X e → c = e) ∧ (∀ c, c < n → xMk X c ≤ 65535) ∧
  (∀ p q, p < 2 * n → xLk X p = some q → q < 2 * n ∧ xLk X q = some p ∧ xNu X q = xNu X p ∧ xNu X p < 24 ∧ xUs X (xNu X p) = 1) ∧ (∀ k, xUs X k ≤ 1)
/-- and of the moving part -/
def WfD (n : Nat) (D : Dy) : Prop := (∀ p, p < 2 * n → itL n (dVw D p) ∧ dWh D p ≤ 1 ∧ dSi D p ≤ 4) ∧ (∀ p, p < 2 * n → ∀ l, dTo D p = some l → itL n l) ∧
  (∀ c, c < n → itL n (dDi D c) ∧ (rowIds (dDi D c)).Nodup ∧ (dDi D c ≠ [] → c ∈ rowIds (dDi D c)) ∧ dAg D c c = nI 0 ∧ ∀ k, k < 24 → k ≠ c → k ∉ rowIds (dDi D c) → dAg D c k = -1)
def plI (x : Nat) (l : List Nat) : Int32 := if rowNo x l 0 = 0 then -1 else nI (rowNo x l 0 - 1)
def heaQ (X : Fx) (losses : Int32) (p : Nat) : Option Nat := match xLk X p with
  | none => none
  | some q => if lostI losses (nI (xNu X p)) = true then none else some q
def agrM (D : Dy) (p : Nat) : Nat := if dDi D (p / 2) ≠ [] ∧ dTo D p = some (dDi D (p / 2)) then 1 else 0
def staM (D : Dy) (c : Nat) : Nat := if dDi D c = [] then 0 else if (dSi D (2 * c) = 4 ∨ agrM D (2 * c) = 1) ∧ (dSi D (2 * c + 1) = 4 ∨ agrM D (2 * c + 1) = 1) then 2 else 1
