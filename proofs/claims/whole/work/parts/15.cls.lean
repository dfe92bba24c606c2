/-! The bus as a named world: 0 the bus, 1 cars, 2 cars by id, 3 marks, 4 and 5 the run; car c from 34 + 32 * c on:
0 the car, 1 its ends, 2 end 0 (3, 4 view; 5, 6 told; 7 frame: 8, 9 view, 10, 11 directory, 12 ages, 13 words), 14 end 1 alike, 26, 27 directory, 28, 29 draft, 30 ages, 31 words. A Row's items lie behind it. -/
abbrev carB (c : Nat) : Nat := 34 + 32 * c
def rowN (n x : Nat) : Prop := x = 4 ∨ (34 ≤ x ∧ x < 34 + 32 * n ∧ ((x - 34) % 32 = 3 ∨ (x - 34) % 32 = 5 ∨ (x - 34) % 32 = 8 ∨ (x - 34) % 32 = 10 ∨ (x - 34) % 32 = 15 ∨ (x - 34) % 32 = 17 ∨ (x - 34) % 32 = 20 ∨ (x - 34) % 32 = 22 ∨ (x - 34) % 32 = 26 ∨ (x - 34) % 32 = 28))
def endN (n e : Nat) : Prop := 34 ≤ e ∧ e < 34 + 32 * n ∧ ((e - 34) % 32 = 2 ∨ (e - 34) % 32 = 14)
def intN (n v : Nat) : Prop := 34 ≤ v ∧ v < 34 + 32 * n ∧ ((v - 34) % 32 = 12 ∨ (v - 34) % 32 = 13 ∨ (v - 34) % 32 = 24 ∨ (v - 34) % 32 = 25 ∨ (v - 34) % 32 = 30 ∨ (v - 34) % 32 = 31)
def up1 {α : Type} (f : Nat → α) (x : Nat) (v : α) : Nat → α := fun y => if y = x then v else f y
def up2 {α : Type} (f : Nat → Nat → α) (x k : Nat) (v : α) : Nat → Nat → α := fun y j => if y = x then (if j = k then v else f y j) else f y j
theorem up1_s {α : Type} {f : Nat → α} {x : Nat} {v : α} : up1 f x v x = v := if_pos rfl
theorem up1_n {α : Type} {f : Nat → α} {x y : Nat} {v : α} (h : y ≠ x) : up1 f x v y = f y := if_neg h
theorem up2_s {α : Type} {f : Nat → Nat → α} {x k : Nat} {v : α} : up2 f x k v x k = v := by unfold up2; rw [if_pos rfl, if_pos rfl]
theorem up2_k {α : Type} {f : Nat → Nat → α} {x k j : Nat} {v : α} (h : j ≠ k) : up2 f x k v x j = f x j := by unfold up2; rw [if_pos rfl, if_neg h]
theorem up2_n {α : Type} {f : Nat → Nat → α} {x k y : Nat} {v : α} (h : y ≠ x) (j : Nat) : up2 f x k v y j = f y j := by unfold up2; rw [if_neg h]
abbrev busC (ad : Nat → Nat) (S : Nat → Nat → Int32) : va_E := .inr (4, [.ref (ad 1), .ref (ad 2), .ref (ad 3), .ref (ad 4), .int (S 0 4), .int (S 0 5), .int (S 0 6), .int (S 0 7), .int (S 0 8)])
abbrev carC (ad : Nat → Nat) (S : Nat → Nat → Int32) (b : Nat) : va_E := .inr (0, [.int (S b 0), .int (S b 1), .ref (ad (b + 1)), .ref (ad (b + 26)), .ref (ad (b + 28)), .ref (ad (b + 30)), .ref (ad (b + 31)), .int (S b 7), .int (S b 8), .int (S b 9), .int (S b 10)])
abbrev endC (ad : Nat → Nat) (S : Nat → Nat → Int32) (pe : Nat → Option Nat) (e o : Nat) : va_E := .inr (1, [.int (S e 0), .ref (ad (e + 1)), .ref (ad (e + 3)), .ref (ad (e + 5)), .ref (ad o), va_rf ((pe e).map ad), .int (S e 6), .int (S e 7), .int (S e 8)])
abbrev frmC (ad : Nat → Nat) (S : Nat → Nat → Int32) (f : Nat) : va_E := .inr (2, [.ref (ad (f + 1)), .ref (ad (f + 3)), .ref (ad (f + 5)), .ref (ad (f + 6)), .int (S f 4), .int (S f 5)])
def Cls (E : kx_E) (w : va_W) (n : Nat) (ad : Nat → Nat) (L : Nat → List Nat) (V S : Nat → Nat → Int32) (pe bi : Nat → Option Nat) : Prop :=
  w.length = 34 + 32 * n ∧
  w[0]? = some (ad 0, busC ad S) ∧
  (∃ f, w[1]? = some (ad 1, kx_aq E 3 24 f) ∧ ∀ c, c < n → f c = some (ad (carB c))) ∧
  (∃ f, w[2]? = some (ad 2, kx_aq E 3 256 f) ∧ ∀ i, i < 256 → f i = (bi i).map (fun c => ad (carB c))) ∧
  MarksAt E w 3 (ad 3) ∧
  (∀ x, rowN n x → RowAt E w x (x + 1) (ad x) (ad (x + 1)) (L x)) ∧
  (∀ c, c < n → w[carB c]? = some (ad (carB c), carC ad S (carB c))) ∧
  (∀ c, c < n → ∃ f, w[carB c + 1]? = some (ad (carB c + 1), kx_aq E 4 2 f) ∧ f 0 = some (ad (carB c + 2)) ∧ f 1 = some (ad (carB c + 14))) ∧
  (∀ c, c < n → w[carB c + 2]? = some (ad (carB c + 2), endC ad S pe (carB c + 2) (carB c + 14))) ∧
  (∀ c, c < n → w[carB c + 14]? = some (ad (carB c + 14), endC ad S pe (carB c + 14) (carB c + 2))) ∧
  (∀ e, endN n e → w[e + 5]? = some (ad (e + 5), frmC ad S (e + 5))) ∧
  (∀ v, intN n v → ∃ g, w[v]? = some (ad v, kx_ai E 24 g) ∧ ∀ i, i < 24 → g i = V v i)
theorem Cls.len {E : kx_E} {w : va_W} {n : Nat} {ad : Nat → Nat} {L : Nat → List Nat} {V S : Nat → Nat → Int32} {pe bi : Nat → Option Nat} (h : Cls E w n ad L V S pe bi) : w.length = 34 + 32 * n := h.1
theorem Cls.bus {E : kx_E} {w : va_W} {n : Nat} {ad : Nat → Nat} {L : Nat → List Nat} {V S : Nat → Nat → Int32} {pe bi : Nat → Option Nat} (h : Cls E w n ad L V S pe bi) : w[0]? = some (ad 0, busC ad S) := h.2.1
theorem Cls.cars {E : kx_E} {w : va_W} {n : Nat} {ad : Nat → Nat} {L : Nat → List Nat} {V S : Nat → Nat → Int32} {pe bi : Nat → Option Nat} (h : Cls E w n ad L V S pe bi) : (∃ f, w[1]? = some (ad 1, kx_aq E 3 24 f) ∧ ∀ c, c < n → f c = some (ad (carB c))) := h.2.2.1
theorem Cls.byId {E : kx_E} {w : va_W} {n : Nat} {ad : Nat → Nat} {L : Nat → List Nat} {V S : Nat → Nat → Int32} {pe bi : Nat → Option Nat} (h : Cls E w n ad L V S pe bi) : (∃ f, w[2]? = some (ad 2, kx_aq E 3 256 f) ∧ ∀ i, i < 256 → f i = (bi i).map (fun c => ad (carB c))) := h.2.2.2.1
theorem Cls.marks {E : kx_E} {w : va_W} {n : Nat} {ad : Nat → Nat} {L : Nat → List Nat} {V S : Nat → Nat → Int32} {pe bi : Nat → Option Nat} (h : Cls E w n ad L V S pe bi) : MarksAt E w 3 (ad 3) := h.2.2.2.2.1
theorem Cls.row {E : kx_E} {w : va_W} {n : Nat} {ad : Nat → Nat} {L : Nat → List Nat} {V S : Nat → Nat → Int32} {pe bi : Nat → Option Nat} (h : Cls E w n ad L V S pe bi) : (∀ x, rowN n x → RowAt E w x (x + 1) (ad x) (ad (x + 1)) (L x)) := h.2.2.2.2.2.1
theorem Cls.car {E : kx_E} {w : va_W} {n : Nat} {ad : Nat → Nat} {L : Nat → List Nat} {V S : Nat → Nat → Int32} {pe bi : Nat → Option Nat} (h : Cls E w n ad L V S pe bi) : (∀ c, c < n → w[carB c]? = some (ad (carB c), carC ad S (carB c))) := h.2.2.2.2.2.2.1
theorem Cls.arr {E : kx_E} {w : va_W} {n : Nat} {ad : Nat → Nat} {L : Nat → List Nat} {V S : Nat → Nat → Int32} {pe bi : Nat → Option Nat} (h : Cls E w n ad L V S pe bi) : (∀ c, c < n → ∃ f, w[carB c + 1]? = some (ad (carB c + 1), kx_aq E 4 2 f) ∧ f 0 = some (ad (carB c + 2)) ∧ f 1 = some (ad (carB c + 14))) := h.2.2.2.2.2.2.2.1
theorem Cls.end0 {E : kx_E} {w : va_W} {n : Nat} {ad : Nat → Nat} {L : Nat → List Nat} {V S : Nat → Nat → Int32} {pe bi : Nat → Option Nat} (h : Cls E w n ad L V S pe bi) : (∀ c, c < n → w[carB c + 2]? = some (ad (carB c + 2), endC ad S pe (carB c + 2) (carB c + 14))) := h.2.2.2.2.2.2.2.2.1
theorem Cls.end1 {E : kx_E} {w : va_W} {n : Nat} {ad : Nat → Nat} {L : Nat → List Nat} {V S : Nat → Nat → Int32} {pe bi : Nat → Option Nat} (h : Cls E w n ad L V S pe bi) : (∀ c, c < n → w[carB c + 14]? = some (ad (carB c + 14), endC ad S pe (carB c + 14) (carB c + 2))) := h.2.2.2.2.2.2.2.2.2.1
theorem Cls.frm {E : kx_E} {w : va_W} {n : Nat} {ad : Nat → Nat} {L : Nat → List Nat} {V S : Nat → Nat → Int32} {pe bi : Nat → Option Nat} (h : Cls E w n ad L V S pe bi) : (∀ e, endN n e → w[e + 5]? = some (ad (e + 5), frmC ad S (e + 5))) := h.2.2.2.2.2.2.2.2.2.2.1
theorem Cls.int {E : kx_E} {w : va_W} {n : Nat} {ad : Nat → Nat} {L : Nat → List Nat} {V S : Nat → Nat → Int32} {pe bi : Nat → Option Nat} (h : Cls E w n ad L V S pe bi) : (∀ v, intN n v → ∃ g, w[v]? = some (ad v, kx_ai E 24 g) ∧ ∀ i, i < 24 → g i = V v i) := h.2.2.2.2.2.2.2.2.2.2.2
set_option maxHeartbeats 2000000 in
theorem Cls.uRow {E : kx_E} {w : va_W} {n : Nat} {ad : Nat → Nat} {L : Nat → List Nat} {V S : Nat → Nat → Int32} {pe bi : Nat → Option Nat} {w1 : va_W} (h : Cls E w n ad L V S pe bi) {x : Nat} {l : List Nat} (hx : rowN n x) (ho : kx_off w w1 (RowP x (x + 1))) (hr : RowAt E w1 x (x + 1) (ad x) (ad (x + 1)) l) : Cls E w1 n ad (up1 L x l) V S pe bi := by
  refine ⟨?_, ?_, ?_, ?_, ?_, ?_, ?_, ?_, ?_, ?_, ?_, ?_⟩
  · rw [ho.1]; exact h.len
  · exact ho.at (fun q => by unfold rowN at hx; (try simp only [carB, RowP] at *); omega) h.bus
  · obtain ⟨f, h1, h2⟩ := h.cars
    exact ⟨f, ho.at (fun q => by unfold rowN at hx; (try simp only [carB, RowP] at *); omega) h1, h2⟩
  · obtain ⟨f, h1, h2⟩ := h.byId
    exact ⟨f, ho.at (fun q => by unfold rowN at hx; (try simp only [carB, RowP] at *); omega) h1, h2⟩
  · obtain ⟨f, h1, h2⟩ := h.marks
    exact ⟨f, ho.at (fun q => by unfold rowN at hx; (try simp only [carB, RowP] at *); omega) h1, h2⟩
  · intro x9 hx9
    by_cases e : x9 = x
    · subst e; rw [up1_s]; exact hr
    · rw [up1_n e]
      have hx8 := hx9
      unfold rowN at hx8 hx
      exact (h.row x9 hx9).off ho (fun q => by (try simp only [carB, RowP] at *); omega) (fun q => by (try simp only [carB, RowP] at *); omega)
  · intro c9 hc9
    exact ho.at (fun q => by unfold rowN at hx; (try simp only [carB, RowP] at *); omega) (h.car c9 hc9)
  · intro c9 hc9
    obtain ⟨f, h1, h2⟩ := h.arr c9 hc9
    exact ⟨f, ho.at (fun q => by unfold rowN at hx; (try simp only [carB, RowP] at *); omega) h1, h2⟩
  · intro c9 hc9
    exact ho.at (fun q => by unfold rowN at hx; (try simp only [carB, RowP] at *); omega) (h.end0 c9 hc9)
  · intro c9 hc9
    exact ho.at (fun q => by unfold rowN at hx; (try simp only [carB, RowP] at *); omega) (h.end1 c9 hc9)
  · intro e9 he9
    have he8 := he9
    unfold endN at he8
    exact ho.at (fun q => by unfold rowN at hx; (try simp only [carB, RowP] at *); omega) (h.frm e9 he9)
  · intro v9 hv9
    have hv8 := hv9
    unfold intN at hv8
    obtain ⟨g9, h1, h2⟩ := h.int v9 hv9
    exact ⟨g9, ho.at (fun q => by unfold rowN at hx; (try simp only [carB, RowP] at *); omega) h1, h2⟩
set_option maxHeartbeats 2000000 in
theorem Cls.uMarks {E : kx_E} {w : va_W} {n : Nat} {ad : Nat → Nat} {L : Nat → List Nat} {V S : Nat → Nat → Int32} {pe bi : Nat → Option Nat} {w1 : va_W} (h : Cls E w n ad L V S pe bi) (ho : kx_off w w1 (fun n => n = 3)) (hm : MarksAt E w1 3 (ad 3)) : Cls E w1 n ad L V S pe bi := by
  refine ⟨?_, ?_, ?_, ?_, ?_, ?_, ?_, ?_, ?_, ?_, ?_, ?_⟩
  · rw [ho.1]; exact h.len
  · exact ho.at (fun q => by (try simp only [carB] at *); omega) h.bus
  · obtain ⟨f, h1, h2⟩ := h.cars
    exact ⟨f, ho.at (fun q => by (try simp only [carB] at *); omega) h1, h2⟩
  · obtain ⟨f, h1, h2⟩ := h.byId
    exact ⟨f, ho.at (fun q => by (try simp only [carB] at *); omega) h1, h2⟩
  · exact hm
  · intro x9 hx9
    have hx8 := hx9
    unfold rowN at hx8
    exact (h.row x9 hx9).off ho (fun q => by (try simp only [carB] at *); omega) (fun q => by (try simp only [carB] at *); omega)
  · intro c9 hc9
    exact ho.at (fun q => by (try simp only [carB] at *); omega) (h.car c9 hc9)
  · intro c9 hc9
    obtain ⟨f, h1, h2⟩ := h.arr c9 hc9
    exact ⟨f, ho.at (fun q => by (try simp only [carB] at *); omega) h1, h2⟩
  · intro c9 hc9
    exact ho.at (fun q => by (try simp only [carB] at *); omega) (h.end0 c9 hc9)
  · intro c9 hc9
    exact ho.at (fun q => by (try simp only [carB] at *); omega) (h.end1 c9 hc9)
  · intro e9 he9
    have he8 := he9
    unfold endN at he8
    exact ho.at (fun q => by (try simp only [carB] at *); omega) (h.frm e9 he9)
  · intro v9 hv9
    have hv8 := hv9
    unfold intN at hv8
    obtain ⟨g9, h1, h2⟩ := h.int v9 hv9
    exact ⟨g9, ho.at (fun q => by (try simp only [carB] at *); omega) h1, h2⟩
set_option maxHeartbeats 2000000 in
theorem Cls.uInt {E : kx_E} {w : va_W} {n : Nat} {ad : Nat → Nat} {L : Nat → List Nat} {V S : Nat → Nat → Int32} {pe bi : Nat → Option Nat} {w1 : va_W} (h : Cls E w n ad L V S pe bi) {v : Nat} {g : Nat → Int32} (hv : intN n v) (ho : kx_off w w1 (fun n => n = v)) (hg : ∃ g1, w1[v]? = some (ad v, kx_ai E 24 g1) ∧ ∀ i, i < 24 → g1 i = g i) : Cls E w1 n ad L (up1 V v g) S pe bi := by
  refine ⟨?_, ?_, ?_, ?_, ?_, ?_, ?_, ?_, ?_, ?_, ?_, ?_⟩
  · rw [ho.1]; exact h.len
  · exact ho.at (fun q => by unfold intN at hv; (try simp only [carB] at *); omega) h.bus
  · obtain ⟨f, h1, h2⟩ := h.cars
    exact ⟨f, ho.at (fun q => by unfold intN at hv; (try simp only [carB] at *); omega) h1, h2⟩
  · obtain ⟨f, h1, h2⟩ := h.byId
    exact ⟨f, ho.at (fun q => by unfold intN at hv; (try simp only [carB] at *); omega) h1, h2⟩
  · obtain ⟨f, h1, h2⟩ := h.marks
    exact ⟨f, ho.at (fun q => by unfold intN at hv; (try simp only [carB] at *); omega) h1, h2⟩
  · intro x9 hx9
    have hx8 := hx9
    unfold rowN at hx8
    exact (h.row x9 hx9).off ho (fun q => by unfold intN at hv; (try simp only [carB] at *); omega) (fun q => by unfold intN at hv; (try simp only [carB] at *); omega)
  · intro c9 hc9
    exact ho.at (fun q => by unfold intN at hv; (try simp only [carB] at *); omega) (h.car c9 hc9)
  · intro c9 hc9
    obtain ⟨f, h1, h2⟩ := h.arr c9 hc9
    exact ⟨f, ho.at (fun q => by unfold intN at hv; (try simp only [carB] at *); omega) h1, h2⟩
  · intro c9 hc9
    exact ho.at (fun q => by unfold intN at hv; (try simp only [carB] at *); omega) (h.end0 c9 hc9)
  · intro c9 hc9
    exact ho.at (fun q => by unfold intN at hv; (try simp only [carB] at *); omega) (h.end1 c9 hc9)
  · intro e9 he9
    have he8 := he9
    unfold endN at he8
    exact ho.at (fun q => by unfold intN at hv; (try simp only [carB] at *); omega) (h.frm e9 he9)
  · intro v9 hv9
    by_cases e : v9 = v
    · subst e; rw [up1_s]; exact hg
    · rw [up1_n e]
      obtain ⟨g9, h1, h2⟩ := h.int v9 hv9
      exact ⟨g9, ho.at e h1, h2⟩
set_option maxHeartbeats 2000000 in
theorem Cls.uCar {E : kx_E} {w : va_W} {n : Nat} {ad : Nat → Nat} {L : Nat → List Nat} {V S : Nat → Nat → Int32} {pe bi : Nat → Option Nat} {w1 : va_W} (h : Cls E w n ad L V S pe bi) {c : Nat} {S1 : Nat → Nat → Int32} (hc : c < n) (hS : ∀ y, y ≠ carB c → S1 y = S y) (ho : kx_off w w1 (fun n => n = carB c)) (hg : w1[carB c]? = some (ad (carB c), carC ad S1 (carB c))) : Cls E w1 n ad L V S1 pe bi := by
  refine ⟨?_, ?_, ?_, ?_, ?_, ?_, ?_, ?_, ?_, ?_, ?_, ?_⟩
  · rw [ho.1]; exact h.len
  · unfold busC; rw [hS 0 (by (try simp only [carB]); omega)]; exact ho.at (by (try simp only [carB]); omega) h.bus
  · obtain ⟨f, h1, h2⟩ := h.cars
    exact ⟨f, ho.at (fun q => by (try simp only [carB] at *); omega) h1, h2⟩
  · obtain ⟨f, h1, h2⟩ := h.byId
    exact ⟨f, ho.at (fun q => by (try simp only [carB] at *); omega) h1, h2⟩
  · obtain ⟨f, h1, h2⟩ := h.marks
    exact ⟨f, ho.at (fun q => by (try simp only [carB] at *); omega) h1, h2⟩
  · intro x9 hx9
    have hx8 := hx9
    unfold rowN at hx8
    exact (h.row x9 hx9).off ho (fun q => by (try simp only [carB] at *); omega) (fun q => by (try simp only [carB] at *); omega)
  · intro c9 hc9
    by_cases e : c9 = c
    · subst e; exact hg
    · unfold carC; rw [hS (carB c9) (by (try simp only [carB]); omega)]; exact ho.at (by (try simp only [carB]); omega) (h.car c9 hc9)
  · intro c9 hc9
    obtain ⟨f, h1, h2⟩ := h.arr c9 hc9
    exact ⟨f, ho.at (fun q => by (try simp only [carB] at *); omega) h1, h2⟩
  · intro c9 hc9
    unfold endC; rw [hS (carB c9 + 2) (by (try simp only [carB]); omega)]; exact ho.at (by (try simp only [carB]); omega) (h.end0 c9 hc9)
  · intro c9 hc9
    unfold endC; rw [hS (carB c9 + 14) (by (try simp only [carB]); omega)]; exact ho.at (by (try simp only [carB]); omega) (h.end1 c9 hc9)
  · intro e9 he9
    have he8 := he9
    unfold endN at he8
    unfold frmC; rw [hS (e9 + 5) (by (try simp only [carB] at *); omega)]; exact ho.at (by (try simp only [carB] at *); omega) (h.frm e9 he9)
  · intro v9 hv9
    have hv8 := hv9
    unfold intN at hv8
    obtain ⟨g9, h1, h2⟩ := h.int v9 hv9
    exact ⟨g9, ho.at (fun q => by (try simp only [carB] at *); omega) h1, h2⟩
set_option maxHeartbeats 2000000 in
theorem Cls.uEnd0 {E : kx_E} {w : va_W} {n : Nat} {ad : Nat → Nat} {L : Nat → List Nat} {V S : Nat → Nat → Int32} {pe bi : Nat → Option Nat} {w1 : va_W} (h : Cls E w n ad L V S pe bi) {c : Nat} {S1 : Nat → Nat → Int32} {pe1 : Nat → Option Nat} (hc : c < n) (hS : ∀ y, y ≠ carB c + 2 → S1 y = S y) (hp : ∀ y, y ≠ carB c + 2 → pe1 y = pe y) (ho : kx_off w w1 (fun n => n = carB c + 2)) (hg : w1[carB c + 2]? = some (ad (carB c + 2), endC ad S1 pe1 (carB c + 2) (carB c + 14))) : Cls E w1 n ad L V S1 pe1 bi := by
  refine ⟨?_, ?_, ?_, ?_, ?_, ?_, ?_, ?_, ?_, ?_, ?_, ?_⟩
  · rw [ho.1]; exact h.len
  · unfold busC; rw [hS 0 (by (try simp only [carB]); omega)]; exact ho.at (by (try simp only [carB]); omega) h.bus
  · obtain ⟨f, h1, h2⟩ := h.cars
    exact ⟨f, ho.at (fun q => by (try simp only [carB] at *); omega) h1, h2⟩
  · obtain ⟨f, h1, h2⟩ := h.byId
    exact ⟨f, ho.at (fun q => by (try simp only [carB] at *); omega) h1, h2⟩
  · obtain ⟨f, h1, h2⟩ := h.marks
    exact ⟨f, ho.at (fun q => by (try simp only [carB] at *); omega) h1, h2⟩
  · intro x9 hx9
    have hx8 := hx9
    unfold rowN at hx8
    exact (h.row x9 hx9).off ho (fun q => by (try simp only [carB] at *); omega) (fun q => by (try simp only [carB] at *); omega)
  · intro c9 hc9
    unfold carC; rw [hS (carB c9) (by (try simp only [carB]); omega)]; exact ho.at (by (try simp only [carB]); omega) (h.car c9 hc9)
  · intro c9 hc9
    obtain ⟨f, h1, h2⟩ := h.arr c9 hc9
    exact ⟨f, ho.at (fun q => by (try simp only [carB] at *); omega) h1, h2⟩
  · intro c9 hc9
    by_cases e : c9 = c
    · subst e; exact hg
    · unfold endC; rw [hS (carB c9 + 2) (by (try simp only [carB]); omega), hp (carB c9 + 2) (by (try simp only [carB]); omega)]; exact ho.at (by (try simp only [carB]); omega) (h.end0 c9 hc9)
  · intro c9 hc9
    unfold endC; rw [hS (carB c9 + 14) (by (try simp only [carB]); omega), hp (carB c9 + 14) (by (try simp only [carB]); omega)]; exact ho.at (by (try simp only [carB]); omega) (h.end1 c9 hc9)
  · intro e9 he9
    have he8 := he9
    unfold endN at he8
    unfold frmC; rw [hS (e9 + 5) (by (try simp only [carB] at *); omega)]; exact ho.at (by (try simp only [carB] at *); omega) (h.frm e9 he9)
  · intro v9 hv9
    have hv8 := hv9
    unfold intN at hv8
    obtain ⟨g9, h1, h2⟩ := h.int v9 hv9
    exact ⟨g9, ho.at (fun q => by (try simp only [carB] at *); omega) h1, h2⟩
set_option maxHeartbeats 2000000 in
theorem Cls.uEnd1 {E : kx_E} {w : va_W} {n : Nat} {ad : Nat → Nat} {L : Nat → List Nat} {V S : Nat → Nat → Int32} {pe bi : Nat → Option Nat} {w1 : va_W} (h : Cls E w n ad L V S pe bi) {c : Nat} {S1 : Nat → Nat → Int32} {pe1 : Nat → Option Nat} (hc : c < n) (hS : ∀ y, y ≠ carB c + 14 → S1 y = S y) (hp : ∀ y, y ≠ carB c + 14 → pe1 y = pe y) (ho : kx_off w w1 (fun n => n = carB c + 14)) (hg : w1[carB c + 14]? = some (ad (carB c + 14), endC ad S1 pe1 (carB c + 14) (carB c + 2))) : Cls E w1 n ad L V S1 pe1 bi := by
  refine ⟨?_, ?_, ?_, ?_, ?_, ?_, ?_, ?_, ?_, ?_, ?_, ?_⟩
  · rw [ho.1]; exact h.len
  · unfold busC; rw [hS 0 (by (try simp only [carB]); omega)]; exact ho.at (by (try simp only [carB]); omega) h.bus
  · obtain ⟨f, h1, h2⟩ := h.cars
    exact ⟨f, ho.at (fun q => by (try simp only [carB] at *); omega) h1, h2⟩
  · obtain ⟨f, h1, h2⟩ := h.byId
    exact ⟨f, ho.at (fun q => by (try simp only [carB] at *); omega) h1, h2⟩
  · obtain ⟨f, h1, h2⟩ := h.marks
    exact ⟨f, ho.at (fun q => by (try simp only [carB] at *); omega) h1, h2⟩
  · intro x9 hx9
    have hx8 := hx9
    unfold rowN at hx8
    exact (h.row x9 hx9).off ho (fun q => by (try simp only [carB] at *); omega) (fun q => by (try simp only [carB] at *); omega)
  · intro c9 hc9
    unfold carC; rw [hS (carB c9) (by (try simp only [carB]); omega)]; exact ho.at (by (try simp only [carB]); omega) (h.car c9 hc9)
  · intro c9 hc9
    obtain ⟨f, h1, h2⟩ := h.arr c9 hc9
    exact ⟨f, ho.at (fun q => by (try simp only [carB] at *); omega) h1, h2⟩
  · intro c9 hc9
    unfold endC; rw [hS (carB c9 + 2) (by (try simp only [carB]); omega), hp (carB c9 + 2) (by (try simp only [carB]); omega)]; exact ho.at (by (try simp only [carB]); omega) (h.end0 c9 hc9)
  · intro c9 hc9
    by_cases e : c9 = c
    · subst e; exact hg
    · unfold endC; rw [hS (carB c9 + 14) (by (try simp only [carB]); omega), hp (carB c9 + 14) (by (try simp only [carB]); omega)]; exact ho.at (by (try simp only [carB]); omega) (h.end1 c9 hc9)
  · intro e9 he9
    have he8 := he9
    unfold endN at he8
    unfold frmC; rw [hS (e9 + 5) (by (try simp only [carB] at *); omega)]; exact ho.at (by (try simp only [carB] at *); omega) (h.frm e9 he9)
  · intro v9 hv9
    have hv8 := hv9
    unfold intN at hv8
    obtain ⟨g9, h1, h2⟩ := h.int v9 hv9
    exact ⟨g9, ho.at (fun q => by (try simp only [carB] at *); omega) h1, h2⟩
set_option maxHeartbeats 2000000 in
theorem Cls.uFrm {E : kx_E} {w : va_W} {n : Nat} {ad : Nat → Nat} {L : Nat → List Nat} {V S : Nat → Nat → Int32} {pe bi : Nat → Option Nat} {w1 : va_W} (h : Cls E w n ad L V S pe bi) {e : Nat} {S1 : Nat → Nat → Int32} (he : endN n e) (hS : ∀ y, y ≠ e + 5 → S1 y = S y) (ho : kx_off w w1 (fun n => n = e + 5)) (hg : w1[e + 5]? = some (ad (e + 5), frmC ad S1 (e + 5))) : Cls E w1 n ad L V S1 pe bi := by
  refine ⟨?_, ?_, ?_, ?_, ?_, ?_, ?_, ?_, ?_, ?_, ?_, ?_⟩
  · rw [ho.1]; exact h.len
  · unfold busC; rw [hS 0 (by omega)]; exact ho.at (by omega) h.bus
  · obtain ⟨f, h1, h2⟩ := h.cars
    exact ⟨f, ho.at (fun q => by unfold endN at he; (try simp only [carB] at *); omega) h1, h2⟩
  · obtain ⟨f, h1, h2⟩ := h.byId
    exact ⟨f, ho.at (fun q => by unfold endN at he; (try simp only [carB] at *); omega) h1, h2⟩
  · obtain ⟨f, h1, h2⟩ := h.marks
    exact ⟨f, ho.at (fun q => by unfold endN at he; (try simp only [carB] at *); omega) h1, h2⟩
  · intro x9 hx9
    have hx8 := hx9
    unfold rowN at hx8
    exact (h.row x9 hx9).off ho (fun q => by unfold endN at he; (try simp only [carB] at *); omega) (fun q => by unfold endN at he; (try simp only [carB] at *); omega)
  · intro c9 hc9
    unfold endN at he
    unfold carC; rw [hS (carB c9) (by (try simp only [carB] at *); omega)]; exact ho.at (by (try simp only [carB] at *); omega) (h.car c9 hc9)
  · intro c9 hc9
    obtain ⟨f, h1, h2⟩ := h.arr c9 hc9
    exact ⟨f, ho.at (fun q => by unfold endN at he; (try simp only [carB] at *); omega) h1, h2⟩
  · intro c9 hc9
    unfold endN at he
    unfold endC; rw [hS (carB c9 + 2) (by (try simp only [carB] at *); omega)]; exact ho.at (by (try simp only [carB] at *); omega) (h.end0 c9 hc9)
  · intro c9 hc9
    unfold endN at he
    unfold endC; rw [hS (carB c9 + 14) (by (try simp only [carB] at *); omega)]; exact ho.at (by (try simp only [carB] at *); omega) (h.end1 c9 hc9)
  · intro e9 he9
    by_cases q : e9 = e
    · subst q; exact hg
    · unfold frmC; rw [hS (e9 + 5) (by omega)]; exact ho.at (by omega) (h.frm e9 he9)
  · intro v9 hv9
    have hv8 := hv9
    unfold intN at hv8
    obtain ⟨g9, h1, h2⟩ := h.int v9 hv9
    exact ⟨g9, ho.at (fun q => by unfold endN at he; (try simp only [carB] at *); omega) h1, h2⟩
set_option maxHeartbeats 2000000 in
theorem Cls.uBus {E : kx_E} {w : va_W} {n : Nat} {ad : Nat → Nat} {L : Nat → List Nat} {V S : Nat → Nat → Int32} {pe bi : Nat → Option Nat} {w1 : va_W} (h : Cls E w n ad L V S pe bi) {S1 : Nat → Nat → Int32} (hS : ∀ y, y ≠ 0 → S1 y = S y) (ho : kx_off w w1 (fun n => n = 0)) (hg : w1[0]? = some (ad 0, busC ad S1)) : Cls E w1 n ad L V S1 pe bi := by
  refine ⟨?_, ?_, ?_, ?_, ?_, ?_, ?_, ?_, ?_, ?_, ?_, ?_⟩
  · rw [ho.1]; exact h.len
  · exact hg
  · obtain ⟨f, h1, h2⟩ := h.cars
    exact ⟨f, ho.at (fun q => by (try simp only [carB] at *); omega) h1, h2⟩
  · obtain ⟨f, h1, h2⟩ := h.byId
    exact ⟨f, ho.at (fun q => by (try simp only [carB] at *); omega) h1, h2⟩
  · obtain ⟨f, h1, h2⟩ := h.marks
    exact ⟨f, ho.at (fun q => by (try simp only [carB] at *); omega) h1, h2⟩
  · intro x9 hx9
    have hx8 := hx9
    unfold rowN at hx8
    exact (h.row x9 hx9).off ho (fun q => by (try simp only [carB] at *); omega) (fun q => by (try simp only [carB] at *); omega)
  · intro c9 hc9
    unfold carC; rw [hS (carB c9) (by (try simp only [carB]); omega)]; exact ho.at (by (try simp only [carB]); omega) (h.car c9 hc9)
  · intro c9 hc9
    obtain ⟨f, h1, h2⟩ := h.arr c9 hc9
    exact ⟨f, ho.at (fun q => by (try simp only [carB] at *); omega) h1, h2⟩
  · intro c9 hc9
    unfold endC; rw [hS (carB c9 + 2) (by (try simp only [carB]); omega)]; exact ho.at (by (try simp only [carB]); omega) (h.end0 c9 hc9)
  · intro c9 hc9
    unfold endC; rw [hS (carB c9 + 14) (by (try simp only [carB]); omega)]; exact ho.at (by (try simp only [carB]); omega) (h.end1 c9 hc9)
  · intro e9 he9
    unfold frmC; rw [hS (e9 + 5) (by omega)]; exact ho.at (by omega) (h.frm e9 he9)
  · intro v9 hv9
    have hv8 := hv9
    unfold intN at hv8
    obtain ⟨g9, h1, h2⟩ := h.int v9 hv9
    exact ⟨g9, ho.at (fun q => by (try simp only [carB] at *); omega) h1, h2⟩
