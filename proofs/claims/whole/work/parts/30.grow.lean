/-! A car more -/
def gAd (n : Nat) (ad a : Nat → Nat) : Nat → Nat := fun x => if x < 34 + 32 * n then ad x else a (x - (34 + 32 * n))
def gL (n : Nat) (L : Nat → List Nat) : Nat → List Nat := fun x => if x < 34 + 32 * n then L x else []
def gV (n : Nat) (V : Nat → Nat → Int32) : Nat → Nat → Int32 := fun x => if x < 34 + 32 * n then V x else if x = 34 + 32 * n + 30 then fun _ => -1 else fun _ => 0
def gK (id : Nat) (mask : Int32) (x k : Nat) : Int32 := if x = 0 then (if k = 0 then nI id else if k = 1 then mask else 0) else if x = 2 then (if k = 0 then nI (2 * id) else if k = 6 then -1 else 0) else if x = 14 then (if k = 0 then nI (2 * id + 1) else if k = 6 then -1 else 0) else 0
def gS (n : Nat) (S : Nat → Nat → Int32) (id : Nat) (mask : Int32) : Nat → Nat → Int32 := fun x => if x < 34 + 32 * n then S x else gK id mask (x - (34 + 32 * n))
def gP (n : Nat) (pe : Nat → Option Nat) : Nat → Option Nat := fun x => if x < 34 + 32 * n then pe x else none
theorem gAd_o {n : Nat} {ad a : Nat → Nat} {x : Nat} (h : x < 34 + 32 * n) : gAd n ad a x = ad x := if_pos h
theorem gAd_n {n : Nat} {ad a : Nat → Nat} (k : Nat) : gAd n ad a (carB n + k) = a k := by
  unfold gAd
  rw [if_neg (by simp only [carB]; omega)]
  congr 1
  simp only [carB]; omega
theorem gL_o {n : Nat} {L : Nat → List Nat} {x : Nat} (h : x < 34 + 32 * n) : gL n L x = L x := if_pos h
theorem gL_n {n : Nat} {L : Nat → List Nat} (k : Nat) : gL n L (carB n + k) = [] := if_neg (by simp only [carB]; omega)
theorem gV_o {n : Nat} {V : Nat → Nat → Int32} {x : Nat} (h : x < 34 + 32 * n) : gV n V x = V x := if_pos h
theorem gV_n {n : Nat} {V : Nat → Nat → Int32} (k : Nat) : gV n V (carB n + k) = if k = 30 then fun _ => -1 else fun _ => 0 := by
  unfold gV
  rw [if_neg (by simp only [carB]; omega)]
  by_cases h : k = 30
  · rw [if_pos (by simp only [carB]; omega), if_pos h]
  · rw [if_neg (by simp only [carB]; omega), if_neg h]
theorem gS_o {n : Nat} {S : Nat → Nat → Int32} {id : Nat} {mask : Int32} {x : Nat} (h : x < 34 + 32 * n) : gS n S id mask x = S x := if_pos h
theorem gS_n {n : Nat} {S : Nat → Nat → Int32} {id : Nat} {mask : Int32} (k : Nat) : gS n S id mask (carB n + k) = gK id mask k := by
  unfold gS
  rw [if_neg (by simp only [carB]; omega)]
  congr 1
  simp only [carB]; omega
theorem gP_o {n : Nat} {pe : Nat → Option Nat} {x : Nat} (h : x < 34 + 32 * n) : gP n pe x = pe x := if_pos h
theorem gP_n {n : Nat} {pe : Nat → Option Nat} (k : Nat) : gP n pe (carB n + k) = none := if_neg (by simp only [carB]; omega)
theorem endN_lt {n e : Nat} (h : endN n e) : e + 12 ≤ 34 + 32 * n := by unfold endN at h; omega
theorem rowN_lt {n x : Nat} (h : rowN n x) : x + 1 < 34 + 32 * n := by unfold rowN at h; omega
theorem intN_lt {n x : Nat} (h : intN n x) : x < 34 + 32 * n := by unfold intN at h; omega
theorem carB_lt {n c k : Nat} (h : c < n) (hk : k < 32) : carB c + k < 34 + 32 * n := by simp only [carB]; omega
theorem carC_o {n : Nat} {ad a : Nat → Nat} {S : Nat → Nat → Int32} {id : Nat} {mask : Int32} {c : Nat} (h : c < n) : carC (gAd n ad a) (gS n S id mask) (carB c) = carC ad S (carB c) := by
  unfold carC
  rw [gAd_o (carB_lt h (by decide)), gAd_o (carB_lt h (by decide)), gAd_o (carB_lt h (by decide)), gAd_o (carB_lt h (by decide)), gAd_o (carB_lt h (by decide)), gS_o (x := carB c) (carB_lt (k := 0) h (by decide))]
theorem mapO {pe : Nat → Option Nat} {ad ad' : Nat → Nat} {e : Nat} (h : ∀ q, pe e = some q → ad' q = ad q) : (pe e).map ad' = (pe e).map ad := by
  cases hq : pe e with
  | none => rfl
  | some q => exact congrArg some (h q hq)
theorem endC_o {n : Nat} {ad a : Nat → Nat} {S : Nat → Nat → Int32} {pe : Nat → Option Nat} {id : Nat} {mask : Int32} {e o : Nat} (hp : peOk n pe) (he : endN n e) (ho : o < 34 + 32 * n) : endC (gAd n ad a) (gS n S id mask) (gP n pe) e o = endC ad S pe e o := by
  have hl := endN_lt he
  unfold endC
  rw [gAd_o (by omega), gAd_o (by omega), gAd_o (by omega), gAd_o ho, gS_o (by omega), gP_o (by omega), mapO (fun q hq => gAd_o (by have := endN_lt (hp e q he hq); omega))]
theorem frmC_o {n : Nat} {ad a : Nat → Nat} {S : Nat → Nat → Int32} {id : Nat} {mask : Int32} {e : Nat} (he : endN n e) : frmC (gAd n ad a) (gS n S id mask) (e + 5) = frmC ad S (e + 5) := by
  have hl := endN_lt he
  unfold frmC
  rw [gAd_o (by omega), gAd_o (by omega), gAd_o (by omega), gAd_o (by omega), gS_o (by omega)]
theorem carC_n {n : Nat} {ad a : Nat → Nat} {S : Nat → Nat → Int32} {id : Nat} {mask : Int32} : carC (gAd n ad a) (gS n S id mask) (carB n) = .inr (0, [.int (nI id), .int mask, .ref (a 1), .ref (a 26), .ref (a 28), .ref (a 30), .ref (a 31), .int 0, .int 0, .int 0, .int 0]) := by
  unfold carC
  rw [gAd_n, gAd_n, gAd_n, gAd_n, gAd_n, show gS n S id mask (carB n) = gK id mask 0 from gS_n 0]
  rfl
theorem endC_n0 {n : Nat} {ad a : Nat → Nat} {S : Nat → Nat → Int32} {pe : Nat → Option Nat} {id : Nat} {mask : Int32} : endC (gAd n ad a) (gS n S id mask) (gP n pe) (carB n + 2) (carB n + 14) = .inr (1, [.int (nI (2 * id)), .ref (a 3), .ref (a 5), .ref (a 7), .ref (a 14), .null, .int (-1), .int 0, .int 0]) := by
  unfold endC
  rw [show gAd n ad a (carB n + 2 + 1) = a 3 from gAd_n 3, show gAd n ad a (carB n + 2 + 3) = a 5 from gAd_n 5, show gAd n ad a (carB n + 2 + 5) = a 7 from gAd_n 7, gAd_n, gS_n, gP_n]
  rfl
theorem endC_n1 {n : Nat} {ad a : Nat → Nat} {S : Nat → Nat → Int32} {pe : Nat → Option Nat} {id : Nat} {mask : Int32} : endC (gAd n ad a) (gS n S id mask) (gP n pe) (carB n + 14) (carB n + 2) = .inr (1, [.int (nI (2 * id + 1)), .ref (a 15), .ref (a 17), .ref (a 19), .ref (a 2), .null, .int (-1), .int 0, .int 0]) := by
  unfold endC
  rw [show gAd n ad a (carB n + 14 + 1) = a 15 from gAd_n 15, show gAd n ad a (carB n + 14 + 3) = a 17 from gAd_n 17, show gAd n ad a (carB n + 14 + 5) = a 19 from gAd_n 19, gAd_n, gS_n, gP_n]
  rfl
theorem frmC_n {n k : Nat} {ad a : Nat → Nat} {S : Nat → Nat → Int32} {id : Nat} {mask : Int32} (hk : k = 7 ∨ k = 19) : frmC (gAd n ad a) (gS n S id mask) (carB n + k) = .inr (2, [.ref (a (k + 1)), .ref (a (k + 3)), .ref (a (k + 5)), .ref (a (k + 6)), .int 0, .int 0]) := by
  unfold frmC
  rw [show gAd n ad a (carB n + k + 1) = a (k + 1) from gAd_n (k + 1), show gAd n ad a (carB n + k + 3) = a (k + 3) from gAd_n (k + 3), show gAd n ad a (carB n + k + 5) = a (k + 5) from gAd_n (k + 5), show gAd n ad a (carB n + k + 6) = a (k + 6) from gAd_n (k + 6), gS_n]
  rcases hk with rfl | rfl <;> rfl
theorem kx_apL {w K : va_W} {i : Nat} {c : Nat × va_E} (h : w[i]? = some c) : (w ++ K)[i]? = some c := by
  rw [List.getElem?_append_left (List.getElem?_eq_some_iff.mp h).1]; exact h
theorem RowAt.apL {E : kx_E} {w K : va_W} {x y h a : Nat} {l : List Nat} (hR : RowAt E w x y h a l) : RowAt E (w ++ K) x y h a l := by
  obtain ⟨h1, ⟨f, h2, h3⟩, h4⟩ := hR
  exact ⟨kx_apL h1, ⟨f, kx_apL h2, h3⟩, h4⟩
section GROW
variable {E : kx_E} {w : va_W} {n : Nat} {K : va_W} {ad a : Nat → Nat} {S : Nat → Nat → Int32} {id : Nat} {mask : Int32}
theorem g_cell (hl : w.length = 34 + 32 * n) (k : Nat) {c : va_E} (h : K[k]? = some (a k, c)) : (w ++ K)[carB n + k]? = some (gAd n ad a (carB n + k), c) := by
  rw [gAd_n, ← h, show carB n + k = w.length + k by rw [hl]]
  exact kx_gA w K k
theorem g_row (hl : w.length = 34 + 32 * n) (k : Nat) (h : K[k]? = some (a k, .inr (3, [.ref (a (k + 1)), .int 0]))) (h1 : K[k + 1]? = some (a (k + 1), kx_ai E 24 (fun _ => 0))) (x : Nat) (hx : x = carB n + k) {L : Nat → List Nat} : RowAt E (w ++ K) x (x + 1) (gAd n ad a x) (gAd n ad a (x + 1)) (gL n L x) := by
  subst hx
  rw [gL_n]
  refine ⟨?_, ⟨_, g_cell hl (k + 1) h1, fun j hj => absurd hj (Nat.not_lt_zero _)⟩, Nat.zero_le _, fun v hv => by cases hv⟩
  rw [show gAd n ad a (carB n + k + 1) = a (k + 1) from gAd_n (k + 1)]
  exact g_cell hl k h
end GROW
set_option maxHeartbeats 2000000 in
theorem Cls.grow {E : kx_E} {w w' : va_W} {n : Nat} {ad a : Nat → Nat} {L : Nat → List Nat} {V S : Nat → Nat → Int32} {pe bi bi' : Nat → Option Nat} {id : Nat} {mask : Int32} {v : Nat → Int32} (h : Cls E w n ad L V S pe bi) (hp : peOk n pe) {S' : Nat → Nat → Int32} (hS : ∀ x, x ≠ 0 → S' x = S x)
    (ho : kx_off w w' (fun x => x < 3)) (h0 : w'[0]? = some (ad 0, busC ad S')) (h1 : ∃ f, w'[1]? = some (ad 1, kx_aq E 3 24 f) ∧ ∀ c, c < n + 1 → f c = some (gAd n ad a (carB c))) (h2 : ∃ f, w'[2]? = some (ad 2, kx_aq E 3 256 f) ∧ ∀ i, i < 256 → f i = (bi' i).map (fun c => gAd n ad a (carB c))) (hv : ∀ i, i < 24 → v i = -1) :
    Cls E (w' ++ carK E (a 0) a id mask v) (n + 1) (gAd n ad a) (gL n L) (gV n V) (gS n S' id mask) (gP n pe) bi' := by
  have hl : w'.length = 34 + 32 * n := by rw [ho.1]; exact h.len
  have s0 : ∀ x, x < 34 → x < 34 + 32 * n := fun x hx => by omega
  refine ⟨?_, ?_, ?_, ?_, ?_, ?_, ?_, ?_, ?_, ?_, ?_, ?_⟩
  · rw [List.length_append, hl]; show 34 + 32 * n + 32 = _; omega
  · have e : busC (gAd n ad a) (gS n S' id mask) = busC ad S' := by
      unfold busC
      rw [gAd_o (s0 1 (by decide)), gAd_o (s0 2 (by decide)), gAd_o (s0 3 (by decide)), gAd_o (s0 4 (by decide)), gS_o (s0 0 (by decide))]
    rw [e, gAd_o (s0 0 (by decide))]
    exact kx_apL h0
  · obtain ⟨f, g1, g2⟩ := h1
    rw [gAd_o (s0 1 (by decide))]
    exact ⟨f, kx_apL g1, g2⟩
  · obtain ⟨f, g1, g2⟩ := h2
    rw [gAd_o (s0 2 (by decide))]
    exact ⟨f, kx_apL g1, g2⟩
  · obtain ⟨f, g1, g2⟩ := h.marks
    rw [gAd_o (s0 3 (by decide))]
    exact ⟨f, kx_apL (ho.at (by decide) g1), g2⟩
  · intro x hx
    by_cases hx0 : x < 34 + 32 * n
    · have hx1 : rowN n x := by unfold rowN at hx ⊢; omega
      have hx2 := rowN_lt hx1
      have hx3 : 3 ≤ x := by unfold rowN at hx1; omega
      rw [gAd_o hx0, gAd_o hx2, gL_o hx0]
      exact ((h.row x hx1).off ho (by omega) (by omega)).apL
    · have hx1 : x = carB n + 3 ∨ x = carB n + 5 ∨ x = carB n + 8 ∨ x = carB n + 10 ∨ x = carB n + 15 ∨ x = carB n + 17 ∨ x = carB n + 20 ∨ x = carB n + 22 ∨ x = carB n + 26 ∨ x = carB n + 28 := by unfold rowN at hx; simp only [carB]; omega
      rcases hx1 with e | e | e | e | e | e | e | e | e | e
      · exact g_row hl 3 rfl rfl x e
      · exact g_row hl 5 rfl rfl x e
      · exact g_row hl 8 rfl rfl x e
      · exact g_row hl 10 rfl rfl x e
      · exact g_row hl 15 rfl rfl x e
      · exact g_row hl 17 rfl rfl x e
      · exact g_row hl 20 rfl rfl x e
      · exact g_row hl 22 rfl rfl x e
      · exact g_row hl 26 rfl rfl x e
      · exact g_row hl 28 rfl rfl x e
  · intro c hc
    by_cases e : c < n
    · rw [carC_o e, gAd_o (x := carB c) (carB_lt (k := 0) e (by decide))]
      have hS1 := hS (carB c) (by simp only [carB]; omega)
      unfold carC
      rw [hS1]
      exact kx_apL (ho.at (by simp only [carB]; omega) (h.car c e))
    · have e : c = n := by omega
      subst e
      rw [carC_n]
      exact g_cell hl 0 rfl
  · intro c hc
    by_cases e : c < n
    · obtain ⟨f, g1, g2, g3⟩ := h.arr c e
      rw [gAd_o (carB_lt e (by decide)), gAd_o (carB_lt e (by decide)), gAd_o (carB_lt e (by decide))]
      exact ⟨f, kx_apL (ho.at (by simp only [carB]; omega) g1), g2, g3⟩
    · have e : c = n := by omega
      subst e
      rw [gAd_n 2, gAd_n 14]
      exact ⟨_, g_cell hl 1 rfl, rfl, rfl⟩
  · intro c hc
    by_cases e : c < n
    · rw [endC_o hp (end0N e) (carB_lt e (by decide)), gAd_o (carB_lt e (by decide))]
      have hS1 := hS (carB c + 2) (by simp only [carB]; omega)
      unfold endC
      rw [hS1]
      exact kx_apL (ho.at (by simp only [carB]; omega) (h.end0 c e))
    · have e : c = n := by omega
      subst e
      rw [endC_n0]
      exact g_cell hl 2 rfl
  · intro c hc
    by_cases e : c < n
    · rw [endC_o hp (end1N e) (carB_lt e (by decide)), gAd_o (carB_lt e (by decide))]
      have hS1 := hS (carB c + 14) (by simp only [carB]; omega)
      unfold endC
      rw [hS1]
      exact kx_apL (ho.at (by simp only [carB]; omega) (h.end1 c e))
    · have e : c = n := by omega
      subst e
      rw [endC_n1]
      exact g_cell hl 14 rfl
  · intro e he
    by_cases e0 : endN n e
    · have hlt := endN_lt e0
      have h34 : 34 ≤ e := e0.1
      rw [frmC_o e0, gAd_o (by omega)]
      have hS1 := hS (e + 5) (by omega)
      unfold frmC
      rw [hS1]
      exact kx_apL (ho.at (by omega) (h.frm e e0))
    · have e1 : e = carB n + 2 ∨ e = carB n + 14 := by unfold endN at he e0; simp only [carB]; omega
      rcases e1 with rfl | rfl
      · show (w' ++ _)[carB n + 7]? = some (gAd n ad a (carB n + 7), frmC (gAd n ad a) (gS n S' id mask) (carB n + 7))
        rw [frmC_n (Or.inl rfl)]
        exact g_cell hl 7 rfl
      · show (w' ++ _)[carB n + 19]? = some (gAd n ad a (carB n + 19), frmC (gAd n ad a) (gS n S' id mask) (carB n + 19))
        rw [frmC_n (Or.inr rfl)]
        exact g_cell hl 19 rfl
  · intro x hx
    by_cases e0 : intN n x
    · have hlt := intN_lt e0
      have h34 : 34 ≤ x := e0.1
      obtain ⟨g, g1, g2⟩ := h.int x e0
      rw [gAd_o hlt, gV_o hlt]
      exact ⟨g, kx_apL (ho.at (by omega) g1), g2⟩
    · have hx1 : x = carB n + 12 ∨ x = carB n + 13 ∨ x = carB n + 24 ∨ x = carB n + 25 ∨ x = carB n + 30 ∨ x = carB n + 31 := by unfold intN at hx e0; simp only [carB]; omega
      rcases hx1 with rfl | rfl | rfl | rfl | rfl | rfl
      · rw [gV_n]; exact ⟨_, g_cell hl 12 rfl, fun i hi => rfl⟩
      · rw [gV_n]; exact ⟨_, g_cell hl 13 rfl, fun i hi => rfl⟩
      · rw [gV_n]; exact ⟨_, g_cell hl 24 rfl, fun i hi => rfl⟩
      · rw [gV_n]; exact ⟨_, g_cell hl 25 rfl, fun i hi => rfl⟩
      · rw [gV_n]; exact ⟨_, g_cell hl 30 rfl, fun i hi => hv i hi⟩
      · rw [gV_n]; exact ⟨_, g_cell hl 31 rfl, fun i hi => rfl⟩
