/-! One call on both sides -/
def off33 (w w1 : va_W) : Prop := kx_off w w1 (fun x => x = 33)
theorem Cls.fr {E : kx_E} {w w1 : va_W} {n : Nat} {ad : Nat → Nat} {L : Nat → List Nat} {V S : Nat → Nat → Int32} {pe bi : Nat → Option Nat} (h : Cls E w n ad L V S pe bi) {P : Nat → Prop} (ho : kx_off w w1 P) (hP : ∀ x, P x → 6 ≤ x ∧ x < 34) : Cls E w1 n ad L V S pe bi := by
  refine ⟨?_, ?_, ?_, ?_, ?_, ?_, ?_, ?_, ?_, ?_, ?_, ?_⟩
  · rw [ho.1]; exact h.len
  · exact ho.at (fun q => by have := hP _ q; omega) h.bus
  · obtain ⟨f, h1, h2⟩ := h.cars
    exact ⟨f, ho.at (fun q => by have := hP _ q; omega) h1, h2⟩
  · obtain ⟨f, h1, h2⟩ := h.byId
    exact ⟨f, ho.at (fun q => by have := hP _ q; omega) h1, h2⟩
  · obtain ⟨f, h1, h2⟩ := h.marks
    exact ⟨f, ho.at (fun q => by have := hP _ q; omega) h1, h2⟩
  · intro x9 hx9
    have hx8 := hx9
    unfold rowN at hx8
    exact (h.row x9 hx9).off ho (fun q => by have := hP _ q; omega) (fun q => by have := hP _ q; omega)
  · intro c9 hc9
    exact ho.at (fun q => by have := hP _ q; simp only [carB] at *; omega) (h.car c9 hc9)
  · intro c9 hc9
    obtain ⟨f, h1, h2⟩ := h.arr c9 hc9
    exact ⟨f, ho.at (fun q => by have := hP _ q; simp only [carB] at *; omega) h1, h2⟩
  · intro c9 hc9
    exact ho.at (fun q => by have := hP _ q; simp only [carB] at *; omega) (h.end0 c9 hc9)
  · intro c9 hc9
    exact ho.at (fun q => by have := hP _ q; simp only [carB] at *; omega) (h.end1 c9 hc9)
  · intro e9 he9
    have he8 := he9
    unfold endN at he8
    exact ho.at (fun q => by have := hP _ q; omega) (h.frm e9 he9)
  · intro v9 hv9
    have hv8 := hv9
    unfold intN at hv8
    obtain ⟨g9, h1, h2⟩ := h.int v9 hv9
    exact ⟨g9, ho.at (fun q => by have := hP _ q; omega) h1, h2⟩
theorem Mdl.fr {E : kx_E} {w w1 : va_W} {ma : Nat → Nat} {F : Nat → Int32} {A : Nat → Nat → Int32} (h : Mdl E w ma F A) (k : ∀ x, 6 ≤ x → x < 33 → w1[x]? = w[x]?) : Mdl E w1 ma F A :=
  ⟨(k 6 (by omega) (by omega)).trans h.1, fun j hj => (k (7 + j) (by omega) (by omega)).trans (h.2 j hj)⟩
/-- both sides in one world -/
def St (E : kx_E) (a0 m0 : Nat) (w : va_W) (n : Nat) (ad : Nat → Nat) (X : Fx) (D : Dy) (F : Nat → Int32) (T : LVS) (pe bi : Nat → Option Nat) (ma : Nat → Nat) (A : Nat → Nat → Int32) : Prop :=
  ad 0 = a0 ∧ ma 0 = m0 ∧ Cls E w n ad T.1 T.2.1 T.2.2 pe bi ∧ Mdl E w ma F A ∧ Inv n X D F T pe bi ∧ ModR n X D A ∧ Bz A
def LW (E : kx_E) (a0 m0 : Nat) (t : Int32) (w : va_W) : Prop := ∃ n ad X D F T pe bi ma A, St E a0 m0 w n ad X D F T pe bi ma A ∧ F 0 = t
/-- a call of the class, then the same call of the reference: the same answer, or the same refusal -/
def Op (E : kx_E) (a0 m0 : Nat) (w : va_W) (YB YM : kx_Y) (as : List Value) (rb : Int32 → Option Value) (R : Nat → Option String) : Prop :=
  ∃ (k : Nat) (b : Int32) (Qc : kx_O → va_W → Prop), kx_S E YB (.ref a0 :: as) w Qc ∧ ∀ o w1, Qc o w1 → ((k = 0 ∧ o = .inl (rb b)) ∨ (0 < k ∧ ∃ x, R k = some x ∧ o = .inr x)) ∧ modK w w1 ∧
    ∀ w2, off33 w1 w2 → ∃ Qm, kx_S E YM (.ref m0 :: as) w2 Qm ∧ ∀ o w3, Qm o w3 → ∃ b', o = .inl (rb b') ∧ (k = 0 → b' = b) ∧ LW E a0 m0 (nI k) w3 ∧ w3[33]? = w2[33]?
theorem Op.mk {E : kx_E} {a0 m0 : Nat} {w : va_W} {YB YM : kx_Y} {as : List Value} {rb : Int32 → Option Value} {R : Nat → Option String} {n : Nat} {ad : Nat → Nat} {X : Fx} {D : Dy} {F : Nat → Int32} {T : LVS} {pe bi : Nat → Option Nat} {ma : Nat → Nat} {A : Nat → Nat → Int32} (hS : St E a0 m0 w n ad X D F T pe bi ma A) (k : Nat) (b : Int32) {Qc : kx_O → va_W → Prop} (hc : kx_S E YB (.ref a0 :: as) w Qc)
    (hq : ∀ o w1, Qc o w1 → ((k = 0 ∧ o = .inl (rb b)) ∨ (0 < k ∧ ∃ x, R k = some x ∧ o = .inr x)) ∧ modK w w1 ∧ ∃ n' ad' X' T' pe' bi', ad' 0 = a0 ∧ Cls E w1 n' ad' T'.1 T'.2.1 T'.2.2 pe' bi' ∧
      ∀ w2, Mdl E w2 ma F A → ∃ Qm, kx_S E YM (.ref m0 :: as) w2 Qm ∧ ∀ o w3, Qm o w3 → ∃ b' F' A' D', o = .inl (rb b') ∧ (k = 0 → b' = b) ∧ F' 0 = nI k ∧ Mdl E w3 ma F' A' ∧ kx_off w2 w3 mdlN ∧ ModR n' X' D' A' ∧ Bz A' ∧ Inv n' X' D' F' T' pe' bi') : Op E a0 m0 w YB YM as rb R := by
  refine ⟨k, b, Qc, hc, fun o w1 h => ?_⟩
  obtain ⟨g1, g2, n', ad', X', T', pe', bi', e0, hC1, g3⟩ := hq o w1 h
  refine ⟨g1, g2, fun w2 h2 => ?_⟩
  have hM1 : Mdl E w1 ma F A := hS.2.2.2.1.fr (fun x a b => g2 x a (by omega))
  have hM2 : Mdl E w2 ma F A := hM1.fr (fun x a b => h2.2 x (by omega))
  have hC2 : Cls E w2 n' ad' T'.1 T'.2.1 T'.2.2 pe' bi' := hC1.fr h2 (fun x e => by omega)
  obtain ⟨Qm, m1, m2⟩ := g3 w2 hM2
  refine ⟨Qm, m1, fun o w3 h3 => ?_⟩
  obtain ⟨b', F', A', D', p1, p2, p3, p4, p5, p6, p7, p8⟩ := m2 o w3 h3
  refine ⟨b', p1, p2, ⟨n', ad', X', D', F', T', pe', bi', ma, A', ⟨e0, hS.2.1, ?_, p4, p8, p6, p7⟩, p3⟩, p5.2 33 (by unfold mdlN; omega)⟩
  exact hC2.fr p5 (fun x e => by unfold mdlN at e; omega)
/-- nothing moves, and both answer b -/
theorem Op.ask {E : kx_E} {a0 m0 : Nat} {w : va_W} {YB YM : kx_Y} {as : List Value} {R : Nat → Option String} {n : Nat} {ad : Nat → Nat} {X : Fx} {D : Dy} {F : Nat → Int32} {T : LVS} {pe bi : Nat → Option Nat} {ma : Nat → Nat} {A : Nat → Nat → Int32} (hS : St E a0 m0 w n ad X D F T pe bi ma A) {b : Int32} (hc : kx_S E YB (.ref a0 :: as) w (kx_Qi w b))
    (hm : ∀ w2, Mdl E w2 ma F A → kx_S E YM (.ref m0 :: as) w2 (MX E w2 ma (up1 F 0 (nI 0)) A (some (.int b)))) : Op E a0 m0 w YB YM as (fun b => some (.int b)) R := by
  refine Op.mk hS 0 b hc (fun o w1 h => ?_)
  obtain ⟨rfl, rfl⟩ := h
  refine ⟨Or.inl ⟨rfl, rfl⟩, fun x _ _ => rfl, n, ad, X, T, pe, bi, hS.1, hS.2.2.1, fun w2 h2 => ⟨_, hm w2 h2, fun o w3 h3 => ?_⟩⟩
  obtain ⟨e1, e2, e3⟩ := h3
  exact ⟨b, _, A, D, e1, fun _ => rfl, up1_s, e2, e3, hS.2.2.2.2.2.1, hS.2.2.2.2.2.2, hS.2.2.2.2.1.t0⟩
/-- both refuse alike -/
theorem Op.bad {E : kx_E} {a0 m0 : Nat} {w : va_W} {YB YM : kx_Y} {as : List Value} {rb : Int32 → Option Value} {R : Nat → Option String} {n : Nat} {ad : Nat → Nat} {X : Fx} {D : Dy} {F : Nat → Int32} {T : LVS} {pe bi : Nat → Option Nat} {ma : Nat → Nat} {A : Nat → Nat → Int32} (hS : St E a0 m0 w n ad X D F T pe bi ma A) (k : Nat) (hk : 0 < k) {x : String} (hx : R k = some x) (hc : kx_S E YB (.ref a0 :: as) w (fun o w1 => o = .inr x ∧ w1 = w))
    (hm : ∀ w2, Mdl E w2 ma F A → kx_S E YM (.ref m0 :: as) w2 (MX E w2 ma (up1 F 0 (nI k)) A (rb (nI 0)))) : Op E a0 m0 w YB YM as rb R := by
  refine Op.mk hS k 0 hc (fun o w1 h => ?_)
  obtain ⟨rfl, rfl⟩ := h
  refine ⟨Or.inr ⟨hk, x, hx, rfl⟩, fun x _ _ => rfl, n, ad, X, T, pe, bi, hS.1, hS.2.2.1, fun w2 h2 => ⟨_, hm w2 h2, fun o w3 h3 => ?_⟩⟩
  obtain ⟨e1, e2, e3⟩ := h3
  exact ⟨nI 0, _, A, D, e1, fun e => by omega, up1_s, e2, e3, hS.2.2.2.2.2.1, hS.2.2.2.2.2.2, hS.2.2.2.2.1.t0⟩
abbrev rI : Int32 → Option Value := fun b => some (.int b)
abbrev rV : Int32 → Option Value := fun _ => none
abbrev R2 (x y : String) : Nat → Option String := fun k => if k = 1 then some x else if k = 2 then some y else none
abbrev R1 (x : String) : Nat → Option String := fun k => if k = 1 then some x else none
abbrev R0 : Nat → Option String := fun _ => none
theorem rng1 (v : Int32) {m : Nat} (hm : m < 2 ^ 31) : (v < nI 1 ∨ nI m < v) ∨ ∃ j, j < m ∧ v = nI (j + 1) := by
  by_cases h1 : v < nI 1
  · exact Or.inl (Or.inl h1)
  · by_cases h2 : nI m < v
    · exact Or.inl (Or.inr h2)
    · obtain ⟨j, a, b, e⟩ := i32_in (by omega) hm h1 h2
      exact Or.inr ⟨j - 1, by omega, by rw [show j - 1 + 1 = j by omega]; exact e⟩
theorem rng0 (v : Int32) {m : Nat} (hm : m < 2 ^ 31) : (v < 0 ∨ nI m ≤ v) ∨ ∃ j, j < m ∧ v = nI j := by
  rcases pk_ix v hm with h | h | h
  · exact Or.inl (Or.inl h)
  · exact Or.inl (Or.inr h)
  · exact Or.inr h
theorem isE_c (e : Int32) : isE e = 0 ∨ ∃ i, i < 2 ∧ e = nI i := by
  unfold isE
  by_cases h : e = nI 0 ∨ e = nI 1
  · rcases h with h | h
    · exact Or.inr ⟨0, by omega, h⟩
    · exact Or.inr ⟨1, by omega, h⟩
  · exact Or.inl (if_neg h)
theorem endQ_car {bi : Nat → Option Nat} {id e : Int32} (h : carI bi id = none) : endQ bi id e = none := by unfold endQ; rw [h]
theorem endQ_ne {bi : Nat → Option Nat} {id e : Int32} {c : Nat} (h : carI bi id = some c) (he : isE e = 0) : endQ bi id e = none := by
  unfold isE at he
  have : ¬ (e = nI 0 ∨ e = nI 1) := by
    intro q
    rw [if_pos q] at he
    cases he
  unfold endQ
  rw [h]
  show (if e = nI 0 then _ else if e = nI 1 then _ else _) = _
  rw [if_neg (fun q => this (Or.inl q)), if_neg (fun q => this (Or.inr q))]
theorem endQ_ok {bi : Nat → Option Nat} {id : Int32} {c i : Nat} (h : carI bi id = some c) (hi : i < 2) : endQ bi id (nI i) = some (eN (2 * c + i)) := by
  unfold endQ
  rw [h]
  show (if nI i = nI 0 then some (carE c 0) else if nI i = nI 1 then some (carE c 1) else none) = _
  have a : nI i = nI 0 ↔ i = 0 := nI_eq (by omega) (by omega)
  have b : nI i = nI 1 ↔ i = 1 := nI_eq (by omega) (by omega)
  by_cases q : i = 0
  · subst q; rw [if_pos rfl, eN_0]; rfl
  · rw [if_neg (fun e => q (a.mp e)), if_pos (b.mpr (by omega)), eN_1, show i = 1 by omega]
