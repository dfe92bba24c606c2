/-! The reference as a named world: 6 the object, 7 to 32 its arrays -/
abbrev mdlC (ma : Nat → Nat) (F : Nat → Int32) : va_E := .inr (5, [.int (F 0), .int (F 1), .ref (ma 1), .ref (ma 2), .ref (ma 3), .ref (ma 4), .ref (ma 5), .int (F 7), .int (F 8), .int (F 9), .ref (ma 6), .ref (ma 7), .ref (ma 8), .ref (ma 9), .ref (ma 10), .ref (ma 11), .ref (ma 12), .ref (ma 13), .ref (ma 14), .ref (ma 15), .ref (ma 16), .ref (ma 17), .ref (ma 18), .ref (ma 19), .ref (ma 20), .ref (ma 21), .ref (ma 22), .ref (ma 23), .ref (ma 24), .ref (ma 25), .ref (ma 26)])
def mLen : List Nat := [24, 24, 48, 48, 32, 1152, 48, 48, 48, 576, 24, 1152, 48, 576, 2304, 24, 24, 1152, 48, 48, 576, 24, 576, 2304, 64, 24]
def mArr (E : kx_E) (j : Nat) (f : Nat → Int32) : va_E := if j = 4 ∨ j = 7 ∨ j = 19 then kx_az E (mLen.getD j 0) f else kx_ai E (mLen.getD j 0) f
def Mdl (E : kx_E) (w : va_W) (ma : Nat → Nat) (F : Nat → Int32) (A : Nat → Nat → Int32) : Prop := w[6]? = some (ma 0, mdlC ma F) ∧ ∀ j, j < 26 → w[7 + j]? = some (ma (j + 1), mArr E j (A j))
def mdlN (x : Nat) : Prop := 6 ≤ x ∧ x < 33
theorem Mdl.a0 {E : kx_E} {w : va_W} {ma : Nat → Nat} {F : Nat → Int32} {A : Nat → Nat → Int32} (h : Mdl E w ma F A) : w[7]? = some (ma 1, kx_ai E 24 (A 0)) := h.2 0 (by decide)
theorem Mdl.a1 {E : kx_E} {w : va_W} {ma : Nat → Nat} {F : Nat → Int32} {A : Nat → Nat → Int32} (h : Mdl E w ma F A) : w[8]? = some (ma 2, kx_ai E 24 (A 1)) := h.2 1 (by decide)
theorem Mdl.a2 {E : kx_E} {w : va_W} {ma : Nat → Nat} {F : Nat → Int32} {A : Nat → Nat → Int32} (h : Mdl E w ma F A) : w[9]? = some (ma 3, kx_ai E 48 (A 2)) := h.2 2 (by decide)
theorem Mdl.a3 {E : kx_E} {w : va_W} {ma : Nat → Nat} {F : Nat → Int32} {A : Nat → Nat → Int32} (h : Mdl E w ma F A) : w[10]? = some (ma 4, kx_ai E 48 (A 3)) := h.2 3 (by decide)
theorem Mdl.a4 {E : kx_E} {w : va_W} {ma : Nat → Nat} {F : Nat → Int32} {A : Nat → Nat → Int32} (h : Mdl E w ma F A) : w[11]? = some (ma 5, kx_az E 32 (A 4)) := h.2 4 (by decide)
theorem Mdl.a5 {E : kx_E} {w : va_W} {ma : Nat → Nat} {F : Nat → Int32} {A : Nat → Nat → Int32} (h : Mdl E w ma F A) : w[12]? = some (ma 6, kx_ai E 1152 (A 5)) := h.2 5 (by decide)
theorem Mdl.a6 {E : kx_E} {w : va_W} {ma : Nat → Nat} {F : Nat → Int32} {A : Nat → Nat → Int32} (h : Mdl E w ma F A) : w[13]? = some (ma 7, kx_ai E 48 (A 6)) := h.2 6 (by decide)
theorem Mdl.a7 {E : kx_E} {w : va_W} {ma : Nat → Nat} {F : Nat → Int32} {A : Nat → Nat → Int32} (h : Mdl E w ma F A) : w[14]? = some (ma 8, kx_az E 48 (A 7)) := h.2 7 (by decide)
theorem Mdl.a8 {E : kx_E} {w : va_W} {ma : Nat → Nat} {F : Nat → Int32} {A : Nat → Nat → Int32} (h : Mdl E w ma F A) : w[15]? = some (ma 9, kx_ai E 48 (A 8)) := h.2 8 (by decide)
theorem Mdl.a9 {E : kx_E} {w : va_W} {ma : Nat → Nat} {F : Nat → Int32} {A : Nat → Nat → Int32} (h : Mdl E w ma F A) : w[16]? = some (ma 10, kx_ai E 576 (A 9)) := h.2 9 (by decide)
theorem Mdl.a10 {E : kx_E} {w : va_W} {ma : Nat → Nat} {F : Nat → Int32} {A : Nat → Nat → Int32} (h : Mdl E w ma F A) : w[17]? = some (ma 11, kx_ai E 24 (A 10)) := h.2 10 (by decide)
theorem Mdl.a11 {E : kx_E} {w : va_W} {ma : Nat → Nat} {F : Nat → Int32} {A : Nat → Nat → Int32} (h : Mdl E w ma F A) : w[18]? = some (ma 12, kx_ai E 1152 (A 11)) := h.2 11 (by decide)
theorem Mdl.a12 {E : kx_E} {w : va_W} {ma : Nat → Nat} {F : Nat → Int32} {A : Nat → Nat → Int32} (h : Mdl E w ma F A) : w[19]? = some (ma 13, kx_ai E 48 (A 12)) := h.2 12 (by decide)
theorem Mdl.a13 {E : kx_E} {w : va_W} {ma : Nat → Nat} {F : Nat → Int32} {A : Nat → Nat → Int32} (h : Mdl E w ma F A) : w[20]? = some (ma 14, kx_ai E 576 (A 13)) := h.2 13 (by decide)
theorem Mdl.a14 {E : kx_E} {w : va_W} {ma : Nat → Nat} {F : Nat → Int32} {A : Nat → Nat → Int32} (h : Mdl E w ma F A) : w[21]? = some (ma 15, kx_ai E 2304 (A 14)) := h.2 14 (by decide)
theorem Mdl.a15 {E : kx_E} {w : va_W} {ma : Nat → Nat} {F : Nat → Int32} {A : Nat → Nat → Int32} (h : Mdl E w ma F A) : w[22]? = some (ma 16, kx_ai E 24 (A 15)) := h.2 15 (by decide)
theorem Mdl.a16 {E : kx_E} {w : va_W} {ma : Nat → Nat} {F : Nat → Int32} {A : Nat → Nat → Int32} (h : Mdl E w ma F A) : w[23]? = some (ma 17, kx_ai E 24 (A 16)) := h.2 16 (by decide)
theorem Mdl.a17 {E : kx_E} {w : va_W} {ma : Nat → Nat} {F : Nat → Int32} {A : Nat → Nat → Int32} (h : Mdl E w ma F A) : w[24]? = some (ma 18, kx_ai E 1152 (A 17)) := h.2 17 (by decide)
theorem Mdl.a18 {E : kx_E} {w : va_W} {ma : Nat → Nat} {F : Nat → Int32} {A : Nat → Nat → Int32} (h : Mdl E w ma F A) : w[25]? = some (ma 19, kx_ai E 48 (A 18)) := h.2 18 (by decide)
theorem Mdl.a19 {E : kx_E} {w : va_W} {ma : Nat → Nat} {F : Nat → Int32} {A : Nat → Nat → Int32} (h : Mdl E w ma F A) : w[26]? = some (ma 20, kx_az E 48 (A 19)) := h.2 19 (by decide)
theorem Mdl.a20 {E : kx_E} {w : va_W} {ma : Nat → Nat} {F : Nat → Int32} {A : Nat → Nat → Int32} (h : Mdl E w ma F A) : w[27]? = some (ma 21, kx_ai E 576 (A 20)) := h.2 20 (by decide)
theorem Mdl.a21 {E : kx_E} {w : va_W} {ma : Nat → Nat} {F : Nat → Int32} {A : Nat → Nat → Int32} (h : Mdl E w ma F A) : w[28]? = some (ma 22, kx_ai E 24 (A 21)) := h.2 21 (by decide)
theorem Mdl.a22 {E : kx_E} {w : va_W} {ma : Nat → Nat} {F : Nat → Int32} {A : Nat → Nat → Int32} (h : Mdl E w ma F A) : w[29]? = some (ma 23, kx_ai E 576 (A 22)) := h.2 22 (by decide)
theorem Mdl.a23 {E : kx_E} {w : va_W} {ma : Nat → Nat} {F : Nat → Int32} {A : Nat → Nat → Int32} (h : Mdl E w ma F A) : w[30]? = some (ma 24, kx_ai E 2304 (A 23)) := h.2 23 (by decide)
theorem Mdl.a24 {E : kx_E} {w : va_W} {ma : Nat → Nat} {F : Nat → Int32} {A : Nat → Nat → Int32} (h : Mdl E w ma F A) : w[31]? = some (ma 25, kx_ai E 64 (A 24)) := h.2 24 (by decide)
theorem Mdl.a25 {E : kx_E} {w : va_W} {ma : Nat → Nat} {F : Nat → Int32} {A : Nat → Nat → Int32} (h : Mdl E w ma F A) : w[32]? = some (ma 26, kx_ai E 24 (A 25)) := h.2 25 (by decide)
section MDL
variable {E : kx_E} {w w0 : va_W} {ma : Nat → Nat} {F : Nat → Int32} {A : Nat → Nat → Int32} {Y : kx_Y} {z : kx_Z} {pc : Nat} {LL : kx_L} {st : List Value} {kc ks : Nat} {Q : kx_O → va_W → Prop}
theorem Mdl.uA (h : Mdl E w ma F A) {j : Nat} (hj : j < 26) {f : Nat → Int32} {c : va_E} (hc : mArr E j f = c) : Mdl E (w.set (7 + j) (ma (j + 1), c)) ma F (up1 A j f) := by
  subst hc
  refine ⟨kx_s2 (by omega) h.1, fun i hi => ?_⟩
  by_cases e : i = j
  · subst e
    rw [up1_s]
    exact kx_s1 (h.2 i hi)
  · rw [up1_n e]
    exact kx_s2 (by omega) (h.2 i hi)
theorem mA_put {j i len : Nat} {v : Int32} (hd : decode Y.1 pc = .ok (.iastore, 1)) (hM : Mdl E w ma F A) (hO : kx_off w0 w mdlN) (hj : j < 26) (hl : mArr E j = kx_ai E len) (hn : len < 2 ^ 31) (hi : i < len)
    (kk : ∀ w1, Mdl E w1 ma F (up1 A j (upd (A j) i v)) → kx_off w0 w1 mdlN → kx_R E Y z (pc + 1) LL st w1 kc ks Q) : kx_R E Y z pc LL (.int v :: .int (nI i) :: .ref (ma (j + 1)) :: st) w kc ks Q := by
  refine kx_iast hd ((hM.2 j hj).trans (by rw [hl])) hi hn (kk _ (hM.uA hj (by rw [hl])) (hO.set ⟨by omega, by omega⟩))
theorem mZ_put {j i len : Nat} {v : Int32} (hd : decode Y.1 pc = .ok (.bastore, 1)) (hM : Mdl E w ma F A) (hO : kx_off w0 w mdlN) (hj : j < 26) (hl : mArr E j = kx_az E len) (hn : len < 2 ^ 31) (hi : i < len) (hv : v = nI 0 ∨ v = nI 1)
    (kk : ∀ w1, Mdl E w1 ma F (up1 A j (upd (A j) i v)) → kx_off w0 w1 mdlN → kx_R E Y z (pc + 1) LL st w1 kc ks Q) : kx_R E Y z pc LL (.int v :: .int (nI i) :: .ref (ma (j + 1)) :: st) w kc ks Q := by
  refine kx_zast hd ((hM.2 j hj).trans (by rw [hl])) hi hn (by rcases hv with rfl | rfl <;> decide) (kk _ (hM.uA hj (by rw [hl])) (hO.set ⟨by omega, by omega⟩))
theorem mF_put0 {idx : Nat} {v : Int32} (hd : decode Y.1 pc = .ok (.putfield idx, 3)) (hf : kx_F Y.2.2.1 idx 5 0) (hM : Mdl E w ma F A) (hO : kx_off w0 w mdlN)
    (kk : ∀ w1, Mdl E w1 ma (up1 F 0 v) A → kx_off w0 w1 mdlN → kx_R E Y z (pc + 3) LL st w1 kc ks Q) : kx_R E Y z pc LL (.int v :: .ref (ma 0) :: st) w kc ks Q := by
  refine kx_put hd hf (p_M_0 _) hM.1 (Nat.le_of_ble_eq_true rfl) (kk _ ⟨?_, fun i hi => kx_s2 (by omega) (hM.2 i hi)⟩ (hO.set ⟨by omega, by omega⟩))
  rw [kx_s1 hM.1]
  rfl
theorem mF_put1 {idx : Nat} {v : Int32} (hd : decode Y.1 pc = .ok (.putfield idx, 3)) (hf : kx_F Y.2.2.1 idx 5 1) (hM : Mdl E w ma F A) (hO : kx_off w0 w mdlN)
    (kk : ∀ w1, Mdl E w1 ma (up1 F 1 v) A → kx_off w0 w1 mdlN → kx_R E Y z (pc + 3) LL st w1 kc ks Q) : kx_R E Y z pc LL (.int v :: .ref (ma 0) :: st) w kc ks Q := by
  refine kx_put hd hf (p_M_1 _) hM.1 (Nat.le_of_ble_eq_true rfl) (kk _ ⟨?_, fun i hi => kx_s2 (by omega) (hM.2 i hi)⟩ (hO.set ⟨by omega, by omega⟩))
  rw [kx_s1 hM.1]
  rfl
theorem mF_put7 {idx : Nat} {v : Int32} (hd : decode Y.1 pc = .ok (.putfield idx, 3)) (hf : kx_F Y.2.2.1 idx 5 7) (hM : Mdl E w ma F A) (hO : kx_off w0 w mdlN)
    (kk : ∀ w1, Mdl E w1 ma (up1 F 7 v) A → kx_off w0 w1 mdlN → kx_R E Y z (pc + 3) LL st w1 kc ks Q) : kx_R E Y z pc LL (.int v :: .ref (ma 0) :: st) w kc ks Q := by
  refine kx_put hd hf (p_M_7 _) hM.1 (Nat.le_of_ble_eq_true rfl) (kk _ ⟨?_, fun i hi => kx_s2 (by omega) (hM.2 i hi)⟩ (hO.set ⟨by omega, by omega⟩))
  rw [kx_s1 hM.1]
  rfl
theorem mF_put8 {idx : Nat} {v : Int32} (hd : decode Y.1 pc = .ok (.putfield idx, 3)) (hf : kx_F Y.2.2.1 idx 5 8) (hM : Mdl E w ma F A) (hO : kx_off w0 w mdlN)
    (kk : ∀ w1, Mdl E w1 ma (up1 F 8 v) A → kx_off w0 w1 mdlN → kx_R E Y z (pc + 3) LL st w1 kc ks Q) : kx_R E Y z pc LL (.int v :: .ref (ma 0) :: st) w kc ks Q := by
  refine kx_put hd hf (p_M_8 _) hM.1 (Nat.le_of_ble_eq_true rfl) (kk _ ⟨?_, fun i hi => kx_s2 (by omega) (hM.2 i hi)⟩ (hO.set ⟨by omega, by omega⟩))
  rw [kx_s1 hM.1]
  rfl
theorem mF_put9 {idx : Nat} {v : Int32} (hd : decode Y.1 pc = .ok (.putfield idx, 3)) (hf : kx_F Y.2.2.1 idx 5 9) (hM : Mdl E w ma F A) (hO : kx_off w0 w mdlN)
    (kk : ∀ w1, Mdl E w1 ma (up1 F 9 v) A → kx_off w0 w1 mdlN → kx_R E Y z (pc + 3) LL st w1 kc ks Q) : kx_R E Y z pc LL (.int v :: .ref (ma 0) :: st) w kc ks Q := by
  refine kx_put hd hf (p_M_9 _) hM.1 (Nat.le_of_ble_eq_true rfl) (kk _ ⟨?_, fun i hi => kx_s2 (by omega) (hM.2 i hi)⟩ (hO.set ⟨by omega, by omega⟩))
  rw [kx_s1 hM.1]
  rfl
end MDL
def MP (E : kx_E) (w0 : va_W) (ma : Nat → Nat) (F : Nat → Int32) (P : (Nat → Nat → Int32) → Prop) (r : Option Value) : kx_O → va_W → Prop := fun o w1 => o = .inl r ∧ ∃ A1, Mdl E w1 ma F A1 ∧ P A1 ∧ kx_off w0 w1 mdlN
def oI (x : Option Nat) : Int32 := match x with
  | none => -1
  | some q => nI q
theorem nI_m1 {a : Nat} (h : a < 2 ^ 31) : nI a ≠ -1 := by
  intro e
  have h1 := nI_toInt h
  rw [e] at h1
  have h2 : (-1 : Int32).toInt = -1 := by decide
  rw [h2] at h1
  omega
theorem oI_n {x : Option Nat} (hx : ∀ q, x = some q → q < 2 ^ 31) : oI x = -1 ↔ x = none := by
  cases x with
  | none => exact ⟨fun _ => rfl, fun _ => rfl⟩
  | some q => exact ⟨fun h => absurd h (nI_m1 (hx q rfl)), fun h => by cases h⟩
theorem upd_s {f : Nat → Int32} {i : Nat} {v : Int32} : upd f i v i = v := by unfold upd; simp
theorem upd_n {f : Nat → Int32} {i j : Nat} {v : Int32} (h : j ≠ i) : upd f i v j = f j := by unfold upd; simp [h]
