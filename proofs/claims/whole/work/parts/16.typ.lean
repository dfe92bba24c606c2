/-! typed rules: the bus's world before and behind -/
abbrev clsN : Nat → Prop := fun x => x < 6 ∨ 34 ≤ x
def opp (e : Nat) : Nat := if (e - 34) % 32 = 2 then e + 12 else e - 12
theorem opp0 (c : Nat) : opp (carB c + 2) = carB c + 14 := by unfold opp; rw [if_pos (by simp only [carB]; omega)]
theorem opp1 (c : Nat) : opp (carB c + 14) = carB c + 2 := by unfold opp; rw [if_neg (by simp only [carB]; omega)]; omega
theorem endN_c {n e : Nat} (he : endN n e) : ∃ c, c < n ∧ ((e = carB c + 2 ∧ opp e = carB c + 14) ∨ (e = carB c + 14 ∧ opp e = carB c + 2)) := by
  unfold endN at he
  refine ⟨(e - 34) / 32, by omega, ?_⟩
  rcases he.2.2 with h | h
  · left
    have e1 : e = carB ((e - 34) / 32) + 2 := by simp only [carB]; omega
    exact ⟨e1, by rw [e1, opp0]; simp only [carB]; omega⟩
  · right
    have e1 : e = carB ((e - 34) / 32) + 14 := by simp only [carB]; omega
    exact ⟨e1, by rw [e1, opp1]; simp only [carB]; omega⟩
theorem end0N {n c : Nat} (h : c < n) : endN n (carB c + 2) := by unfold endN; simp only [carB]; omega
theorem end1N {n c : Nat} (h : c < n) : endN n (carB c + 14) := by unfold endN; simp only [carB]; omega
theorem oppN {n e : Nat} (he : endN n e) : endN n (opp e) := by
  obtain ⟨c, hc, ⟨-, h⟩ | ⟨-, h⟩⟩ := endN_c he
  · rw [h]; exact end1N hc
  · rw [h]; exact end0N hc
theorem Cls.endAt {E : kx_E} {w : va_W} {n : Nat} {ad : Nat → Nat} {L : Nat → List Nat} {V S : Nat → Nat → Int32} {pe bi : Nat → Option Nat} (h : Cls E w n ad L V S pe bi) {e : Nat} (he : endN n e) : w[e]? = some (ad e, endC ad S pe e (opp e)) := by
  obtain ⟨c, hc, ⟨h1, h2⟩ | ⟨h1, h2⟩⟩ := endN_c he
  · rw [h2, h1]; exact h.end0 c hc
  · rw [h2, h1]; exact h.end1 c hc
theorem Cls.uEnd {E : kx_E} {w : va_W} {n : Nat} {ad : Nat → Nat} {L : Nat → List Nat} {V S : Nat → Nat → Int32} {pe bi : Nat → Option Nat} {w1 : va_W} (h : Cls E w n ad L V S pe bi) {e : Nat} {S1 : Nat → Nat → Int32} {pe1 : Nat → Option Nat} (he : endN n e) (hS : ∀ y, y ≠ e → S1 y = S y) (hp : ∀ y, y ≠ e → pe1 y = pe y) (ho : kx_off w w1 (fun x => x = e)) (hg : w1[e]? = some (ad e, endC ad S1 pe1 e (opp e))) : Cls E w1 n ad L V S1 pe1 bi := by
  obtain ⟨c, hc, ⟨h1, h2⟩ | ⟨h1, h2⟩⟩ := endN_c he
  · rw [h2] at hg; subst h1; exact h.uEnd0 hc hS hp ho hg
  · rw [h2] at hg; subst h1; exact h.uEnd1 hc hS hp ho hg
theorem kx_off.one {w w1 w0 : va_W} {x : Nat} {c : Nat × va_E} (hO : kx_off w0 w clsN) (hx : clsN x) (e : w1 = w.set x c) : kx_off w0 w1 clsN := by subst e; exact hO.set hx
theorem kx_off.set1 {w : va_W} {x : Nat} {c : Nat × va_E} : kx_off w (w.set x c) (fun n => n = x) := kx_off.rf.set rfl
theorem endN_cls {n e : Nat} (he : endN n e) : clsN e := by unfold endN at he; exact Or.inr he.1
theorem rowN_cls {n x : Nat} (hx : rowN n x) : clsN x ∧ clsN (x + 1) := by unfold rowN at hx; exact ⟨by omega, by omega⟩
theorem intN_cls {n x : Nat} (hx : intN n x) : clsN x := by unfold intN at hx; exact Or.inr hx.1
theorem cN_put6 {E : kx_E} {w w0 : va_W} {n : Nat} {ad : Nat → Nat} {L : Nat → List Nat} {V S : Nat → Nat → Int32} {pe bi : Nat → Option Nat} {Y : kx_Y} {z : kx_Z} {pc : Nat} {LL : kx_L} {st : List Value} {kc ks : Nat} {Q : kx_O → va_W → Prop} {idx e : Nat} {v : Int32} (hd : decode Y.1 pc = .ok (.putfield idx, 3)) (hf : kx_F Y.2.2.1 idx 1 6) (hp : kx_P 1 6 false (.int v)) (hC : Cls E w n ad L V S pe bi) (hO : kx_off w0 w clsN) (he : endN n e)
    (kk : ∀ w1, Cls E w1 n ad L V (up2 S e 6 v) pe bi → kx_off w0 w1 clsN → kx_R E Y z (pc + 3) LL st w1 kc ks Q) : kx_R E Y z pc LL (.int v :: .ref (ad e) :: st) w kc ks Q := by
  refine kx_put hd hf hp (hC.endAt he) (Nat.le_of_ble_eq_true rfl) (kk _ (hC.uEnd he (fun y hy => funext (up2_n hy)) (fun y _ => rfl) kx_off.set1 ?_) (hO.set (endN_cls he)))
  rw [kx_s1 (hC.endAt he)]
  simp [endC, up2]
theorem cN_put7 {E : kx_E} {w w0 : va_W} {n : Nat} {ad : Nat → Nat} {L : Nat → List Nat} {V S : Nat → Nat → Int32} {pe bi : Nat → Option Nat} {Y : kx_Y} {z : kx_Z} {pc : Nat} {LL : kx_L} {st : List Value} {kc ks : Nat} {Q : kx_O → va_W → Prop} {idx e : Nat} {v : Int32} (hd : decode Y.1 pc = .ok (.putfield idx, 3)) (hf : kx_F Y.2.2.1 idx 1 7) (hp : kx_P 1 7 false (.int v)) (hC : Cls E w n ad L V S pe bi) (hO : kx_off w0 w clsN) (he : endN n e)
    (kk : ∀ w1, Cls E w1 n ad L V (up2 S e 7 v) pe bi → kx_off w0 w1 clsN → kx_R E Y z (pc + 3) LL st w1 kc ks Q) : kx_R E Y z pc LL (.int v :: .ref (ad e) :: st) w kc ks Q := by
  refine kx_put hd hf hp (hC.endAt he) (Nat.le_of_ble_eq_true rfl) (kk _ (hC.uEnd he (fun y hy => funext (up2_n hy)) (fun y _ => rfl) kx_off.set1 ?_) (hO.set (endN_cls he)))
  rw [kx_s1 (hC.endAt he)]
  simp [endC, up2]
theorem cN_put8 {E : kx_E} {w w0 : va_W} {n : Nat} {ad : Nat → Nat} {L : Nat → List Nat} {V S : Nat → Nat → Int32} {pe bi : Nat → Option Nat} {Y : kx_Y} {z : kx_Z} {pc : Nat} {LL : kx_L} {st : List Value} {kc ks : Nat} {Q : kx_O → va_W → Prop} {idx e : Nat} {v : Int32} (hd : decode Y.1 pc = .ok (.putfield idx, 3)) (hf : kx_F Y.2.2.1 idx 1 8) (hp : kx_P 1 8 false (.int v)) (hC : Cls E w n ad L V S pe bi) (hO : kx_off w0 w clsN) (he : endN n e)
    (kk : ∀ w1, Cls E w1 n ad L V (up2 S e 8 v) pe bi → kx_off w0 w1 clsN → kx_R E Y z (pc + 3) LL st w1 kc ks Q) : kx_R E Y z pc LL (.int v :: .ref (ad e) :: st) w kc ks Q := by
  refine kx_put hd hf hp (hC.endAt he) (Nat.le_of_ble_eq_true rfl) (kk _ (hC.uEnd he (fun y hy => funext (up2_n hy)) (fun y _ => rfl) kx_off.set1 ?_) (hO.set (endN_cls he)))
  rw [kx_s1 (hC.endAt he)]
  simp [endC, up2]
theorem cN_join {E : kx_E} {w w0 : va_W} {n : Nat} {ad : Nat → Nat} {L : Nat → List Nat} {V S : Nat → Nat → Int32} {pe bi : Nat → Option Nat} {Y : kx_Y} {z : kx_Z} {pc : Nat} {LL : kx_L} {st : List Value} {kc ks : Nat} {Q : kx_O → va_W → Prop} {idx e q : Nat} (hd : decode Y.1 pc = .ok (.putfield idx, 3)) (hf : kx_F Y.2.2.1 idx 1 5) (hC : Cls E w n ad L V S pe bi) (hO : kx_off w0 w clsN) (he : endN n e)
    (kk : ∀ w1, Cls E w1 n ad L V S (up1 pe e (some q)) bi → kx_off w0 w1 clsN → kx_R E Y z (pc + 3) LL st w1 kc ks Q) : kx_R E Y z pc LL (.ref (ad q) :: .ref (ad e) :: st) w kc ks Q := by
  refine kx_put hd hf (p_N_5 _) (hC.endAt he) (Nat.le_of_ble_eq_true rfl) (kk _ (hC.uEnd he (fun y _ => rfl) (fun y hy => up1_n hy) kx_off.set1 ?_) (hO.set (endN_cls he)))
  rw [kx_s1 (hC.endAt he)]
  simp [endC, up1, va_rf]
theorem cN_part {E : kx_E} {w w0 : va_W} {n : Nat} {ad : Nat → Nat} {L : Nat → List Nat} {V S : Nat → Nat → Int32} {pe bi : Nat → Option Nat} {Y : kx_Y} {z : kx_Z} {pc : Nat} {LL : kx_L} {st : List Value} {kc ks : Nat} {Q : kx_O → va_W → Prop} {idx e : Nat} (hd : decode Y.1 pc = .ok (.putfield idx, 3)) (hf : kx_F Y.2.2.1 idx 1 5) (hC : Cls E w n ad L V S pe bi) (hO : kx_off w0 w clsN) (he : endN n e)
    (kk : ∀ w1, Cls E w1 n ad L V S (up1 pe e none) bi → kx_off w0 w1 clsN → kx_R E Y z (pc + 3) LL st w1 kc ks Q) : kx_R E Y z pc LL (.null :: .ref (ad e) :: st) w kc ks Q := by
  refine kx_put hd hf p_N_5_n (hC.endAt he) (Nat.le_of_ble_eq_true rfl) (kk _ (hC.uEnd he (fun y _ => rfl) (fun y hy => up1_n hy) kx_off.set1 ?_) (hO.set (endN_cls he)))
  rw [kx_s1 (hC.endAt he)]
  simp [endC, up1, va_rf]
theorem cC_put7 {E : kx_E} {w w0 : va_W} {n : Nat} {ad : Nat → Nat} {L : Nat → List Nat} {V S : Nat → Nat → Int32} {pe bi : Nat → Option Nat} {Y : kx_Y} {z : kx_Z} {pc : Nat} {LL : kx_L} {st : List Value} {kc ks : Nat} {Q : kx_O → va_W → Prop} {idx c : Nat} {v : Int32} (hd : decode Y.1 pc = .ok (.putfield idx, 3)) (hf : kx_F Y.2.2.1 idx 0 7) (hC : Cls E w n ad L V S pe bi) (hO : kx_off w0 w clsN) (hc : c < n)
    (kk : ∀ w1, Cls E w1 n ad L V (up2 S (carB c) 7 v) pe bi → kx_off w0 w1 clsN → kx_R E Y z (pc + 3) LL st w1 kc ks Q) : kx_R E Y z pc LL (.int v :: .ref (ad (carB c)) :: st) w kc ks Q := by
  refine kx_put hd hf (p_C_7 _) (hC.car c hc) (Nat.le_of_ble_eq_true rfl) (kk _ (hC.uCar hc (fun y hy => funext (up2_n hy)) kx_off.set1 ?_) (hO.set (Or.inr (by simp only [carB]; omega))))
  rw [kx_s1 (hC.car c hc)]
  simp [carC, up2]
theorem cC_put8 {E : kx_E} {w w0 : va_W} {n : Nat} {ad : Nat → Nat} {L : Nat → List Nat} {V S : Nat → Nat → Int32} {pe bi : Nat → Option Nat} {Y : kx_Y} {z : kx_Z} {pc : Nat} {LL : kx_L} {st : List Value} {kc ks : Nat} {Q : kx_O → va_W → Prop} {idx c : Nat} {v : Int32} (hd : decode Y.1 pc = .ok (.putfield idx, 3)) (hf : kx_F Y.2.2.1 idx 0 8) (hC : Cls E w n ad L V S pe bi) (hO : kx_off w0 w clsN) (hc : c < n)
    (kk : ∀ w1, Cls E w1 n ad L V (up2 S (carB c) 8 v) pe bi → kx_off w0 w1 clsN → kx_R E Y z (pc + 3) LL st w1 kc ks Q) : kx_R E Y z pc LL (.int v :: .ref (ad (carB c)) :: st) w kc ks Q := by
  refine kx_put hd hf (p_C_8 _) (hC.car c hc) (Nat.le_of_ble_eq_true rfl) (kk _ (hC.uCar hc (fun y hy => funext (up2_n hy)) kx_off.set1 ?_) (hO.set (Or.inr (by simp only [carB]; omega))))
  rw [kx_s1 (hC.car c hc)]
  simp [carC, up2]
theorem cC_put9 {E : kx_E} {w w0 : va_W} {n : Nat} {ad : Nat → Nat} {L : Nat → List Nat} {V S : Nat → Nat → Int32} {pe bi : Nat → Option Nat} {Y : kx_Y} {z : kx_Z} {pc : Nat} {LL : kx_L} {st : List Value} {kc ks : Nat} {Q : kx_O → va_W → Prop} {idx c : Nat} {v : Int32} (hd : decode Y.1 pc = .ok (.putfield idx, 3)) (hf : kx_F Y.2.2.1 idx 0 9) (hC : Cls E w n ad L V S pe bi) (hO : kx_off w0 w clsN) (hc : c < n)
    (kk : ∀ w1, Cls E w1 n ad L V (up2 S (carB c) 9 v) pe bi → kx_off w0 w1 clsN → kx_R E Y z (pc + 3) LL st w1 kc ks Q) : kx_R E Y z pc LL (.int v :: .ref (ad (carB c)) :: st) w kc ks Q := by
  refine kx_put hd hf (p_C_9 _) (hC.car c hc) (Nat.le_of_ble_eq_true rfl) (kk _ (hC.uCar hc (fun y hy => funext (up2_n hy)) kx_off.set1 ?_) (hO.set (Or.inr (by simp only [carB]; omega))))
  rw [kx_s1 (hC.car c hc)]
  simp [carC, up2]
theorem cC_put10 {E : kx_E} {w w0 : va_W} {n : Nat} {ad : Nat → Nat} {L : Nat → List Nat} {V S : Nat → Nat → Int32} {pe bi : Nat → Option Nat} {Y : kx_Y} {z : kx_Z} {pc : Nat} {LL : kx_L} {st : List Value} {kc ks : Nat} {Q : kx_O → va_W → Prop} {idx c : Nat} {v : Int32} (hd : decode Y.1 pc = .ok (.putfield idx, 3)) (hf : kx_F Y.2.2.1 idx 0 10) (hC : Cls E w n ad L V S pe bi) (hO : kx_off w0 w clsN) (hc : c < n)
    (kk : ∀ w1, Cls E w1 n ad L V (up2 S (carB c) 10 v) pe bi → kx_off w0 w1 clsN → kx_R E Y z (pc + 3) LL st w1 kc ks Q) : kx_R E Y z pc LL (.int v :: .ref (ad (carB c)) :: st) w kc ks Q := by
  refine kx_put hd hf (p_C_10 _) (hC.car c hc) (Nat.le_of_ble_eq_true rfl) (kk _ (hC.uCar hc (fun y hy => funext (up2_n hy)) kx_off.set1 ?_) (hO.set (Or.inr (by simp only [carB]; omega))))
  rw [kx_s1 (hC.car c hc)]
  simp [carC, up2]
theorem cF_put4 {E : kx_E} {w w0 : va_W} {n : Nat} {ad : Nat → Nat} {L : Nat → List Nat} {V S : Nat → Nat → Int32} {pe bi : Nat → Option Nat} {Y : kx_Y} {z : kx_Z} {pc : Nat} {LL : kx_L} {st : List Value} {kc ks : Nat} {Q : kx_O → va_W → Prop} {idx e : Nat} {v : Int32} (hd : decode Y.1 pc = .ok (.putfield idx, 3)) (hf : kx_F Y.2.2.1 idx 2 4) (hp : kx_P 2 4 false (.int v)) (hC : Cls E w n ad L V S pe bi) (hO : kx_off w0 w clsN) (he : endN n e)
    (kk : ∀ w1, Cls E w1 n ad L V (up2 S (e + 5) 4 v) pe bi → kx_off w0 w1 clsN → kx_R E Y z (pc + 3) LL st w1 kc ks Q) : kx_R E Y z pc LL (.int v :: .ref (ad (e + 5)) :: st) w kc ks Q := by
  refine kx_put hd hf hp (hC.frm e he) (Nat.le_of_ble_eq_true rfl) (kk _ (hC.uFrm he (fun y hy => funext (up2_n hy)) kx_off.set1 ?_) (hO.set (Or.inr (by unfold endN at he; omega))))
  rw [kx_s1 (hC.frm e he)]
  simp [frmC, up2]
theorem cF_put5 {E : kx_E} {w w0 : va_W} {n : Nat} {ad : Nat → Nat} {L : Nat → List Nat} {V S : Nat → Nat → Int32} {pe bi : Nat → Option Nat} {Y : kx_Y} {z : kx_Z} {pc : Nat} {LL : kx_L} {st : List Value} {kc ks : Nat} {Q : kx_O → va_W → Prop} {idx e : Nat} {v : Int32} (hd : decode Y.1 pc = .ok (.putfield idx, 3)) (hf : kx_F Y.2.2.1 idx 2 5) (hp : kx_P 2 5 false (.int v)) (hC : Cls E w n ad L V S pe bi) (hO : kx_off w0 w clsN) (he : endN n e)
    (kk : ∀ w1, Cls E w1 n ad L V (up2 S (e + 5) 5 v) pe bi → kx_off w0 w1 clsN → kx_R E Y z (pc + 3) LL st w1 kc ks Q) : kx_R E Y z pc LL (.int v :: .ref (ad (e + 5)) :: st) w kc ks Q := by
  refine kx_put hd hf hp (hC.frm e he) (Nat.le_of_ble_eq_true rfl) (kk _ (hC.uFrm he (fun y hy => funext (up2_n hy)) kx_off.set1 ?_) (hO.set (Or.inr (by unfold endN at he; omega))))
  rw [kx_s1 (hC.frm e he)]
  simp [frmC, up2]
theorem cB_put4 {E : kx_E} {w w0 : va_W} {n : Nat} {ad : Nat → Nat} {L : Nat → List Nat} {V S : Nat → Nat → Int32} {pe bi : Nat → Option Nat} {Y : kx_Y} {z : kx_Z} {pc : Nat} {LL : kx_L} {st : List Value} {kc ks : Nat} {Q : kx_O → va_W → Prop} {idx : Nat} {v : Int32} (hd : decode Y.1 pc = .ok (.putfield idx, 3)) (hf : kx_F Y.2.2.1 idx 4 4) (hC : Cls E w n ad L V S pe bi) (hO : kx_off w0 w clsN)
    (kk : ∀ w1, Cls E w1 n ad L V (up2 S 0 4 v) pe bi → kx_off w0 w1 clsN → kx_R E Y z (pc + 3) LL st w1 kc ks Q) : kx_R E Y z pc LL (.int v :: .ref (ad 0) :: st) w kc ks Q := by
  refine kx_put hd hf (p_B_4 _) hC.bus (Nat.le_of_ble_eq_true rfl) (kk _ (hC.uBus (fun y hy => funext (up2_n hy)) kx_off.set1 ?_) (hO.set (Or.inl (by decide))))
  rw [kx_s1 hC.bus]
  simp [busC, up2]
theorem cB_put5 {E : kx_E} {w w0 : va_W} {n : Nat} {ad : Nat → Nat} {L : Nat → List Nat} {V S : Nat → Nat → Int32} {pe bi : Nat → Option Nat} {Y : kx_Y} {z : kx_Z} {pc : Nat} {LL : kx_L} {st : List Value} {kc ks : Nat} {Q : kx_O → va_W → Prop} {idx : Nat} {v : Int32} (hd : decode Y.1 pc = .ok (.putfield idx, 3)) (hf : kx_F Y.2.2.1 idx 4 5) (hC : Cls E w n ad L V S pe bi) (hO : kx_off w0 w clsN)
    (kk : ∀ w1, Cls E w1 n ad L V (up2 S 0 5 v) pe bi → kx_off w0 w1 clsN → kx_R E Y z (pc + 3) LL st w1 kc ks Q) : kx_R E Y z pc LL (.int v :: .ref (ad 0) :: st) w kc ks Q := by
  refine kx_put hd hf (p_B_5 _) hC.bus (Nat.le_of_ble_eq_true rfl) (kk _ (hC.uBus (fun y hy => funext (up2_n hy)) kx_off.set1 ?_) (hO.set (Or.inl (by decide))))
  rw [kx_s1 hC.bus]
  simp [busC, up2]
theorem cB_put6 {E : kx_E} {w w0 : va_W} {n : Nat} {ad : Nat → Nat} {L : Nat → List Nat} {V S : Nat → Nat → Int32} {pe bi : Nat → Option Nat} {Y : kx_Y} {z : kx_Z} {pc : Nat} {LL : kx_L} {st : List Value} {kc ks : Nat} {Q : kx_O → va_W → Prop} {idx : Nat} {v : Int32} (hd : decode Y.1 pc = .ok (.putfield idx, 3)) (hf : kx_F Y.2.2.1 idx 4 6) (hC : Cls E w n ad L V S pe bi) (hO : kx_off w0 w clsN)
    (kk : ∀ w1, Cls E w1 n ad L V (up2 S 0 6 v) pe bi → kx_off w0 w1 clsN → kx_R E Y z (pc + 3) LL st w1 kc ks Q) : kx_R E Y z pc LL (.int v :: .ref (ad 0) :: st) w kc ks Q := by
  refine kx_put hd hf (p_B_6 _) hC.bus (Nat.le_of_ble_eq_true rfl) (kk _ (hC.uBus (fun y hy => funext (up2_n hy)) kx_off.set1 ?_) (hO.set (Or.inl (by decide))))
  rw [kx_s1 hC.bus]
  simp [busC, up2]
theorem cB_put7 {E : kx_E} {w w0 : va_W} {n : Nat} {ad : Nat → Nat} {L : Nat → List Nat} {V S : Nat → Nat → Int32} {pe bi : Nat → Option Nat} {Y : kx_Y} {z : kx_Z} {pc : Nat} {LL : kx_L} {st : List Value} {kc ks : Nat} {Q : kx_O → va_W → Prop} {idx : Nat} {v : Int32} (hd : decode Y.1 pc = .ok (.putfield idx, 3)) (hf : kx_F Y.2.2.1 idx 4 7) (hC : Cls E w n ad L V S pe bi) (hO : kx_off w0 w clsN)
    (kk : ∀ w1, Cls E w1 n ad L V (up2 S 0 7 v) pe bi → kx_off w0 w1 clsN → kx_R E Y z (pc + 3) LL st w1 kc ks Q) : kx_R E Y z pc LL (.int v :: .ref (ad 0) :: st) w kc ks Q := by
  refine kx_put hd hf (p_B_7 _) hC.bus (Nat.le_of_ble_eq_true rfl) (kk _ (hC.uBus (fun y hy => funext (up2_n hy)) kx_off.set1 ?_) (hO.set (Or.inl (by decide))))
  rw [kx_s1 hC.bus]
  simp [busC, up2]
theorem cB_put8 {E : kx_E} {w w0 : va_W} {n : Nat} {ad : Nat → Nat} {L : Nat → List Nat} {V S : Nat → Nat → Int32} {pe bi : Nat → Option Nat} {Y : kx_Y} {z : kx_Z} {pc : Nat} {LL : kx_L} {st : List Value} {kc ks : Nat} {Q : kx_O → va_W → Prop} {idx : Nat} {v : Int32} (hd : decode Y.1 pc = .ok (.putfield idx, 3)) (hf : kx_F Y.2.2.1 idx 4 8) (hC : Cls E w n ad L V S pe bi) (hO : kx_off w0 w clsN)
    (kk : ∀ w1, Cls E w1 n ad L V (up2 S 0 8 v) pe bi → kx_off w0 w1 clsN → kx_R E Y z (pc + 3) LL st w1 kc ks Q) : kx_R E Y z pc LL (.int v :: .ref (ad 0) :: st) w kc ks Q := by
  refine kx_put hd hf (p_B_8 _) hC.bus (Nat.le_of_ble_eq_true rfl) (kk _ (hC.uBus (fun y hy => funext (up2_n hy)) kx_off.set1 ?_) (hO.set (Or.inl (by decide))))
  rw [kx_s1 hC.bus]
  simp [busC, up2]
theorem cV_put {E : kx_E} {w w0 : va_W} {n : Nat} {ad : Nat → Nat} {L : Nat → List Nat} {V S : Nat → Nat → Int32} {pe bi : Nat → Option Nat} {Y : kx_Y} {z : kx_Z} {pc : Nat} {LL : kx_L} {st : List Value} {kc ks : Nat} {Q : kx_O → va_W → Prop} {v i : Nat} {u : Int32} (hd : decode Y.1 pc = .ok (.iastore, 1)) (hC : Cls E w n ad L V S pe bi) (hO : kx_off w0 w clsN) (hv : intN n v) (hi : i < 24)
    (kk : ∀ w1, Cls E w1 n ad L (up1 V v (upd (V v) i u)) S pe bi → kx_off w0 w1 clsN → kx_R E Y z (pc + 1) LL st w1 kc ks Q) : kx_R E Y z pc LL (.int u :: .int (nI i) :: .ref (ad v) :: st) w kc ks Q := by
  obtain ⟨g, h1, h2⟩ := hC.int v hv
  exact kx_iast hd h1 hi (by decide) (kk _ (hC.uInt hv kx_off.set1 ⟨_, kx_s1 h1, fun j hj => by unfold upd; split; rfl; exact h2 j hj⟩) (hO.set (intN_cls hv)))
theorem cV_get {E : kx_E} {w : va_W} {n : Nat} {ad : Nat → Nat} {L : Nat → List Nat} {V S : Nat → Nat → Int32} {pe bi : Nat → Option Nat} {Y : kx_Y} {z : kx_Z} {pc : Nat} {LL : kx_L} {st : List Value} {kc ks : Nat} {Q : kx_O → va_W → Prop} {v i : Nat} (hd : decode Y.1 pc = .ok (.iaload, 1)) (hC : Cls E w n ad L V S pe bi) (hv : intN n v) (hi : i < 24)
    (kk : kx_R E Y z (pc + 1) LL (.int (V v i) :: st) w kc ks Q) : kx_R E Y z pc LL (.int (nI i) :: .ref (ad v) :: st) w kc ks Q := by
  obtain ⟨g, h1, h2⟩ := hC.int v hv
  refine kx_iald hd h1 hi (by decide) ?_
  rw [h2 i hi]
  exact kk
theorem cV_copy {E : kx_E} {w w0 : va_W} {n : Nat} {ad : Nat → Nat} {L : Nat → List Nat} {V S : Nat → Nat → Int32} {pe bi : Nat → Option Nat} {Y : kx_Y} {z : kx_Z} {pc : Nat} {LL : kx_L} {st : List Value} {kc ks : Nat} {Q : kx_O → va_W → Prop} {idx v v1 m : Nat} (hd : decode Y.1 pc = .ok (.invokestatic idx, 3)) (hc : kx_CP Y.2.2.1 idx) (hC : Cls E w n ad L V S pe bi) (hO : kx_off w0 w clsN) (hv : intN n v) (hv1 : intN n v1) (hm : m ≤ 24) (hst : (st.map fun v => v.category).sum ≤ 8) (hdl : 1 ≤ Y.2.2.2.2.2.2.2.1)
    (kk : ∀ w1, Cls E w1 n ad L (up1 V v1 (fun i => if i < m then V v i else V v1 i)) S pe bi → kx_off w0 w1 clsN → kx_R E Y z (pc + 3) LL st w1 kc ks Q) : kx_R E Y z pc LL (.int (nI m) :: .int (nI 0) :: .ref (ad v1) :: .int (nI 0) :: .ref (ad v) :: st) w kc ks Q := by
  obtain ⟨g, h1, h2⟩ := hC.int v hv
  obtain ⟨g1, h3, h4⟩ := hC.int v1 hv1
  refine kx_copy hd hc h1 h3 (by decide) (by decide) (by omega) (by omega) hst hdl (kk _ (hC.uInt hv1 kx_off.set1 ⟨_, kx_s1 h3, fun j hj => ?_⟩) (hO.set (intN_cls hv1)))
  by_cases e : j < m
  · rw [pk_cpy_in (by omega) (by omega), if_pos e, show 0 + (j - 0) = j by omega, h2 j hj]
  · rw [pk_cpy_out (Or.inr (by omega)), if_neg e, h4 j hj]
def carE (c i : Nat) : Nat := if i = 0 then carB c + 2 else carB c + 14
theorem carE_N {n c i : Nat} (hc : c < n) : endN n (carE c i) := by unfold carE; split; exact end0N hc; exact end1N hc
theorem cA_end {E : kx_E} {w : va_W} {n : Nat} {ad : Nat → Nat} {L : Nat → List Nat} {V S : Nat → Nat → Int32} {pe bi : Nat → Option Nat} {Y : kx_Y} {z : kx_Z} {pc : Nat} {LL : kx_L} {st : List Value} {kc ks : Nat} {Q : kx_O → va_W → Prop} {c i : Nat} (hd : decode Y.1 pc = .ok (.aaload, 1)) (hC : Cls E w n ad L V S pe bi) (hc : c < n) (hi : i < 2)
    (kk : kx_R E Y z (pc + 1) LL (.ref (ad (carE c i)) :: st) w kc ks Q) : kx_R E Y z pc LL (.int (nI i) :: .ref (ad (carB c + 1)) :: st) w kc ks Q := by
  obtain ⟨f, h1, h2, h3⟩ := hC.arr c hc
  refine kx_aald hd h1 rfl hi (by decide) ?_
  have e : f i = some (ad (carE c i)) := by
    unfold carE
    by_cases h : i = 0
    · subst h; exact h2
    · have : i = 1 := by omega
      subst this; exact h3
  rw [e]
  exact kk
theorem kx_off.row {w w0 w1 : va_W} {n x : Nat} (hO : kx_off w0 w clsN) (hx : rowN n x) (ho : kx_off w w1 (RowP x (x + 1))) : kx_off w0 w1 clsN :=
  hO.tr ho (fun _ h => h) (fun m h => by rcases h with rfl | rfl; exact (rowN_cls hx).1; exact (rowN_cls hx).2)
theorem Cls.rowObj {E : kx_E} {w : va_W} {n : Nat} {ad : Nat → Nat} {L : Nat → List Nat} {V S : Nat → Nat → Int32} {pe bi : Nat → Option Nat} (h : Cls E w n ad L V S pe bi) {x : Nat} (hx : rowN n x) : w[x]? = some (ad x, .inr (3, [.ref (ad (x + 1)), .int (nI (L x).length)])) := (h.row x hx).1
theorem cR_clear {E : kx_E} {w w0 : va_W} {n : Nat} {ad : Nat → Nat} {L : Nat → List Nat} {V S : Nat → Nat → Int32} {pe bi : Nat → Option Nat} {Y : kx_Y} {z : kx_Z} {pc : Nat} {LL : kx_L} {st : List Value} {kc ks : Nat} {Q : kx_O → va_W → Prop} {idx x : Nat} (hd : decode Y.1 pc = .ok (.invokevirtual idx, 3)) (hl : kx_LV Y.2.2.1 idx 0 Y_R_clear) (hC : Cls E w n ad L V S pe bi) (hO : kx_off w0 w clsN) (hx : rowN n x)  (hlv : 2 ≤ Y.2.2.2.2.2.2.2.1) (hst : (st.map fun v => v.category).sum ≤ 8) (h1 : kc ≤ Y.2.2.2.2.2.1) (h2 : ks ≤ Y.2.2.2.2.2.2.1)
    (kk : ∀ w1, Cls E w1 n ad (up1 L x ([])) V S pe bi → kx_off w0 w1 clsN → kx_R E Y z (pc + 3) LL st w1 kc ks Q) : kx_R E Y z pc LL (.ref (ad x) :: st) w kc ks Q := by
  refine kx_callV (as := []) (rest := st) hd hl rfl (hC.rowObj hx) rfl rfl hlv (by decide) hst h1 h2 rfl (m_R_clear (hC.row x hx)) (fun X w1 h => by cases h.1) (fun v w1 hq => ?_)
  obtain ⟨hv, hr, ho⟩ := hq
  cases hv
  exact kk w1 (hC.uRow hx ho hr) (hO.row hx ho)
theorem cR_append {E : kx_E} {w w0 : va_W} {n : Nat} {ad : Nat → Nat} {L : Nat → List Nat} {V S : Nat → Nat → Int32} {pe bi : Nat → Option Nat} {Y : kx_Y} {z : kx_Z} {pc : Nat} {LL : kx_L} {st : List Value} {kc ks : Nat} {Q : kx_O → va_W → Prop} {idx x : Nat} (hd : decode Y.1 pc = .ok (.invokevirtual idx, 3)) (hl : kx_LV Y.2.2.1 idx 1 Y_R_append) (hC : Cls E w n ad L V S pe bi) (hO : kx_off w0 w clsN) (hx : rowN n x) {u : Nat} (hu : u < 512) (hlv : 2 ≤ Y.2.2.2.2.2.2.2.1) (hst : (st.map fun v => v.category).sum ≤ 8) (h1 : kc ≤ Y.2.2.2.2.2.1) (h2 : ks ≤ Y.2.2.2.2.2.2.1)
    (kk : ∀ w1, Cls E w1 n ad (up1 L x (if (L x).length < 24 then L x ++ [u] else L x)) V S pe bi → kx_off w0 w1 clsN → kx_R E Y z (pc + 3) LL st w1 kc ks Q) : kx_R E Y z pc LL (.int (nI u) :: .ref (ad x) :: st) w kc ks Q := by
  refine kx_callV (as := [.int (nI u)]) (rest := st) hd hl rfl (hC.rowObj hx) rfl rfl hlv (by decide) hst h1 h2 rfl (m_R_append (hC.row x hx) hu) (fun X w1 h => by cases h.1) (fun v w1 hq => ?_)
  obtain ⟨hv, hr, ho⟩ := hq
  cases hv
  exact kk w1 (hC.uRow hx ho hr) (hO.row hx ho)
theorem cR_turnRound {E : kx_E} {w w0 : va_W} {n : Nat} {ad : Nat → Nat} {L : Nat → List Nat} {V S : Nat → Nat → Int32} {pe bi : Nat → Option Nat} {Y : kx_Y} {z : kx_Z} {pc : Nat} {LL : kx_L} {st : List Value} {kc ks : Nat} {Q : kx_O → va_W → Prop} {idx x : Nat} (hd : decode Y.1 pc = .ok (.invokevirtual idx, 3)) (hl : kx_LV Y.2.2.1 idx 0 Y_R_turnRound) (hC : Cls E w n ad L V S pe bi) (hO : kx_off w0 w clsN) (hx : rowN n x)  (hlv : 2 ≤ Y.2.2.2.2.2.2.2.1) (hst : (st.map fun v => v.category).sum ≤ 8) (h1 : kc ≤ Y.2.2.2.2.2.1) (h2 : ks ≤ Y.2.2.2.2.2.2.1)
    (kk : ∀ w1, Cls E w1 n ad (up1 L x (rowTurn (L x))) V S pe bi → kx_off w0 w1 clsN → kx_R E Y z (pc + 3) LL st w1 kc ks Q) : kx_R E Y z pc LL (.ref (ad x) :: st) w kc ks Q := by
  refine kx_callV (as := []) (rest := st) hd hl rfl (hC.rowObj hx) rfl rfl hlv (by decide) hst h1 h2 rfl (m_R_turnRound (hC.row x hx)) (fun X w1 h => by cases h.1) (fun v w1 hq => ?_)
  obtain ⟨hv, hr, ho⟩ := hq
  cases hv
  exact kk w1 (hC.uRow hx ho hr) (hO.row hx ho)
theorem cR_copyFrom {E : kx_E} {w w0 : va_W} {n : Nat} {ad : Nat → Nat} {L : Nat → List Nat} {V S : Nat → Nat → Int32} {pe bi : Nat → Option Nat} {Y : kx_Y} {z : kx_Z} {pc : Nat} {LL : kx_L} {st : List Value} {kc ks : Nat} {Q : kx_O → va_W → Prop} {idx x : Nat} (hd : decode Y.1 pc = .ok (.invokevirtual idx, 3)) (hl : kx_LV Y.2.2.1 idx 1 Y_R_copyFrom) (hC : Cls E w n ad L V S pe bi) (hO : kx_off w0 w clsN) (hx : rowN n x) {y : Nat} (hy : rowN n y) (hxy : x ≠ y) (hlv : 2 ≤ Y.2.2.2.2.2.2.2.1) (hst : (st.map fun v => v.category).sum ≤ 8) (h1 : kc ≤ Y.2.2.2.2.2.1) (h2 : ks ≤ Y.2.2.2.2.2.2.1)
    (kk : ∀ w1, Cls E w1 n ad (up1 L x (L y)) V S pe bi → kx_off w0 w1 clsN → kx_R E Y z (pc + 3) LL st w1 kc ks Q) : kx_R E Y z pc LL (.ref (ad y) :: .ref (ad x) :: st) w kc ks Q := by
  refine kx_callV (as := [.ref (ad y)]) (rest := st) hd hl rfl (hC.rowObj hx) rfl rfl hlv (by decide) hst h1 h2 rfl (m_R_copyFrom (hC.row x hx) (hC.row y hy) (Ne.symm hxy) (by omega)) (fun X w1 h => by cases h.1) (fun v w1 hq => ?_)
  obtain ⟨hv, hr, ho⟩ := hq
  cases hv
  exact kk w1 (hC.uRow hx ho hr) (hO.row hx ho)
theorem cR_appendAll {E : kx_E} {w w0 : va_W} {n : Nat} {ad : Nat → Nat} {L : Nat → List Nat} {V S : Nat → Nat → Int32} {pe bi : Nat → Option Nat} {Y : kx_Y} {z : kx_Z} {pc : Nat} {LL : kx_L} {st : List Value} {kc ks : Nat} {Q : kx_O → va_W → Prop} {idx x : Nat} (hd : decode Y.1 pc = .ok (.invokevirtual idx, 3)) (hl : kx_LV Y.2.2.1 idx 1 Y_R_appendAll) (hC : Cls E w n ad L V S pe bi) (hO : kx_off w0 w clsN) (hx : rowN n x) {y : Nat} (hy : rowN n y) (hxy : x ≠ y) (hlv : 2 ≤ Y.2.2.2.2.2.2.2.1) (hst : (st.map fun v => v.category).sum ≤ 8) (h1 : kc ≤ Y.2.2.2.2.2.1) (h2 : ks ≤ Y.2.2.2.2.2.2.1)
    (kk : ∀ w1, Cls E w1 n ad (up1 L x ((L x ++ L y).take 24)) V S pe bi → kx_off w0 w1 clsN → kx_R E Y z (pc + 3) LL st w1 kc ks Q) : kx_R E Y z pc LL (.ref (ad y) :: .ref (ad x) :: st) w kc ks Q := by
  refine kx_callV (as := [.ref (ad y)]) (rest := st) hd hl rfl (hC.rowObj hx) rfl rfl hlv (by decide) hst h1 h2 rfl (m_R_appendAll (hC.row x hx) (hC.row y hy) (Ne.symm hxy) (by omega)) (fun X w1 h => by cases h.1) (fun v w1 hq => ?_)
  obtain ⟨hv, hr, ho⟩ := hq
  cases hv
  exact kk w1 (hC.uRow hx ho hr) (hO.row hx ho)
theorem cR_isSameAs {E : kx_E} {w : va_W} {n : Nat} {ad : Nat → Nat} {L : Nat → List Nat} {V S : Nat → Nat → Int32} {pe bi : Nat → Option Nat} {Y : kx_Y} {z : kx_Z} {pc : Nat} {LL : kx_L} {st : List Value} {kc ks : Nat} {Q : kx_O → va_W → Prop} {idx x : Nat} (hd : decode Y.1 pc = .ok (.invokevirtual idx, 3)) (hl : kx_LV Y.2.2.1 idx 1 Y_R_isSameAs) (hC : Cls E w n ad L V S pe bi) (hx : rowN n x) {y : Nat} (hy : rowN n y) (hlv : 2 ≤ Y.2.2.2.2.2.2.2.1) (hst : (st.map fun v => v.category).sum ≤ 8) (h1 : kc ≤ Y.2.2.2.2.2.1) (h2 : ks ≤ Y.2.2.2.2.2.2.1)
    (kk : kx_R E Y z (pc + 3) LL (.int (nI (if L x = L y then 1 else 0)) :: st) w kc ks Q) : kx_R E Y z pc LL (.ref (ad y) :: .ref (ad x) :: st) w kc ks Q := by
  refine kx_callV (as := [.ref (ad y)]) (rest := st) hd hl rfl (hC.rowObj hx) rfl rfl hlv (by decide) hst h1 h2 rfl (m_R_isSameAs (hC.row x hx) (hC.row y hy)) (fun X w1 h => by cases h.1) (fun v w1 hq => ?_)
  obtain ⟨hv, hw⟩ := hq
  cases hv
  subst hw
  exact kk
theorem cR_numberOf {E : kx_E} {w : va_W} {n : Nat} {ad : Nat → Nat} {L : Nat → List Nat} {V S : Nat → Nat → Int32} {pe bi : Nat → Option Nat} {Y : kx_Y} {z : kx_Z} {pc : Nat} {LL : kx_L} {st : List Value} {kc ks : Nat} {Q : kx_O → va_W → Prop} {idx x : Nat} (hd : decode Y.1 pc = .ok (.invokevirtual idx, 3)) (hl : kx_LV Y.2.2.1 idx 1 Y_R_numberOf) (hC : Cls E w n ad L V S pe bi) (hx : rowN n x) {i : Nat} (hi : i < 2 ^ 31) (hlv : 2 ≤ Y.2.2.2.2.2.2.2.1) (hst : (st.map fun v => v.category).sum ≤ 8) (h1 : kc ≤ Y.2.2.2.2.2.1) (h2 : ks ≤ Y.2.2.2.2.2.2.1)
    (kk : kx_R E Y z (pc + 3) LL (.int (nI (rowNo i (L x) 0)) :: st) w kc ks Q) : kx_R E Y z pc LL (.int (nI i) :: .ref (ad x) :: st) w kc ks Q := by
  refine kx_callV (as := [.int (nI i)]) (rest := st) hd hl rfl (hC.rowObj hx) rfl rfl hlv (by decide) hst h1 h2 rfl (m_R_numberOf (hC.row x hx) hi) (fun X w1 h => by cases h.1) (fun v w1 hq => ?_)
  obtain ⟨hv, hw⟩ := hq
  cases hv
  subst hw
  exact kk
theorem cR_itemAt {E : kx_E} {w : va_W} {n : Nat} {ad : Nat → Nat} {L : Nat → List Nat} {V S : Nat → Nat → Int32} {pe bi : Nat → Option Nat} {Y : kx_Y} {z : kx_Z} {pc : Nat} {LL : kx_L} {st : List Value} {kc ks : Nat} {Q : kx_O → va_W → Prop} {idx x : Nat} (hd : decode Y.1 pc = .ok (.invokevirtual idx, 3)) (hl : kx_LV Y.2.2.1 idx 1 Y_R_itemAt) (hC : Cls E w n ad L V S pe bi) (hx : rowN n x) {j : Nat} (hj : j < (L x).length) (hlv : 2 ≤ Y.2.2.2.2.2.2.2.1) (hst : (st.map fun v => v.category).sum ≤ 8) (h1 : kc ≤ Y.2.2.2.2.2.1) (h2 : ks ≤ Y.2.2.2.2.2.2.1)
    (kk : kx_R E Y z (pc + 3) LL (.int (nI ((L x).getD j 0)) :: st) w kc ks Q) : kx_R E Y z pc LL (.int (nI j) :: .ref (ad x) :: st) w kc ks Q := by
  refine kx_callV (as := [.int (nI j)]) (rest := st) hd hl rfl (hC.rowObj hx) rfl rfl hlv (by decide) hst h1 h2 rfl (m_R_itemAt (hC.row x hx) hj) (fun X w1 h => by cases h.1) (fun v w1 hq => ?_)
  obtain ⟨hv, hw⟩ := hq
  cases hv
  subst hw
  exact kk
theorem cR_itemAt_no {E : kx_E} {w : va_W} {n : Nat} {ad : Nat → Nat} {L : Nat → List Nat} {V S : Nat → Nat → Int32} {pe bi : Nat → Option Nat} {Y : kx_Y} {z : kx_Z} {pc : Nat} {LL : kx_L} {st : List Value} {kc ks : Nat} {Q : kx_O → va_W → Prop} {idx x : Nat} (hd : decode Y.1 pc = .ok (.invokevirtual idx, 3)) (hl : kx_LV Y.2.2.1 idx 1 Y_R_itemAt) (hC : Cls E w n ad L V S pe bi) (hx : rowN n x) {u : Int32} (hu : u < 0 ∨ nI (L x).length ≤ u) (hlv : 2 ≤ Y.2.2.2.2.2.2.2.1) (hst : (st.map fun v => v.category).sum ≤ 8) (h1 : kc ≤ Y.2.2.2.2.2.1) (h2 : ks ≤ Y.2.2.2.2.2.2.1)
    (kk : kx_R E Y z (pc + 3) LL (.int (-1) :: st) w kc ks Q) : kx_R E Y z pc LL (.int u :: .ref (ad x) :: st) w kc ks Q := by
  refine kx_callV (as := [.int u]) (rest := st) hd hl rfl (hC.rowObj hx) rfl rfl hlv (by decide) hst h1 h2 rfl (m_R_itemAt_no (hC.row x hx) hu) (fun X w1 h => by cases h.1) (fun v w1 hq => ?_)
  obtain ⟨hv, hw⟩ := hq
  cases hv
  subst hw
  exact kk
theorem cR_idAt {E : kx_E} {w : va_W} {n : Nat} {ad : Nat → Nat} {L : Nat → List Nat} {V S : Nat → Nat → Int32} {pe bi : Nat → Option Nat} {Y : kx_Y} {z : kx_Z} {pc : Nat} {LL : kx_L} {st : List Value} {kc ks : Nat} {Q : kx_O → va_W → Prop} {idx x : Nat} (hd : decode Y.1 pc = .ok (.invokevirtual idx, 3)) (hl : kx_LV Y.2.2.1 idx 1 Y_R_idAt) (hC : Cls E w n ad L V S pe bi) (hx : rowN n x) {j : Nat} (hj : j < (L x).length) (hlv : 2 ≤ Y.2.2.2.2.2.2.2.1) (hst : (st.map fun v => v.category).sum ≤ 8) (h1 : kc ≤ Y.2.2.2.2.2.1) (h2 : ks ≤ Y.2.2.2.2.2.2.1)
    (kk : kx_R E Y z (pc + 3) LL (.int (nI ((L x).getD j 0 / 2)) :: st) w kc ks Q) : kx_R E Y z pc LL (.int (nI (j + 1)) :: .ref (ad x) :: st) w kc ks Q := by
  refine kx_callV (as := [.int (nI (j + 1))]) (rest := st) hd hl rfl (hC.rowObj hx) rfl rfl hlv (by decide) hst h1 h2 rfl (m_R_idAt (hC.row x hx) hj) (fun X w1 h => by cases h.1) (fun v w1 hq => ?_)
  obtain ⟨hv, hw⟩ := hq
  cases hv
  subst hw
  exact kk
theorem cR_idAt_no {E : kx_E} {w : va_W} {n : Nat} {ad : Nat → Nat} {L : Nat → List Nat} {V S : Nat → Nat → Int32} {pe bi : Nat → Option Nat} {Y : kx_Y} {z : kx_Z} {pc : Nat} {LL : kx_L} {st : List Value} {kc ks : Nat} {Q : kx_O → va_W → Prop} {idx x : Nat} (hd : decode Y.1 pc = .ok (.invokevirtual idx, 3)) (hl : kx_LV Y.2.2.1 idx 1 Y_R_idAt) (hC : Cls E w n ad L V S pe bi) (hx : rowN n x) {u : Int32} (hu : u < nI 1 ∨ nI (L x).length < u) (hlv : 2 ≤ Y.2.2.2.2.2.2.2.1) (hst : (st.map fun v => v.category).sum ≤ 8) (h1 : kc ≤ Y.2.2.2.2.2.1) (h2 : ks ≤ Y.2.2.2.2.2.2.1)
    (kk : kx_R E Y z (pc + 3) LL (.int (-1) :: st) w kc ks Q) : kx_R E Y z pc LL (.int u :: .ref (ad x) :: st) w kc ks Q := by
  refine kx_callV (as := [.int u]) (rest := st) hd hl rfl (hC.rowObj hx) rfl rfl hlv (by decide) hst h1 h2 rfl (m_R_idAt_no (hC.row x hx) hu) (fun X w1 h => by cases h.1) (fun v w1 hq => ?_)
  obtain ⟨hv, hw⟩ := hq
  cases hv
  subst hw
  exact kk
theorem cR_endAt {E : kx_E} {w : va_W} {n : Nat} {ad : Nat → Nat} {L : Nat → List Nat} {V S : Nat → Nat → Int32} {pe bi : Nat → Option Nat} {Y : kx_Y} {z : kx_Z} {pc : Nat} {LL : kx_L} {st : List Value} {kc ks : Nat} {Q : kx_O → va_W → Prop} {idx x : Nat} (hd : decode Y.1 pc = .ok (.invokevirtual idx, 3)) (hl : kx_LV Y.2.2.1 idx 1 Y_R_endAt) (hC : Cls E w n ad L V S pe bi) (hx : rowN n x) {j : Nat} (hj : j < (L x).length) (hlv : 2 ≤ Y.2.2.2.2.2.2.2.1) (hst : (st.map fun v => v.category).sum ≤ 8) (h1 : kc ≤ Y.2.2.2.2.2.1) (h2 : ks ≤ Y.2.2.2.2.2.2.1)
    (kk : kx_R E Y z (pc + 3) LL (.int (nI ((L x).getD j 0 % 2)) :: st) w kc ks Q) : kx_R E Y z pc LL (.int (nI (j + 1)) :: .ref (ad x) :: st) w kc ks Q := by
  refine kx_callV (as := [.int (nI (j + 1))]) (rest := st) hd hl rfl (hC.rowObj hx) rfl rfl hlv (by decide) hst h1 h2 rfl (m_R_endAt (hC.row x hx) hj) (fun X w1 h => by cases h.1) (fun v w1 hq => ?_)
  obtain ⟨hv, hw⟩ := hq
  cases hv
  subst hw
  exact kk
theorem cR_endAt_no {E : kx_E} {w : va_W} {n : Nat} {ad : Nat → Nat} {L : Nat → List Nat} {V S : Nat → Nat → Int32} {pe bi : Nat → Option Nat} {Y : kx_Y} {z : kx_Z} {pc : Nat} {LL : kx_L} {st : List Value} {kc ks : Nat} {Q : kx_O → va_W → Prop} {idx x : Nat} (hd : decode Y.1 pc = .ok (.invokevirtual idx, 3)) (hl : kx_LV Y.2.2.1 idx 1 Y_R_endAt) (hC : Cls E w n ad L V S pe bi) (hx : rowN n x) {u : Int32} (hu : u < nI 1 ∨ nI (L x).length < u) (hlv : 2 ≤ Y.2.2.2.2.2.2.2.1) (hst : (st.map fun v => v.category).sum ≤ 8) (h1 : kc ≤ Y.2.2.2.2.2.1) (h2 : ks ≤ Y.2.2.2.2.2.2.1)
    (kk : kx_R E Y z (pc + 3) LL (.int (-1) :: st) w kc ks Q) : kx_R E Y z pc LL (.int u :: .ref (ad x) :: st) w kc ks Q := by
  refine kx_callV (as := [.int u]) (rest := st) hd hl rfl (hC.rowObj hx) rfl rfl hlv (by decide) hst h1 h2 rfl (m_R_endAt_no (hC.row x hx) hu) (fun X w1 h => by cases h.1) (fun v w1 hq => ?_)
  obtain ⟨hv, hw⟩ := hq
  cases hv
  subst hw
  exact kk
theorem cR_hasCarTwice {E : kx_E} {w w0 : va_W} {n : Nat} {ad : Nat → Nat} {L : Nat → List Nat} {V S : Nat → Nat → Int32} {pe bi : Nat → Option Nat} {Y : kx_Y} {z : kx_Z} {pc : Nat} {LL : kx_L} {st : List Value} {kc ks : Nat} {Q : kx_O → va_W → Prop} {idx x : Nat} (hd : decode Y.1 pc = .ok (.invokevirtual idx, 3)) (hl : kx_LV Y.2.2.1 idx 1 Y_R_hasCarTwice) (hC : Cls E w n ad L V S pe bi) (hO : kx_off w0 w clsN) (hx : rowN n x) (hlv : 2 ≤ Y.2.2.2.2.2.2.2.1) (hst : (st.map fun v => v.category).sum ≤ 8) (h1 : kc ≤ Y.2.2.2.2.2.1) (h2 : ks ≤ Y.2.2.2.2.2.2.1)
    (kk : ∀ w1, Cls E w1 n ad L V S pe bi → kx_off w0 w1 clsN → kx_R E Y z (pc + 3) LL (.int (nI (rowTw (L x))) :: st) w1 kc ks Q) : kx_R E Y z pc LL (.ref (ad 3) :: .ref (ad x) :: st) w kc ks Q := by
  refine kx_callV (as := [.ref (ad 3)]) (rest := st) hd hl rfl (hC.rowObj hx) rfl rfl hlv (by decide) hst h1 h2 rfl (m_R_hasCarTwice (hC.row x hx) (m := 3) (by unfold rowN at hx; omega) (by unfold rowN at hx; omega) hC.marks) (fun X w1 h => by cases h.1) (fun v w1 hq => ?_)
  obtain ⟨hv, hr, hm, ho⟩ := hq
  cases hv
  exact kk w1 (hC.uMarks ho hm) (hO.tr ho (fun _ h => h) (fun m h => Or.inl (by omega)))
