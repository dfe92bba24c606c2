/-! the rules once more, for numbers that are small; what a write leaves -/
section KXW
variable {E : kx_E} {Y : kx_Y} {z : kx_Z} {pc : Nat} {L : kx_L} {st : List Value} {w : va_W} {kc ks : Nat} {Q : kx_O → va_W → Prop}
theorem kx_icmp_eq_n {a b : Nat} {off : Int} (tgt : Nat) (hd : decode Y.1 pc = .ok (.if_icmp .eq off, 3)) (ht : (pc : Int) + off = (tgt : Int)) (ha : a < 2 ^ 31) (hb : b < 2 ^ 31) (kt : a = b → kx_R E Y z tgt L st w kc ks Q) (kf : ¬ a = b → kx_R E Y z (pc + 3) L st w kc ks Q) : kx_R E Y z pc L (.int (nI b) :: .int (nI a) :: st) w kc ks Q :=
  kx_icmp_eq tgt hd ht (fun h => kt ((nI_eq ha hb).mp h)) (fun h => kf (fun e => h ((nI_eq ha hb).mpr e)))
theorem kx_icmp_ne_n {a b : Nat} {off : Int} (tgt : Nat) (hd : decode Y.1 pc = .ok (.if_icmp .ne off, 3)) (ht : (pc : Int) + off = (tgt : Int)) (ha : a < 2 ^ 31) (hb : b < 2 ^ 31) (kt : ¬ a = b → kx_R E Y z tgt L st w kc ks Q) (kf : a = b → kx_R E Y z (pc + 3) L st w kc ks Q) : kx_R E Y z pc L (.int (nI b) :: .int (nI a) :: st) w kc ks Q :=
  kx_icmp_ne tgt hd ht (fun h => kt (fun e => h ((nI_eq ha hb).mpr e))) (fun h => kf ((nI_eq ha hb).mp h))
theorem kx_icmp_lt_n {a b : Nat} {off : Int} (tgt : Nat) (hd : decode Y.1 pc = .ok (.if_icmp .lt off, 3)) (ht : (pc : Int) + off = (tgt : Int)) (ha : a < 2 ^ 31) (hb : b < 2 ^ 31) (kt : a < b → kx_R E Y z tgt L st w kc ks Q) (kf : b ≤ a → kx_R E Y z (pc + 3) L st w kc ks Q) : kx_R E Y z pc L (.int (nI b) :: .int (nI a) :: st) w kc ks Q :=
  kx_icmp_lt tgt hd ht (fun h => kt ((nI_ltI ha hb).mp h)) (fun h => kf (Nat.le_of_not_lt (fun e => h ((nI_ltI ha hb).mpr e))))
theorem kx_icmp_ge_n {a b : Nat} {off : Int} (tgt : Nat) (hd : decode Y.1 pc = .ok (.if_icmp .ge off, 3)) (ht : (pc : Int) + off = (tgt : Int)) (ha : a < 2 ^ 31) (hb : b < 2 ^ 31) (kt : b ≤ a → kx_R E Y z tgt L st w kc ks Q) (kf : a < b → kx_R E Y z (pc + 3) L st w kc ks Q) : kx_R E Y z pc L (.int (nI b) :: .int (nI a) :: st) w kc ks Q :=
  kx_icmp_ge tgt hd ht (fun h => kt ((nI_leI hb ha).mp h)) (fun h => kf (Nat.lt_of_not_le (fun e => h ((nI_leI hb ha).mpr e))))
theorem kx_icmp_gt_n {a b : Nat} {off : Int} (tgt : Nat) (hd : decode Y.1 pc = .ok (.if_icmp .gt off, 3)) (ht : (pc : Int) + off = (tgt : Int)) (ha : a < 2 ^ 31) (hb : b < 2 ^ 31) (kt : b < a → kx_R E Y z tgt L st w kc ks Q) (kf : a ≤ b → kx_R E Y z (pc + 3) L st w kc ks Q) : kx_R E Y z pc L (.int (nI b) :: .int (nI a) :: st) w kc ks Q :=
  kx_icmp_gt tgt hd ht (fun h => kt ((nI_ltI hb ha).mp h)) (fun h => kf (Nat.le_of_not_lt (fun e => h ((nI_ltI hb ha).mpr e))))
theorem kx_icmp_le_n {a b : Nat} {off : Int} (tgt : Nat) (hd : decode Y.1 pc = .ok (.if_icmp .le off, 3)) (ht : (pc : Int) + off = (tgt : Int)) (ha : a < 2 ^ 31) (hb : b < 2 ^ 31) (kt : a ≤ b → kx_R E Y z tgt L st w kc ks Q) (kf : b < a → kx_R E Y z (pc + 3) L st w kc ks Q) : kx_R E Y z pc L (.int (nI b) :: .int (nI a) :: st) w kc ks Q :=
  kx_icmp_le tgt hd ht (fun h => kt ((nI_leI ha hb).mp h)) (fun h => kf (Nat.lt_of_not_le (fun e => h ((nI_leI ha hb).mpr e))))
theorem kx_if_eq_n {a : Nat} {off : Int} (tgt : Nat) (hd : decode Y.1 pc = .ok (.ifCond .eq off, 3)) (ht : (pc : Int) + off = (tgt : Int)) (ha : a < 2 ^ 31) (kt : a = 0 → kx_R E Y z tgt L st w kc ks Q) (kf : ¬ a = 0 → kx_R E Y z (pc + 3) L st w kc ks Q) : kx_R E Y z pc L (.int (nI a) :: st) w kc ks Q :=
  kx_if_eq tgt hd ht (fun h => kt ((nI_eq ha (by decide)).mp h)) (fun h => kf (fun e => h ((nI_eq ha (by decide)).mpr e)))
theorem kx_if_ne_n {a : Nat} {off : Int} (tgt : Nat) (hd : decode Y.1 pc = .ok (.ifCond .ne off, 3)) (ht : (pc : Int) + off = (tgt : Int)) (ha : a < 2 ^ 31) (kt : ¬ a = 0 → kx_R E Y z tgt L st w kc ks Q) (kf : a = 0 → kx_R E Y z (pc + 3) L st w kc ks Q) : kx_R E Y z pc L (.int (nI a) :: st) w kc ks Q :=
  kx_if_ne tgt hd ht (fun h => kt (fun e => h ((nI_eq ha (by decide)).mpr e))) (fun h => kf ((nI_eq ha (by decide)).mp h))
theorem kx_if_lt_n {a : Nat} {off : Int} (tgt : Nat) (hd : decode Y.1 pc = .ok (.ifCond .lt off, 3)) (ht : (pc : Int) + off = (tgt : Int)) (ha : a < 2 ^ 31) (kf : kx_R E Y z (pc + 3) L st w kc ks Q) : kx_R E Y z pc L (.int (nI a) :: st) w kc ks Q :=
  kx_if_lt tgt hd ht (fun h => absurd h (nI_pos ha)) (fun _ => kf)
theorem kx_if_ge_n {a : Nat} {off : Int} (tgt : Nat) (hd : decode Y.1 pc = .ok (.ifCond .ge off, 3)) (ht : (pc : Int) + off = (tgt : Int)) (ha : a < 2 ^ 31) (kt : kx_R E Y z tgt L st w kc ks Q) : kx_R E Y z pc L (.int (nI a) :: st) w kc ks Q :=
  kx_if_ge tgt hd ht (fun _ => kt) (fun h => absurd (nI_pos' ha) h)
theorem kx_if_gt_n {a : Nat} {off : Int} (tgt : Nat) (hd : decode Y.1 pc = .ok (.ifCond .gt off, 3)) (ht : (pc : Int) + off = (tgt : Int)) (ha : a < 2 ^ 31) (kt : 0 < a → kx_R E Y z tgt L st w kc ks Q) (kf : a = 0 → kx_R E Y z (pc + 3) L st w kc ks Q) : kx_R E Y z pc L (.int (nI a) :: st) w kc ks Q :=
  kx_if_gt tgt hd ht (fun h => kt ((nI_ltI (by decide) ha).mp h)) (fun h => kf (Nat.eq_zero_of_not_pos (fun e => h ((nI_ltI (by decide) ha).mpr e))))
theorem kx_if_le_n {a : Nat} {off : Int} (tgt : Nat) (hd : decode Y.1 pc = .ok (.ifCond .le off, 3)) (ht : (pc : Int) + off = (tgt : Int)) (ha : a < 2 ^ 31) (kt : a = 0 → kx_R E Y z tgt L st w kc ks Q) (kf : 0 < a → kx_R E Y z (pc + 3) L st w kc ks Q) : kx_R E Y z pc L (.int (nI a) :: st) w kc ks Q :=
  kx_if_le tgt hd ht (fun h => kt (Nat.le_zero.mp ((nI_leI ha (by decide)).mp h))) (fun h => kf (Nat.pos_of_ne_zero (fun e => h ((nI_leI ha (by decide)).mpr (Nat.le_of_eq e)))))
theorem kx_xor (a b : Nat) : nI a ^^^ nI b = nI (a ^^^ b) := by
  apply Int32.toBitVec_inj.mp
  show BitVec.ofNat 32 a ^^^ BitVec.ofNat 32 b = BitVec.ofNat 32 (a ^^^ b)
  apply BitVec.eq_of_toNat_eq
  simp only [BitVec.toNat_xor, BitVec.toNat_ofNat]
  exact (Nat.xor_mod_two_pow).symm
theorem kx_shr1 {n : Nat} (h : n < 2 ^ 31) : nI n >>> (nI 1 &&& 31) = nI (n / 2) := pk_shrN h (nI 1 &&& 31) 1 (by decide +kernel)
theorem kx_and1 {n : Nat} (h : n < 2 ^ 31) : nI n &&& nI 1 = nI (n % 2) := pk_andN (m := nI 1) (by omega) 1 (by decide +kernel)
theorem kx_s1 {x : Nat} {c c1 : Nat × va_E} (h : w[x]? = some c) : (w.set x c1)[x]? = some c1 := List.getElem?_set_self (List.getElem?_eq_some_iff.mp h).1
theorem kx_s2 {x y : Nat} {c1 : Nat × va_E} {r : Option (Nat × va_E)} (hne : y ≠ x) (h : w[y]? = r) : (w.set x c1)[y]? = r := by rw [List.getElem?_set_ne (Ne.symm hne)]; exact h
theorem kx_ne {x y : Nat} {a b : Nat} {e1 e2 : va_E} (h1 : w[x]? = some (a, e1)) (h2 : w[y]? = some (b, e2)) (h : e1 ≠ e2) : x ≠ y := fun e => by subst e; rw [h1] at h2; cases h2; exact h rfl
/-- all but the named stays -/
def kx_off (w w1 : va_W) (P : Nat → Prop) : Prop := w1.length = w.length ∧ ∀ n, ¬ P n → w1[n]? = w[n]?
theorem kx_off.rf {P : Nat → Prop} : kx_off w w P := ⟨rfl, fun _ _ => rfl⟩
theorem kx_off.set {w1 : va_W} {P : Nat → Prop} {x : Nat} {c : Nat × va_E} (h : kx_off w w1 P) (hx : P x) : kx_off w (w1.set x c) P :=
  ⟨by rw [List.length_set]; exact h.1, fun n hn => by rw [List.getElem?_set_ne (fun e => hn (by rw [← e]; exact hx))]; exact h.2 n hn⟩
theorem kx_off.tr {w1 w2 : va_W} {P1 P2 P : Nat → Prop} (h1 : kx_off w w1 P1) (h2 : kx_off w1 w2 P2) (g1 : ∀ n, P1 n → P n) (g2 : ∀ n, P2 n → P n) : kx_off w w2 P :=
  ⟨h2.1.trans h1.1, fun n hn => (h2.2 n (fun e => hn (g2 n e))).trans (h1.2 n (fun e => hn (g1 n e)))⟩
theorem kx_off.at {w1 : va_W} {P : Nat → Prop} {n : Nat} {r : Option (Nat × va_E)} (h : kx_off w w1 P) (hn : ¬ P n) (hr : w[n]? = r) : w1[n]? = r := (h.2 n hn).trans hr
end KXW
section KXG
variable {E : kx_E} {Y : kx_Y} {z : kx_Z} {pc : Nat} {L : kx_L} {st : List Value} {w : va_W} {kc ks : Nat} {Q : kx_O → va_W → Prop}
theorem kx_rf (o : Option Nat) : (va_rf o).isRef = true := by cases o <;> rfl
theorem kx_rfc (o : Option Nat) : (va_rf o).category = 1 := by cases o <;> rfl
def kx_ag : Nat → List Value → kx_L
  | _, [] => []
  | i, v :: vs => (i, v) :: kx_ag (i + 1) vs
def kx_c1 (as : List Value) : Prop := ∀ v ∈ as, v.category = 1
theorem kx_ag_eq : ∀ (as : List Value) (i : Nat), kx_c1 as → lv_args i as = kx_ag i as
  | [], _, _ => rfl
  | v :: vs, i, h => by
    have h1 : v.category = 1 := h v List.mem_cons_self
    show (i, v) :: lv_args (if v.category = 2 then i + 2 else i + 1) vs = (i, v) :: kx_ag (i + 1) vs
    rw [h1, if_neg (by decide), kx_ag_eq vs (i + 1) (fun u hu => h u (List.mem_cons_of_mem _ hu))]
theorem kx_sl_len : ∀ (as : List Value), kx_c1 as → (lg_sl as).length = as.length
  | [], _ => rfl
  | v :: vs, h => by
    have h1 : v.category = 1 := h v List.mem_cons_self
    have h2 := kx_sl_len vs (fun u hu => h u (List.mem_cons_of_mem _ hu))
    unfold lg_sl at h2 ⊢
    rw [List.flatMap_cons, h1, if_neg (by decide), List.length_append, h2]
    simp [Nat.add_comm]
theorem kx_ag_in : ∀ (as : List Value) (i : Nat), kx_c1 as → ∀ q ∈ kx_ag i as, q.2.category = 1
  | [], _, _, q, hq => by cases hq
  | v :: vs, i, h, q, hq => by
    rcases List.mem_cons.mp hq with rfl | hq
    · exact h v List.mem_cons_self
    · exact kx_ag_in vs (i + 1) (fun u hu => h u (List.mem_cons_of_mem _ hu)) q hq
theorem kx_c0 : kx_c1 [] := fun _ h => by cases h
theorem kx_cc {v : Value} {as : List Value} (h : v.category = 1) (t : kx_c1 as) : kx_c1 (v :: as) := fun u hu => by
  rcases List.mem_cons.mp hu with rfl | hu
  · exact h
  · exact t u hu
theorem kx_go {as : List Value} (hy : plainName Y.2.2.2.2.1.cls = true) (hcls : Y.2.2.2.2.1.cls = Y.2.2.1) (hh : Y.2.2.2.2.2.2.2.2 = []) (hn : as.length ≤ Y.2.1) (hc : kx_c1 as)
    (body : ∀ z : kx_Z, kx_R E Y z 0 (kx_ag 0 as) [] w 0 0 Q) : kx_S E Y as w Q :=
  kx_of hy hcls hh (by rw [kx_sl_len as hc]; exact hn) (by rw [kx_ag_eq as 0 hc]; exact kx_ag_in as 0 hc) (by rw [kx_ag_eq as 0 hc]; exact body)
end KXG
