/-! Car: filling, news, frames -/
theorem m_A_fill_pre : True := trivial
theorem d_A_fill_0 : decode c_A_fill 0 = .ok (.iconst 0, 1) := by decide +kernel
theorem d_A_fill_1 : decode c_A_fill 1 = .ok (.istore_n 2, 1) := by decide +kernel
theorem d_A_fill_2 : decode c_A_fill 2 = .ok (.aload_n 0, 1) := by decide +kernel
theorem d_A_fill_3 : decode c_A_fill 3 = .ok (.arraylength, 1) := by decide +kernel
theorem d_A_fill_4 : decode c_A_fill 4 = .ok (.istore_n 3, 1) := by decide +kernel
theorem d_A_fill_5 : decode c_A_fill 5 = .ok (.iload_n 2, 1) := by decide +kernel
theorem d_A_fill_6 : decode c_A_fill 6 = .ok (.iload_n 3, 1) := by decide +kernel
theorem d_A_fill_7 : decode c_A_fill 7 = .ok (.if_icmp .ge 13, 3) := by decide +kernel
theorem d_A_fill_10 : decode c_A_fill 10 = .ok (.aload_n 0, 1) := by decide +kernel
theorem d_A_fill_11 : decode c_A_fill 11 = .ok (.iload_n 2, 1) := by decide +kernel
theorem d_A_fill_12 : decode c_A_fill 12 = .ok (.iload_n 1, 1) := by decide +kernel
theorem d_A_fill_13 : decode c_A_fill 13 = .ok (.iastore, 1) := by decide +kernel
theorem d_A_fill_14 : decode c_A_fill 14 = .ok (.iinc 2 1, 3) := by decide +kernel
theorem d_A_fill_17 : decode c_A_fill 17 = .ok (.goto (-12), 3) := by decide +kernel
theorem d_A_fill_20 : decode c_A_fill 20 = .ok (.return_, 1) := by decide +kernel
set_option maxHeartbeats 2000000 in
theorem l_A_fill {E : kx_E} {w : va_W} {v a : Nat} {u : Int32} {z : kx_Z} : ∀ (m k : Nat) (w1 : va_W) (g : Nat → Int32), m + k = 24 → w1[v]? = some (a, kx_ai E 24 g) → (∀ i, i < k → g i = u) → kx_off w w1 (fun x => x = v) → kx_R E Y_A_fill z 5 [(0, .ref a), (1, .int u), (2, .int (nI k)), (3, .int (nI 24))] [] w1 0 0 (fun o w1 => o = .inl none ∧ (∃ g, w1[v]? = some (a, kx_ai E 24 g) ∧ ∀ i, i < 24 → g i = u) ∧ kx_off w w1 (fun x => x = v)) := by
  intro m
  induction m with
  | zero =>
    intro k w1 g hk hA hg ho
    have hk : k = 24 := by omega
    subst hk
    refine kx_iload_n d_A_fill_5 rfl ?_
    refine kx_iload_n d_A_fill_6 rfl ?_
    first | refine kx_icmp_ge_n 20 d_A_fill_7 (by decide) (by omega) (by omega) ?_ ?_ | refine kx_icmp_ge 20 d_A_fill_7 (by decide) ?_ ?_
    · intro h7
      refine kx_vret d_A_fill_20 rfl (by decide) (by decide) ?_
      exact ⟨rfl, ⟨g, hA, hg⟩, ho⟩
    · intro h7
      exact absurd h7 (by omega)
  | succ m ih =>
    intro k w1 g hk hA hg ho
    refine kx_iload_n d_A_fill_5 rfl ?_
    refine kx_iload_n d_A_fill_6 rfl ?_
    first | refine kx_icmp_ge_n 20 d_A_fill_7 (by decide) (by omega) (by omega) ?_ ?_ | refine kx_icmp_ge 20 d_A_fill_7 (by decide) ?_ ?_
    · intro h7
      exact absurd h7 (by omega)
    · intro h7
      refine kx_aload_n d_A_fill_10 rfl (by first | rfl | exact kx_rf _) ?_
      refine kx_iload_n d_A_fill_11 rfl ?_
      refine kx_iload_n d_A_fill_12 rfl ?_
      refine kx_iast d_A_fill_13 hA (by omega) (by decide) ?_
      refine kx_iinc _ d_A_fill_14 rfl (by decide) (nI_1 _) ?_
      refine kx_goto 5 d_A_fill_17 (by decide) ?_
      refine kx_loc (L1 := [(0, .ref a), (1, .int u), (2, .int (nI (k + 1))), (3, .int (nI 24))]) ⟨rfl, rfl, rfl, rfl, trivial⟩ ?_
      exact ih (k + 1) _ _ (by omega) (kx_s1 hA) (lt_s (fun i hi => by rw [pk_un (by omega)]; exact hg i hi) pk_us) (ho.set rfl)
theorem m_A_fill {E : kx_E} {w : va_W} {v a : Nat} {g : Nat → Int32} (hA : w[v]? = some (a, kx_ai E 24 g)) (u : Int32) : kx_S E Y_A_fill [.ref a, .int u] w (fun o w1 => o = .inl none ∧ (∃ g, w1[v]? = some (a, kx_ai E 24 g) ∧ ∀ i, i < 24 → g i = u) ∧ kx_off w w1 (fun x => x = v)) := by
  refine kx_go (by decide) rfl rfl (Nat.le_of_ble_eq_true rfl) (kx_cc rfl (kx_cc rfl kx_c0)) (fun z => ?_)
  refine kx_iconst (nI 0) d_A_fill_0 (by decide) ?_
  refine kx_istore_n d_A_fill_1 (by decide) ?_
  refine kx_aload_n d_A_fill_2 rfl (by first | rfl | exact kx_rf _) ?_
  refine kx_alen (t := 0) d_A_fill_3 (by assumption) rfl ?_
  refine kx_istore_n d_A_fill_4 (by decide) ?_
  refine kx_loc (L1 := [(0, .ref a), (1, .int u), (2, .int (nI 0)), (3, .int (nI 24))]) ⟨rfl, rfl, rfl, rfl, trivial⟩ ?_
  exact l_A_fill 24 0 w g rfl hA lt_0 kx_off.rf
theorem cV_fill {E : kx_E} {w w0 : va_W} {n : Nat} {ad : Nat → Nat} {L : Nat → List Nat} {V S : Nat → Nat → Int32} {pe bi : Nat → Option Nat} {Y : kx_Y} {z : kx_Z} {pc : Nat} {LL : kx_L} {st : List Value} {kc ks : Nat} {Q : kx_O → va_W → Prop} {idx v : Nat} {u : Int32} (hd : decode Y.1 pc = .ok (.invokestatic idx, 3)) (hl : kx_LS Y.2.2.1 idx 2 Y_A_fill) (hC : Cls E w n ad L V S pe bi) (hO : kx_off w0 w clsN) (hv : intN n v) (hlv : 2 ≤ Y.2.2.2.2.2.2.2.1) (hst : (st.map fun v => v.category).sum ≤ 8) (h1 : kc ≤ Y.2.2.2.2.2.1) (h2 : ks ≤ Y.2.2.2.2.2.2.1)
    (kk : ∀ w1, Cls E w1 n ad L (up1 V v (fun _ => u)) S pe bi → kx_off w0 w1 clsN → kx_R E Y z (pc + 3) LL st w1 kc ks Q) : kx_R E Y z pc LL (.int u :: .ref (ad v) :: st) w kc ks Q := by
  obtain ⟨g, h3, -⟩ := hC.int v hv
  refine kx_callS (as := [.ref (ad v), .int u]) (rest := st) hd hl rfl hlv (by decide) hst h1 h2 rfl (m_A_fill h3 u) (fun X w1 h => by cases h.1) (fun v w1 hq => ?_)
  obtain ⟨hv9, hg, ho⟩ := hq
  cases hv9
  exact kk w1 (hC.uInt hv ho hg) (hO.tr ho (fun _ h => h) (fun m h => by subst h; exact intN_cls hv))
def forL (L : Nat → List Nat) (c : Nat) : Nat → List Nat := up1 (up1 (up1 (up1 (up1 L (carE c 0 + 1) []) (carE c 0 + 3) []) (carE c 1 + 1) []) (carE c 1 + 3) []) (carB c + 26) []
def forS (S : Nat → Nat → Int32) (c : Nat) : Nat → Nat → Int32 := up2 (up2 (up2 (up2 (up2 (up2 (up2 S (carE c 0) 7 (nI 0)) (carE c 0) 8 (nI 0)) (carE c 1) 7 (nI 0)) (carE c 1) 8 (nI 0)) (carB c) 7 (nI 0)) (carB c) 9 (nI 0)) (carB c) 10 (nI 0)
theorem d_C_forget_0 : decode c_C_forget 0 = .ok (.aload_n 0, 1) := by decide +kernel
theorem d_C_forget_1 : decode c_C_forget 1 = .ok (.getfield 20, 3) := by decide +kernel
theorem d_C_forget_4 : decode c_C_forget 4 = .ok (.iconst 0, 1) := by decide +kernel
theorem d_C_forget_5 : decode c_C_forget 5 = .ok (.aaload, 1) := by decide +kernel
theorem d_C_forget_6 : decode c_C_forget 6 = .ok (.invokevirtual 54, 3) := by decide +kernel
theorem d_C_forget_9 : decode c_C_forget 9 = .ok (.aload_n 0, 1) := by decide +kernel
theorem d_C_forget_10 : decode c_C_forget 10 = .ok (.getfield 20, 3) := by decide +kernel
theorem d_C_forget_13 : decode c_C_forget 13 = .ok (.iconst 1, 1) := by decide +kernel
theorem d_C_forget_14 : decode c_C_forget 14 = .ok (.aaload, 1) := by decide +kernel
theorem d_C_forget_15 : decode c_C_forget 15 = .ok (.invokevirtual 54, 3) := by decide +kernel
theorem d_C_forget_18 : decode c_C_forget 18 = .ok (.aload_n 0, 1) := by decide +kernel
theorem d_C_forget_19 : decode c_C_forget 19 = .ok (.getfield 34, 3) := by decide +kernel
theorem d_C_forget_22 : decode c_C_forget 22 = .ok (.invokevirtual 57, 3) := by decide +kernel
theorem d_C_forget_25 : decode c_C_forget 25 = .ok (.aload_n 0, 1) := by decide +kernel
theorem d_C_forget_26 : decode c_C_forget 26 = .ok (.iconst 0, 1) := by decide +kernel
theorem d_C_forget_27 : decode c_C_forget 27 = .ok (.putfield 60, 3) := by decide +kernel
theorem d_C_forget_30 : decode c_C_forget 30 = .ok (.aload_n 0, 1) := by decide +kernel
theorem d_C_forget_31 : decode c_C_forget 31 = .ok (.getfield 41, 3) := by decide +kernel
theorem d_C_forget_34 : decode c_C_forget 34 = .ok (.iconst (-1), 1) := by decide +kernel
theorem d_C_forget_35 : decode c_C_forget 35 = .ok (.invokestatic 48, 3) := by decide +kernel
theorem d_C_forget_38 : decode c_C_forget 38 = .ok (.aload_n 0, 1) := by decide +kernel
theorem d_C_forget_39 : decode c_C_forget 39 = .ok (.iconst 0, 1) := by decide +kernel
theorem d_C_forget_40 : decode c_C_forget 40 = .ok (.putfield 63, 3) := by decide +kernel
theorem d_C_forget_43 : decode c_C_forget 43 = .ok (.aload_n 0, 1) := by decide +kernel
theorem d_C_forget_44 : decode c_C_forget 44 = .ok (.iconst 0, 1) := by decide +kernel
theorem d_C_forget_45 : decode c_C_forget 45 = .ok (.putfield 66, 3) := by decide +kernel
theorem d_C_forget_48 : decode c_C_forget 48 = .ok (.return_, 1) := by decide +kernel
set_option maxHeartbeats 2000000 in
theorem m_C_forget {E : kx_E} {w : va_W} {n : Nat} {ad : Nat → Nat} {L : Nat → List Nat} {V S : Nat → Nat → Int32} {pe bi : Nat → Option Nat} (hC : Cls E w n ad L V S pe bi) {c : Nat} (hc : c < n) : kx_S E Y_C_forget [.ref (ad (carB c))] w (CQ E w n ad (forL L c) (up1 V (carB c + 30) (fun _ => -1)) (forS S c) pe bi none) := by
  refine kx_go (by decide) rfl rfl (Nat.le_of_ble_eq_true rfl) (kx_cc rfl kx_c0) (fun z => ?_)
  have hO : kx_off w w clsN := kx_off.rf
  refine kx_aload_n d_C_forget_0 rfl (by first | rfl | exact kx_rf _) ?_
  refine kx_get _ d_C_forget_1 f_C_20 (hC.car c hc) (by rfl) ?_
  refine kx_iconst (nI 0) d_C_forget_4 (by decide) ?_
  refine cA_end d_C_forget_5 hC hc (by first | decide | omega) ?_
  refine kx_callV (as := []) (rest := []) d_C_forget_6 v_C_54 rfl (hC.endAt (carE_N hc)) rfl rfl (by decide) (by decide) (by decide) (by decide) (by decide) rfl (m_N_forget hC (carE_N (i := 0) hc)) (fun X w1 h => by cases h.1) (fun v w hq => ?_)
  obtain ⟨hv, hC, hO9⟩ := hq
  cases hv
  have hO := hO.tr hO9 (fun _ h => h) (fun _ h => h)
  refine kx_stk (st1 := []) rfl ?_
  refine kx_aload_n d_C_forget_9 rfl (by first | rfl | exact kx_rf _) ?_
  refine kx_get _ d_C_forget_10 f_C_20 (hC.car c hc) (by rfl) ?_
  refine kx_iconst (nI 1) d_C_forget_13 (by decide) ?_
  refine cA_end d_C_forget_14 hC hc (by first | decide | omega) ?_
  refine kx_callV (as := []) (rest := []) d_C_forget_15 v_C_54 rfl (hC.endAt (carE_N hc)) rfl rfl (by decide) (by decide) (by decide) (by decide) (by decide) rfl (m_N_forget hC (carE_N (i := 1) hc)) (fun X w1 h => by cases h.1) (fun v w hq => ?_)
  obtain ⟨hv, hC, hO9⟩ := hq
  cases hv
  have hO := hO.tr hO9 (fun _ h => h) (fun _ h => h)
  refine kx_stk (st1 := []) rfl ?_
  refine kx_aload_n d_C_forget_18 rfl (by first | rfl | exact kx_rf _) ?_
  refine kx_get _ d_C_forget_19 f_C_34 (hC.car c hc) (by rfl) ?_
  refine cR_clear d_C_forget_22 v_C_57 hC hO (rowN_26 hc) (by decide) (Nat.le_of_ble_eq_true rfl) (by decide) (by decide) (fun w hC hO => ?_)
  refine kx_aload_n d_C_forget_25 rfl (by first | rfl | exact kx_rf _) ?_
  refine kx_iconst (nI 0) d_C_forget_26 (by decide) ?_
  refine cC_put7 d_C_forget_27 f_C_60 hC hO hc (fun w hC hO => ?_)
  refine kx_aload_n d_C_forget_30 rfl (by first | rfl | exact kx_rf _) ?_
  refine kx_get _ d_C_forget_31 f_C_41 (hC.car c hc) (by rfl) ?_
  refine kx_iconst (-1) d_C_forget_34 (by decide) ?_
  refine cV_fill d_C_forget_35 s_C_48 hC hO (intN_30 hc) (by decide) (Nat.le_of_ble_eq_true rfl) (by decide) (by decide) (fun w hC hO => ?_)
  refine kx_aload_n d_C_forget_38 rfl (by first | rfl | exact kx_rf _) ?_
  refine kx_iconst (nI 0) d_C_forget_39 (by decide) ?_
  refine cC_put9 d_C_forget_40 f_C_63 hC hO hc (fun w hC hO => ?_)
  refine kx_aload_n d_C_forget_43 rfl (by first | rfl | exact kx_rf _) ?_
  refine kx_iconst (nI 0) d_C_forget_44 (by decide) ?_
  refine cC_put10 d_C_forget_45 f_C_66 hC hO hc (fun w hC hO => ?_)
  refine kx_vret d_C_forget_48 rfl (by decide) (by decide) ?_
  exact ⟨rfl, hC, hO⟩
abbrev takeC (A fa : Nat → Int32) (num i : Nat) : Prop := ¬ i + 1 = num ∧ ¬ fa i = -1 ∧ (A i = -1 ∨ fa i + nI 1 < A i)
def newsA (A fa : Nat → Int32) (num m : Nat) : Nat → Int32 := fun i => if i < m ∧ takeC A fa num i then fa i + nI 1 else A i
def newsW (W fw A fa : Nat → Int32) (num m : Nat) : Nat → Int32 := fun i => if i < m ∧ takeC A fa num i then fw i else W i
theorem newsA_0 {A fa : Nat → Int32} {num : Nat} : newsA A fa num 0 = A := by funext i; unfold newsA; rw [if_neg (fun q => by omega)]
theorem newsW_0 {W fw A fa : Nat → Int32} {num : Nat} : newsW W fw A fa num 0 = W := by funext i; unfold newsW; rw [if_neg (fun q => by omega)]
theorem newsA_k {A fa : Nat → Int32} {num k : Nat} : newsA A fa num k k = A k := by unfold newsA; rw [if_neg (fun q => by omega)]
theorem news_i {A fa : Nat → Int32} {num k i : Nat} (e : i ≠ k) : (i < k ∧ takeC A fa num i) ↔ (i < k + 1 ∧ takeC A fa num i) := ⟨fun q => ⟨by omega, q.2⟩, fun q => ⟨by omega, q.2⟩⟩
theorem newsA_s {A fa : Nat → Int32} {num k : Nat} (h : takeC A fa num k) : upd (newsA A fa num k) k (fa k + nI 1) = newsA A fa num (k + 1) := by
  funext i
  by_cases e : i = k
  · subst e; rw [pk_us]; unfold newsA; rw [if_pos ⟨by omega, h⟩]
  · rw [pk_un e]; unfold newsA; simp only [news_i e]
theorem newsW_s {W fw A fa : Nat → Int32} {num k : Nat} (h : takeC A fa num k) : upd (newsW W fw A fa num k) k (fw k) = newsW W fw A fa num (k + 1) := by
  funext i
  by_cases e : i = k
  · subst e; rw [pk_us]; unfold newsW; rw [if_pos ⟨by omega, h⟩]
  · rw [pk_un e]; unfold newsW; simp only [news_i e]
theorem newsA_n {A fa : Nat → Int32} {num k : Nat} (h : ¬ takeC A fa num k) : newsA A fa num k = newsA A fa num (k + 1) := by
  funext i
  unfold newsA
  by_cases e : i = k
  · subst e; rw [if_neg (fun q => h q.2), if_neg (fun q => h q.2)]
  · simp only [news_i e]
theorem newsW_n {W fw A fa : Nat → Int32} {num k : Nat} (h : ¬ takeC A fa num k) : newsW W fw A fa num k = newsW W fw A fa num (k + 1) := by
  funext i
  unfold newsW
  by_cases e : i = k
  · subst e; rw [if_neg (fun q => h q.2), if_neg (fun q => h q.2)]
  · simp only [news_i e]
theorem kx_pm1 {k num : Nat} (hk : k < 2 ^ 30) (hn : num < 2 ^ 30) : nI k = nI num - nI 1 ↔ k + 1 = num := by
  constructor
  · intro h
    cases num with
    | zero =>
      have h2 : nI k + nI 1 = nI 0 := by rw [h]; decide
      rw [nI_add] at h2
      exact absurd ((nI_eq (by omega) (by decide)).mp h2) (by omega)
    | succ m =>
      rw [pk_sub (by omega)] at h
      have := (nI_eq (by omega) (by omega)).mp h
      omega
  · intro h
    subst h
    rw [pk_sub (by omega)]; rfl
theorem up1_c {α : Type} {f : Nat → α} {x y : Nat} {u v : α} (h : x ≠ y) : up1 (up1 f x u) y v = up1 (up1 f y v) x u := by
  funext i; unfold up1
  by_cases e : i = x
  · subst e; simp [h]
  · simp [e]
def newsV (V : Nat → Nat → Int32) (c q num m : Nat) : Nat → Nat → Int32 := up1 (up1 V (carB c + 30) (newsA (V (carB c + 30)) (V (q + 5 + 5)) num m)) (carB c + 31) (newsW (V (carB c + 31)) (V (q + 5 + 6)) (V (carB c + 30)) (V (q + 5 + 5)) num m)
theorem newsV_0 {V : Nat → Nat → Int32} {c q num : Nat} : newsV V c q num 0 = V := by unfold newsV; rw [newsA_0, newsW_0, up1_id, up1_id]
theorem newsV_a {V : Nat → Nat → Int32} {c q num m : Nat} : newsV V c q num m (carB c + 30) = newsA (V (carB c + 30)) (V (q + 5 + 5)) num m := by unfold newsV; rw [up1_n (by omega), up1_s]
theorem newsV_w {V : Nat → Nat → Int32} {c q num m : Nat} : newsV V c q num m (carB c + 31) = newsW (V (carB c + 31)) (V (q + 5 + 6)) (V (carB c + 30)) (V (q + 5 + 5)) num m := by unfold newsV; rw [up1_s]
theorem newsV_o {V : Nat → Nat → Int32} {c q num m v : Nat} (h1 : v ≠ carB c + 30) (h2 : v ≠ carB c + 31) : newsV V c q num m v = V v := by unfold newsV; rw [up1_n h2, up1_n h1]
theorem newsV_n {V : Nat → Nat → Int32} {c q num k : Nat} (h : ¬ takeC (V (carB c + 30)) (V (q + 5 + 5)) num k) : newsV V c q num k = newsV V c q num (k + 1) := by unfold newsV; rw [newsA_n h, newsW_n h]
theorem newsV_s {V : Nat → Nat → Int32} {c q num k : Nat} (h : takeC (V (carB c + 30)) (V (q + 5 + 5)) num k) : up1 (up1 (newsV V c q num k) (carB c + 30) (upd (newsA (V (carB c + 30)) (V (q + 5 + 5)) num k) k (V (q + 5 + 5) k + nI 1))) (carB c + 31) (upd (newsW (V (carB c + 31)) (V (q + 5 + 6)) (V (carB c + 30)) (V (q + 5 + 5)) num k) k (V (q + 5 + 6) k)) = newsV V c q num (k + 1) := by
  rw [newsA_s h, newsW_s h]
  unfold newsV
  rw [up1_c (f := up1 V (carB c + 30) _) (x := carB c + 31) (y := carB c + 30) (by omega), up1_up1, up1_up1]
theorem d_C_takeNews_0 : decode c_C_takeNews 0 = .ok (.iconst 0, 1) := by decide +kernel
theorem d_C_takeNews_1 : decode c_C_takeNews 1 = .ok (.istore_n 2, 1) := by decide +kernel
theorem d_C_takeNews_2 : decode c_C_takeNews 2 = .ok (.iload_n 2, 1) := by decide +kernel
theorem d_C_takeNews_3 : decode c_C_takeNews 3 = .ok (.aload_n 0, 1) := by decide +kernel
theorem d_C_takeNews_4 : decode c_C_takeNews 4 = .ok (.getfield 34, 3) := by decide +kernel
theorem d_C_takeNews_7 : decode c_C_takeNews 7 = .ok (.getfield 76, 3) := by decide +kernel
theorem d_C_takeNews_10 : decode c_C_takeNews 10 = .ok (.if_icmp .ge 86, 3) := by decide +kernel
theorem d_C_takeNews_13 : decode c_C_takeNews 13 = .ok (.aload_n 1, 1) := by decide +kernel
theorem d_C_takeNews_14 : decode c_C_takeNews 14 = .ok (.getfield 134, 3) := by decide +kernel
theorem d_C_takeNews_17 : decode c_C_takeNews 17 = .ok (.iload_n 2, 1) := by decide +kernel
theorem d_C_takeNews_18 : decode c_C_takeNews 18 = .ok (.iaload, 1) := by decide +kernel
theorem d_C_takeNews_19 : decode c_C_takeNews 19 = .ok (.istore_n 3, 1) := by decide +kernel
theorem d_C_takeNews_20 : decode c_C_takeNews 20 = .ok (.aload_n 0, 1) := by decide +kernel
theorem d_C_takeNews_21 : decode c_C_takeNews 21 = .ok (.getfield 41, 3) := by decide +kernel
theorem d_C_takeNews_24 : decode c_C_takeNews 24 = .ok (.iload_n 2, 1) := by decide +kernel
theorem d_C_takeNews_25 : decode c_C_takeNews 25 = .ok (.iaload, 1) := by decide +kernel
theorem d_C_takeNews_26 : decode c_C_takeNews 26 = .ok (.iconst (-1), 1) := by decide +kernel
theorem d_C_takeNews_27 : decode c_C_takeNews 27 = .ok (.if_icmp .eq 15, 3) := by decide +kernel
theorem d_C_takeNews_30 : decode c_C_takeNews 30 = .ok (.iload_n 3, 1) := by decide +kernel
theorem d_C_takeNews_31 : decode c_C_takeNews 31 = .ok (.iconst 1, 1) := by decide +kernel
theorem d_C_takeNews_32 : decode c_C_takeNews 32 = .ok (.iadd, 1) := by decide +kernel
theorem d_C_takeNews_33 : decode c_C_takeNews 33 = .ok (.aload_n 0, 1) := by decide +kernel
theorem d_C_takeNews_34 : decode c_C_takeNews 34 = .ok (.getfield 41, 3) := by decide +kernel
theorem d_C_takeNews_37 : decode c_C_takeNews 37 = .ok (.iload_n 2, 1) := by decide +kernel
theorem d_C_takeNews_38 : decode c_C_takeNews 38 = .ok (.iaload, 1) := by decide +kernel
theorem d_C_takeNews_39 : decode c_C_takeNews 39 = .ok (.if_icmp .ge 7, 3) := by decide +kernel
theorem d_C_takeNews_42 : decode c_C_takeNews 42 = .ok (.iconst 1, 1) := by decide +kernel
theorem d_C_takeNews_43 : decode c_C_takeNews 43 = .ok (.goto 4, 3) := by decide +kernel
theorem d_C_takeNews_46 : decode c_C_takeNews 46 = .ok (.iconst 0, 1) := by decide +kernel
theorem d_C_takeNews_47 : decode c_C_takeNews 47 = .ok (.istore 4, 2) := by decide +kernel
theorem d_C_takeNews_49 : decode c_C_takeNews 49 = .ok (.iload_n 2, 1) := by decide +kernel
theorem d_C_takeNews_50 : decode c_C_takeNews 50 = .ok (.aload_n 0, 1) := by decide +kernel
theorem d_C_takeNews_51 : decode c_C_takeNews 51 = .ok (.getfield 60, 3) := by decide +kernel
theorem d_C_takeNews_54 : decode c_C_takeNews 54 = .ok (.iconst 1, 1) := by decide +kernel
theorem d_C_takeNews_55 : decode c_C_takeNews 55 = .ok (.isub, 1) := by decide +kernel
theorem d_C_takeNews_56 : decode c_C_takeNews 56 = .ok (.if_icmp .eq 34, 3) := by decide +kernel
theorem d_C_takeNews_59 : decode c_C_takeNews 59 = .ok (.iload_n 3, 1) := by decide +kernel
theorem d_C_takeNews_60 : decode c_C_takeNews 60 = .ok (.iconst (-1), 1) := by decide +kernel
theorem d_C_takeNews_61 : decode c_C_takeNews 61 = .ok (.if_icmp .eq 29, 3) := by decide +kernel
theorem d_C_takeNews_64 : decode c_C_takeNews 64 = .ok (.iload 4, 2) := by decide +kernel
theorem d_C_takeNews_66 : decode c_C_takeNews 66 = .ok (.ifCond .eq 24, 3) := by decide +kernel
theorem d_C_takeNews_69 : decode c_C_takeNews 69 = .ok (.aload_n 0, 1) := by decide +kernel
theorem d_C_takeNews_70 : decode c_C_takeNews 70 = .ok (.getfield 41, 3) := by decide +kernel
theorem d_C_takeNews_73 : decode c_C_takeNews 73 = .ok (.iload_n 2, 1) := by decide +kernel
theorem d_C_takeNews_74 : decode c_C_takeNews 74 = .ok (.iload_n 3, 1) := by decide +kernel
theorem d_C_takeNews_75 : decode c_C_takeNews 75 = .ok (.iconst 1, 1) := by decide +kernel
theorem d_C_takeNews_76 : decode c_C_takeNews 76 = .ok (.iadd, 1) := by decide +kernel
theorem d_C_takeNews_77 : decode c_C_takeNews 77 = .ok (.iastore, 1) := by decide +kernel
theorem d_C_takeNews_78 : decode c_C_takeNews 78 = .ok (.aload_n 0, 1) := by decide +kernel
theorem d_C_takeNews_79 : decode c_C_takeNews 79 = .ok (.getfield 45, 3) := by decide +kernel
theorem d_C_takeNews_82 : decode c_C_takeNews 82 = .ok (.iload_n 2, 1) := by decide +kernel
theorem d_C_takeNews_83 : decode c_C_takeNews 83 = .ok (.aload_n 1, 1) := by decide +kernel
theorem d_C_takeNews_84 : decode c_C_takeNews 84 = .ok (.getfield 141, 3) := by decide +kernel
theorem d_C_takeNews_87 : decode c_C_takeNews 87 = .ok (.iload_n 2, 1) := by decide +kernel
theorem d_C_takeNews_88 : decode c_C_takeNews 88 = .ok (.iaload, 1) := by decide +kernel
theorem d_C_takeNews_89 : decode c_C_takeNews 89 = .ok (.iastore, 1) := by decide +kernel
theorem d_C_takeNews_90 : decode c_C_takeNews 90 = .ok (.iinc 2 1, 3) := by decide +kernel
theorem d_C_takeNews_93 : decode c_C_takeNews 93 = .ok (.goto (-91), 3) := by decide +kernel
theorem d_C_takeNews_96 : decode c_C_takeNews 96 = .ok (.return_, 1) := by decide +kernel
set_option maxHeartbeats 2000000 in
theorem l_C_takeNews {E : kx_E} {n : Nat} {ad : Nat → Nat} {L : Nat → List Nat} {V S : Nat → Nat → Int32} {pe bi : Nat → Option Nat} {w0 : va_W} {c q num : Nat} (hc : c < n) (hq : endN n q) (hn : S (carB c) 7 = nI num) (h24 : num ≤ 24) {z : kx_Z} {Q : kx_O → va_W → Prop} (hQ : ∀ w, Cls E w n ad L (newsV V c q num (L (carB c + 26)).length) S pe bi → kx_off w0 w clsN → Q (.inl none) w) : ∀ (m k : Nat) (w : va_W), m + k = (L (carB c + 26)).length → Cls E w n ad L (newsV V c q num k) S pe bi → kx_off w0 w clsN → kx_R E Y_C_takeNews z 2 [(0, .ref (ad (carB c))), (1, .ref (ad (q + 5))), (2, .int (nI k))] [] w 0 0 Q := by
  have i1 := intN_f5 hq
  have i2 := intN_f6 hq
  have n1 : q + 5 + 5 ≠ carB c + 30 := by unfold endN at hq; simp only [carB]; omega
  have n2 : q + 5 + 5 ≠ carB c + 31 := by unfold endN at hq; simp only [carB]; omega
  have n3 : q + 5 + 6 ≠ carB c + 30 := by unfold endN at hq; simp only [carB]; omega
  have n4 : q + 5 + 6 ≠ carB c + 31 := by unfold endN at hq; simp only [carB]; omega
  intro m
  induction m with
  | zero =>
    intro k w hk hC hO
    have hl := (hC.row _ (rowN_26 hc)).2.2.1
    have hk : k = (L (carB c + 26)).length := by omega
    subst hk
    refine kx_iload_n d_C_takeNews_2 rfl ?_
    refine kx_aload_n d_C_takeNews_3 rfl (by first | rfl | exact kx_rf _) ?_
    refine kx_get _ d_C_takeNews_4 f_C_34 (hC.car c hc) (by rfl) ?_
    refine kx_get _ d_C_takeNews_7 f_C_76 (hC.rowObj (rowN_26 hc)) (by rfl) ?_
    first | refine kx_icmp_ge_n 96 d_C_takeNews_10 (by decide) (by omega) (by omega) ?_ ?_ | refine kx_icmp_ge 96 d_C_takeNews_10 (by decide) ?_ ?_
    · intro h10
      refine kx_vret d_C_takeNews_96 rfl (by decide) (by decide) ?_
      exact hQ w hC hO
    · intro h10
      exact absurd h10 (by omega)
  | succ m ih =>
    intro k w hk hC hO
    have hl := (hC.row _ (rowN_26 hc)).2.2.1
    have key : ∀ t : Nat, t = (if V (carB c + 30) k = -1 ∨ V (q + 5 + 5) k + nI 1 < V (carB c + 30) k then 1 else 0) → kx_R E Y_C_takeNews z 47 [(0, .ref (ad (carB c))), (1, .ref (ad (q + 5))), (2, .int (nI k)), (3, .int (V (q + 5 + 5) k))] [.int (nI t)] w 0 0 Q := by
      intro t ht
      have ht1 : t < 2 := by rw [ht]; split <;> decide
      refine kx_istore d_C_takeNews_47 (by decide) ?_
      refine kx_iload_n d_C_takeNews_49 rfl ?_
      refine kx_aload_n d_C_takeNews_50 rfl (by first | rfl | exact kx_rf _) ?_
      refine kx_get _ d_C_takeNews_51 f_C_60 (hC.car c hc) (by rfl) ?_
      rw [hn]
      refine kx_iconst (nI 1) d_C_takeNews_54 (by decide) ?_
      refine kx_isub _ d_C_takeNews_55 rfl ?_
      refine kx_icmp_eq 90 d_C_takeNews_56 (by decide) ?_ ?_
      · intro h56
        refine kx_iinc _ d_C_takeNews_90 rfl (by decide) (nI_1 _) ?_
        refine kx_goto 2 d_C_takeNews_93 (by decide) ?_
        refine kx_loc (L1 := [(0, .ref (ad (carB c))), (1, .ref (ad (q + 5))), (2, .int (nI (k + 1)))]) ⟨rfl, rfl, rfl, trivial⟩ ?_
        first
          | exact ih (k + 1) w (by omega) hC hO
          | (have hnt : ¬ takeC (V (carB c + 30)) (V (q + 5 + 5)) num k := fun e => e.1 ((kx_pm1 (by omega) (by omega)).mp h56)
             rw [newsV_n hnt] at hC; exact ih (k + 1) w (by omega) hC hO)
          | (have hnt : ¬ takeC (V (carB c + 30)) (V (q + 5 + 5)) num k := fun e => e.2.1 h61
             rw [newsV_n hnt] at hC; exact ih (k + 1) w (by omega) hC hO)
          | (have hnt : ¬ takeC (V (carB c + 30)) (V (q + 5 + 5)) num k := fun e => by rw [if_pos e.2.2] at ht; omega
             rw [newsV_n hnt] at hC; exact ih (k + 1) w (by omega) hC hO)
      · intro h56
        refine kx_iload_n d_C_takeNews_59 rfl ?_
        refine kx_iconst (-1) d_C_takeNews_60 (by decide) ?_
        refine kx_icmp_eq 90 d_C_takeNews_61 (by decide) ?_ ?_
        · intro h61
          refine kx_iinc _ d_C_takeNews_90 rfl (by decide) (nI_1 _) ?_
          refine kx_goto 2 d_C_takeNews_93 (by decide) ?_
          refine kx_loc (L1 := [(0, .ref (ad (carB c))), (1, .ref (ad (q + 5))), (2, .int (nI (k + 1)))]) ⟨rfl, rfl, rfl, trivial⟩ ?_
          first
            | exact ih (k + 1) w (by omega) hC hO
            | (have hnt : ¬ takeC (V (carB c + 30)) (V (q + 5 + 5)) num k := fun e => e.1 ((kx_pm1 (by omega) (by omega)).mp h56)
               rw [newsV_n hnt] at hC; exact ih (k + 1) w (by omega) hC hO)
            | (have hnt : ¬ takeC (V (carB c + 30)) (V (q + 5 + 5)) num k := fun e => e.2.1 h61
               rw [newsV_n hnt] at hC; exact ih (k + 1) w (by omega) hC hO)
            | (have hnt : ¬ takeC (V (carB c + 30)) (V (q + 5 + 5)) num k := fun e => by rw [if_pos e.2.2] at ht; omega
               rw [newsV_n hnt] at hC; exact ih (k + 1) w (by omega) hC hO)
        · intro h61
          refine kx_iload d_C_takeNews_64 rfl ?_
          first | refine kx_if_eq_n 90 d_C_takeNews_66 (by decide) (by omega) ?_ ?_ | refine kx_if_eq 90 d_C_takeNews_66 (by decide) ?_ ?_
          · intro h66
            refine kx_iinc _ d_C_takeNews_90 rfl (by decide) (nI_1 _) ?_
            refine kx_goto 2 d_C_takeNews_93 (by decide) ?_
            refine kx_loc (L1 := [(0, .ref (ad (carB c))), (1, .ref (ad (q + 5))), (2, .int (nI (k + 1)))]) ⟨rfl, rfl, rfl, trivial⟩ ?_
            first
              | exact ih (k + 1) w (by omega) hC hO
              | (have hnt : ¬ takeC (V (carB c + 30)) (V (q + 5 + 5)) num k := fun e => e.1 ((kx_pm1 (by omega) (by omega)).mp h56)
                 rw [newsV_n hnt] at hC; exact ih (k + 1) w (by omega) hC hO)
              | (have hnt : ¬ takeC (V (carB c + 30)) (V (q + 5 + 5)) num k := fun e => e.2.1 h61
                 rw [newsV_n hnt] at hC; exact ih (k + 1) w (by omega) hC hO)
              | (have hnt : ¬ takeC (V (carB c + 30)) (V (q + 5 + 5)) num k := fun e => by rw [if_pos e.2.2] at ht; omega
                 rw [newsV_n hnt] at hC; exact ih (k + 1) w (by omega) hC hO)
          · intro h66
            refine kx_aload_n d_C_takeNews_69 rfl (by first | rfl | exact kx_rf _) ?_
            refine kx_get _ d_C_takeNews_70 f_C_41 (hC.car c hc) (by rfl) ?_
            refine kx_iload_n d_C_takeNews_73 rfl ?_
            refine kx_iload_n d_C_takeNews_74 rfl ?_
            refine kx_iconst (nI 1) d_C_takeNews_75 (by decide) ?_
            refine kx_iadd _ d_C_takeNews_76 rfl ?_
            refine cV_put d_C_takeNews_77 hC hO (intN_30 hc) (by omega) (fun w hC hO => ?_)
            have htk : takeC (V (carB c + 30)) (V (q + 5 + 5)) num k := ⟨fun e => h56 ((kx_pm1 (by omega) (by omega)).mpr e), h61, Decidable.byContradiction (fun e => h66 (by rw [ht, if_neg e]))⟩
            rw [newsV_a] at hC
            refine kx_aload_n d_C_takeNews_78 rfl (by first | rfl | exact kx_rf _) ?_
            refine kx_get _ d_C_takeNews_79 f_C_45 (hC.car c hc) (by rfl) ?_
            refine kx_iload_n d_C_takeNews_82 rfl ?_
            refine kx_aload_n d_C_takeNews_83 rfl (by first | rfl | exact kx_rf _) ?_
            refine kx_get _ d_C_takeNews_84 f_C_141 (hC.frm q hq) (by rfl) ?_
            refine kx_iload_n d_C_takeNews_87 rfl ?_
            refine cV_get d_C_takeNews_88 hC i2 (by omega) ?_
            rw [up1_n n3, newsV_o n3 n4]
            refine cV_put d_C_takeNews_89 hC hO (intN_31 hc) (by omega) (fun w hC hO => ?_)
            rw [up1_n (show carB c + 31 ≠ carB c + 30 by omega), newsV_w] at hC
            have hC := hC.cgV (newsV_s htk)
            refine kx_iinc _ d_C_takeNews_90 rfl (by decide) (nI_1 _) ?_
            refine kx_goto 2 d_C_takeNews_93 (by decide) ?_
            refine kx_loc (L1 := [(0, .ref (ad (carB c))), (1, .ref (ad (q + 5))), (2, .int (nI (k + 1)))]) ⟨rfl, rfl, rfl, trivial⟩ ?_
            first
              | exact ih (k + 1) w (by omega) hC hO
              | (have hnt : ¬ takeC (V (carB c + 30)) (V (q + 5 + 5)) num k := fun e => e.1 ((kx_pm1 (by omega) (by omega)).mp h56)
                 rw [newsV_n hnt] at hC; exact ih (k + 1) w (by omega) hC hO)
              | (have hnt : ¬ takeC (V (carB c + 30)) (V (q + 5 + 5)) num k := fun e => e.2.1 h61
                 rw [newsV_n hnt] at hC; exact ih (k + 1) w (by omega) hC hO)
              | (have hnt : ¬ takeC (V (carB c + 30)) (V (q + 5 + 5)) num k := fun e => by rw [if_pos e.2.2] at ht; omega
                 rw [newsV_n hnt] at hC; exact ih (k + 1) w (by omega) hC hO)
    refine kx_iload_n d_C_takeNews_2 rfl ?_
    refine kx_aload_n d_C_takeNews_3 rfl (by first | rfl | exact kx_rf _) ?_
    refine kx_get _ d_C_takeNews_4 f_C_34 (hC.car c hc) (by rfl) ?_
    refine kx_get _ d_C_takeNews_7 f_C_76 (hC.rowObj (rowN_26 hc)) (by rfl) ?_
    first | refine kx_icmp_ge_n 96 d_C_takeNews_10 (by decide) (by omega) (by omega) ?_ ?_ | refine kx_icmp_ge 96 d_C_takeNews_10 (by decide) ?_ ?_
    · intro h10
      exact absurd h10 (by omega)
    · intro h10
      refine kx_aload_n d_C_takeNews_13 rfl (by first | rfl | exact kx_rf _) ?_
      refine kx_get _ d_C_takeNews_14 f_C_134 (hC.frm q hq) (by rfl) ?_
      refine kx_iload_n d_C_takeNews_17 rfl ?_
      refine cV_get d_C_takeNews_18 hC i1 (by omega) ?_
      rw [newsV_o n1 n2]
      refine kx_istore_n d_C_takeNews_19 (by decide) ?_
      refine kx_aload_n d_C_takeNews_20 rfl (by first | rfl | exact kx_rf _) ?_
      refine kx_get _ d_C_takeNews_21 f_C_41 (hC.car c hc) (by rfl) ?_
      refine kx_iload_n d_C_takeNews_24 rfl ?_
      refine cV_get d_C_takeNews_25 hC (intN_30 hc) (by omega) ?_
      rw [newsV_a, newsA_k]
      refine kx_iconst (-1) d_C_takeNews_26 (by decide) ?_
      refine kx_icmp_eq 42 d_C_takeNews_27 (by decide) ?_ ?_
      · intro h27
        refine kx_iconst (nI 1) d_C_takeNews_42 (by decide) ?_
        refine kx_goto 47 d_C_takeNews_43 (by decide) ?_
        refine kx_loc (L1 := [(0, .ref (ad (carB c))), (1, .ref (ad (q + 5))), (2, .int (nI k)), (3, .int (V (q + 5 + 5) k))]) ⟨rfl, rfl, rfl, rfl, trivial⟩ ?_
        refine key _ ?_
        first
          | (rw [if_pos (Or.inl h27)]; done)
          | (rw [if_pos (Or.inr (Int32.not_le.mp h39))]; done)
          | (rw [if_neg]; rintro (e | e)
             · exact h27 e
             · exact absurd h39 (Int32.not_le.mpr e))
      · intro h27
        refine kx_iload_n d_C_takeNews_30 rfl ?_
        refine kx_iconst (nI 1) d_C_takeNews_31 (by decide) ?_
        refine kx_iadd _ d_C_takeNews_32 rfl ?_
        refine kx_aload_n d_C_takeNews_33 rfl (by first | rfl | exact kx_rf _) ?_
        refine kx_get _ d_C_takeNews_34 f_C_41 (hC.car c hc) (by rfl) ?_
        refine kx_iload_n d_C_takeNews_37 rfl ?_
        refine cV_get d_C_takeNews_38 hC (intN_30 hc) (by omega) ?_
        rw [newsV_a, newsA_k]
        refine kx_icmp_ge 46 d_C_takeNews_39 (by decide) ?_ ?_
        · intro h39
          refine kx_iconst (nI 0) d_C_takeNews_46 (by decide) ?_
          refine kx_loc (L1 := [(0, .ref (ad (carB c))), (1, .ref (ad (q + 5))), (2, .int (nI k)), (3, .int (V (q + 5 + 5) k))]) ⟨rfl, rfl, rfl, rfl, trivial⟩ ?_
          refine key _ ?_
          first
            | (rw [if_pos (Or.inl h27)]; done)
            | (rw [if_pos (Or.inr (Int32.not_le.mp h39))]; done)
            | (rw [if_neg]; rintro (e | e)
               · exact h27 e
               · exact absurd h39 (Int32.not_le.mpr e))
        · intro h39
          refine kx_iconst (nI 1) d_C_takeNews_42 (by decide) ?_
          refine kx_goto 47 d_C_takeNews_43 (by decide) ?_
          refine kx_loc (L1 := [(0, .ref (ad (carB c))), (1, .ref (ad (q + 5))), (2, .int (nI k)), (3, .int (V (q + 5 + 5) k))]) ⟨rfl, rfl, rfl, rfl, trivial⟩ ?_
          refine key _ ?_
          first
            | (rw [if_pos (Or.inl h27)]; done)
            | (rw [if_pos (Or.inr (Int32.not_le.mp h39))]; done)
            | (rw [if_neg]; rintro (e | e)
               · exact h27 e
               · exact absurd h39 (Int32.not_le.mpr e))
set_option maxHeartbeats 2000000 in
theorem m_C_takeNews {E : kx_E} {w : va_W} {n : Nat} {ad : Nat → Nat} {L : Nat → List Nat} {V S : Nat → Nat → Int32} {pe bi : Nat → Option Nat} (hC : Cls E w n ad L V S pe bi) {c q num : Nat} (hc : c < n) (hq : endN n q) (hn : S (carB c) 7 = nI num) (h24 : num ≤ 24) : kx_S E Y_C_takeNews [.ref (ad (carB c)), .ref (ad (q + 5))] w (CQ E w n ad L (newsV V c q num (L (carB c + 26)).length) S pe bi none) := by
  refine kx_go (by decide) rfl rfl (Nat.le_of_ble_eq_true rfl) (kx_cc rfl (kx_cc rfl kx_c0)) (fun z => ?_)
  have hO : kx_off w w clsN := kx_off.rf
  refine kx_iconst (nI 0) d_C_takeNews_0 (by decide) ?_
  refine kx_istore_n d_C_takeNews_1 (by decide) ?_
  refine kx_loc (L1 := [(0, .ref (ad (carB c))), (1, .ref (ad (q + 5))), (2, .int (nI 0))]) ⟨rfl, rfl, rfl, trivial⟩ ?_
  exact l_C_takeNews hc hq hn h24 (fun w hC hO => ⟨rfl, hC, hO⟩) _ 0 w rfl (hC.cgV newsV_0.symm) hO
def heeV (L : Nat → List Nat) (V : Nat → Nat → Int32) (c q num : Nat) : Nat → Nat → Int32 := if L (q + 5 + 3) ≠ [] ∧ L (q + 5 + 3) = L (carB c + 26) then newsV V c q num (L (carB c + 26)).length else V
def heeS (L : Nat → List Nat) (S : Nat → Nat → Int32) (c q : Nat) : Nat → Nat → Int32 := if L (q + 5 + 3) ≠ [] ∧ ¬ L (q + 5 + 3) = L (carB c + 26) then up2 S (carB c) 10 (S (carB c) 10 + nI 1) else S
theorem d_C_heed_0 : decode c_C_heed 0 = .ok (.aload_n 1, 1) := by decide +kernel
theorem d_C_heed_1 : decode c_C_heed 1 = .ok (.ifnonnull 5, 3) := by decide +kernel
theorem d_C_heed_4 : decode c_C_heed 4 = .ok (.iconst 0, 1) := by decide +kernel
theorem d_C_heed_5 : decode c_C_heed 5 = .ok (.ireturn, 1) := by decide +kernel
theorem d_C_heed_6 : decode c_C_heed 6 = .ok (.aload_n 1, 1) := by decide +kernel
theorem d_C_heed_7 : decode c_C_heed 7 = .ok (.getfield 133, 3) := by decide +kernel
theorem d_C_heed_10 : decode c_C_heed 10 = .ok (.getfield 76, 3) := by decide +kernel
theorem d_C_heed_13 : decode c_C_heed 13 = .ok (.ifCond .le 35, 3) := by decide +kernel
theorem d_C_heed_16 : decode c_C_heed 16 = .ok (.aload_n 1, 1) := by decide +kernel
theorem d_C_heed_17 : decode c_C_heed 17 = .ok (.getfield 133, 3) := by decide +kernel
theorem d_C_heed_20 : decode c_C_heed 20 = .ok (.aload_n 0, 1) := by decide +kernel
theorem d_C_heed_21 : decode c_C_heed 21 = .ok (.getfield 34, 3) := by decide +kernel
theorem d_C_heed_24 : decode c_C_heed 24 = .ok (.invokevirtual 104, 3) := by decide +kernel
theorem d_C_heed_27 : decode c_C_heed 27 = .ok (.ifCond .eq 11, 3) := by decide +kernel
theorem d_C_heed_30 : decode c_C_heed 30 = .ok (.aload_n 0, 1) := by decide +kernel
theorem d_C_heed_31 : decode c_C_heed 31 = .ok (.aload_n 1, 1) := by decide +kernel
theorem d_C_heed_32 : decode c_C_heed 32 = .ok (.invokevirtual 183, 3) := by decide +kernel
theorem d_C_heed_35 : decode c_C_heed 35 = .ok (.goto 13, 3) := by decide +kernel
theorem d_C_heed_38 : decode c_C_heed 38 = .ok (.aload_n 0, 1) := by decide +kernel
theorem d_C_heed_39 : decode c_C_heed 39 = .ok (.dup, 1) := by decide +kernel
theorem d_C_heed_40 : decode c_C_heed 40 = .ok (.getfield 66, 3) := by decide +kernel
theorem d_C_heed_43 : decode c_C_heed 43 = .ok (.iconst 1, 1) := by decide +kernel
theorem d_C_heed_44 : decode c_C_heed 44 = .ok (.iadd, 1) := by decide +kernel
theorem d_C_heed_45 : decode c_C_heed 45 = .ok (.putfield 66, 3) := by decide +kernel
theorem d_C_heed_48 : decode c_C_heed 48 = .ok (.iconst 1, 1) := by decide +kernel
theorem d_C_heed_49 : decode c_C_heed 49 = .ok (.ireturn, 1) := by decide +kernel
set_option maxHeartbeats 2000000 in
theorem m_C_heed {E : kx_E} {w : va_W} {n : Nat} {ad : Nat → Nat} {L : Nat → List Nat} {V S : Nat → Nat → Int32} {pe bi : Nat → Option Nat} (hC : Cls E w n ad L V S pe bi) {c q num : Nat} (hc : c < n) (hq : endN n q) (hn : S (carB c) 7 = nI num) (h24 : num ≤ 24) : kx_S E Y_C_heed [.ref (ad (carB c)), .ref (ad (q + 5))] w (CQ E w n ad L (heeV L V c q num) (heeS L S c q) pe bi (some (.int (nI 1)))) := by
  refine kx_go (by decide) rfl rfl (Nat.le_of_ble_eq_true rfl) (kx_cc rfl (kx_cc rfl kx_c0)) (fun z => ?_)
  have hO : kx_off w w clsN := kx_off.rf
  have hl := (hC.row _ (rowN_e8 hq)).2.2.1
  refine kx_aload_n d_C_heed_0 rfl (by first | rfl | exact kx_rf _) ?_
  refine kx_ifnonnull (o := some (ad (q + 5))) 6 d_C_heed_1 (by decide) (fun _ _ => ?_) (fun h => by cases h)
  refine kx_aload_n d_C_heed_6 rfl (by first | rfl | exact kx_rf _) ?_
  refine kx_get _ d_C_heed_7 f_C_133 (hC.frm q hq) (by rfl) ?_
  refine kx_get _ d_C_heed_10 f_C_76 (hC.rowObj (rowN_e8 hq)) (by rfl) ?_
  first | refine kx_if_le_n 48 d_C_heed_13 (by decide) (by omega) ?_ ?_ | refine kx_if_le 48 d_C_heed_13 (by decide) ?_ ?_
  · intro h13
    refine kx_iconst (nI 1) d_C_heed_48 (by decide) ?_
    refine kx_iret d_C_heed_49 rfl (by decide) (by decide) ?_
    first
      | (have e0 : L (q + 5 + 3) = [] := List.eq_nil_of_length_eq_zero h13
         unfold CQ heeV heeS
         rw [if_neg (fun q => q.1 e0), if_neg (fun q => q.1 e0)]
         exact ⟨rfl, hC, hO⟩)
      | (have e0 : L (q + 5 + 3) ≠ [] := fun e => by rw [e] at h13; exact absurd h13 (by decide)
         first
         | (have e1 : L (q + 5 + 3) = L (carB c + 26) := Decidable.byContradiction (fun q => h27 (by rw [if_neg q]))
            unfold CQ heeV heeS
            rw [if_pos ⟨e0, e1⟩, if_neg (fun q => q.2 e1)]
            exact ⟨rfl, hC, hO⟩)
         | (have e1 : ¬ L (q + 5 + 3) = L (carB c + 26) := fun q => by rw [if_pos q] at h27; cases h27
            unfold CQ heeV heeS
            rw [if_neg (fun q => e1 q.2), if_pos ⟨e0, e1⟩]
            exact ⟨rfl, hC, hO⟩))
  · intro h13
    refine kx_aload_n d_C_heed_16 rfl (by first | rfl | exact kx_rf _) ?_
    refine kx_get _ d_C_heed_17 f_C_133 (hC.frm q hq) (by rfl) ?_
    refine kx_aload_n d_C_heed_20 rfl (by first | rfl | exact kx_rf _) ?_
    refine kx_get _ d_C_heed_21 f_C_34 (hC.car c hc) (by rfl) ?_
    refine cR_isSameAs d_C_heed_24 v_C_104 hC (rowN_e8 hq) (rowN_26 hc) (by decide) (Nat.le_of_ble_eq_true rfl) (by decide) (by decide) ?_
    refine kx_if_eq_n 38 d_C_heed_27 (by decide) (by split <;> decide) ?_ ?_
    · intro h27
      refine kx_aload_n d_C_heed_38 rfl (by first | rfl | exact kx_rf _) ?_
      refine kx_dup d_C_heed_39 (by first | rfl | exact kx_rfc _) ?_
      refine kx_get _ d_C_heed_40 f_C_66 (hC.car c hc) (by rfl) ?_
      refine kx_iconst (nI 1) d_C_heed_43 (by decide) ?_
      refine kx_iadd _ d_C_heed_44 rfl ?_
      refine cC_put10 d_C_heed_45 f_C_66 hC hO hc (fun w hC hO => ?_)
      refine kx_iconst (nI 1) d_C_heed_48 (by decide) ?_
      refine kx_iret d_C_heed_49 rfl (by decide) (by decide) ?_
      first
        | (have e0 : L (q + 5 + 3) = [] := List.eq_nil_of_length_eq_zero h13
           unfold CQ heeV heeS
           rw [if_neg (fun q => q.1 e0), if_neg (fun q => q.1 e0)]
           exact ⟨rfl, hC, hO⟩)
        | (have e0 : L (q + 5 + 3) ≠ [] := fun e => by rw [e] at h13; exact absurd h13 (by decide)
           first
           | (have e1 : L (q + 5 + 3) = L (carB c + 26) := Decidable.byContradiction (fun q => h27 (by rw [if_neg q]))
              unfold CQ heeV heeS
              rw [if_pos ⟨e0, e1⟩, if_neg (fun q => q.2 e1)]
              exact ⟨rfl, hC, hO⟩)
           | (have e1 : ¬ L (q + 5 + 3) = L (carB c + 26) := fun q => by rw [if_pos q] at h27; cases h27
              unfold CQ heeV heeS
              rw [if_neg (fun q => e1 q.2), if_pos ⟨e0, e1⟩]
              exact ⟨rfl, hC, hO⟩))
    · intro h27
      refine kx_aload_n d_C_heed_30 rfl (by first | rfl | exact kx_rf _) ?_
      refine kx_aload_n d_C_heed_31 rfl (by first | rfl | exact kx_rf _) ?_
      refine kx_callV (as := [.ref (ad (q + 5))]) (rest := []) d_C_heed_32 v_C_183 rfl (hC.car c hc) rfl rfl (by decide) (by decide) (by decide) (by decide) (by decide) rfl (m_C_takeNews hC hc hq hn h24) (fun X w1 h => by cases h.1) (fun v w hq9 => ?_)
      obtain ⟨hv, hC, hO⟩ := hq9
      cases hv
      refine kx_stk (st1 := []) rfl ?_
      refine kx_goto 48 d_C_heed_35 (by decide) ?_
      refine kx_iconst (nI 1) d_C_heed_48 (by decide) ?_
      refine kx_iret d_C_heed_49 rfl (by decide) (by decide) ?_
      first
        | (have e0 : L (q + 5 + 3) = [] := List.eq_nil_of_length_eq_zero h13
           unfold CQ heeV heeS
           rw [if_neg (fun q => q.1 e0), if_neg (fun q => q.1 e0)]
           exact ⟨rfl, hC, hO⟩)
        | (have e0 : L (q + 5 + 3) ≠ [] := fun e => by rw [e] at h13; exact absurd h13 (by decide)
           first
           | (have e1 : L (q + 5 + 3) = L (carB c + 26) := Decidable.byContradiction (fun q => h27 (by rw [if_neg q]))
              unfold CQ heeV heeS
              rw [if_pos ⟨e0, e1⟩, if_neg (fun q => q.2 e1)]
              exact ⟨rfl, hC, hO⟩)
           | (have e1 : ¬ L (q + 5 + 3) = L (carB c + 26) := fun q => by rw [if_pos q] at h27; cases h27
              unfold CQ heeV heeS
              rw [if_neg (fun q => e1 q.2), if_pos ⟨e0, e1⟩]
              exact ⟨rfl, hC, hO⟩))
set_option maxHeartbeats 2000000 in
theorem m_C_heed_no {E : kx_E} {w : va_W} {n : Nat} {ad : Nat → Nat} {L : Nat → List Nat} {V S : Nat → Nat → Int32} {pe bi : Nat → Option Nat} (hC : Cls E w n ad L V S pe bi) {c : Nat} (hc : c < n) : kx_S E Y_C_heed [.ref (ad (carB c)), .null] w (CQ E w n ad L V S pe bi (some (.int (nI 0)))) := by
  refine kx_go (by decide) rfl rfl (Nat.le_of_ble_eq_true rfl) (kx_cc rfl (kx_cc rfl kx_c0)) (fun z => ?_)
  have hO : kx_off w w clsN := kx_off.rf
  refine kx_aload_n d_C_heed_0 rfl (by first | rfl | exact kx_rf _) ?_
  refine kx_ifnonnull (o := none) 6 d_C_heed_1 (by decide) (fun a h => by cases h) (fun _ => ?_)
  refine kx_iconst (nI 0) d_C_heed_4 (by decide) ?_
  refine kx_iret d_C_heed_5 rfl (by decide) (by decide) ?_
  exact ⟨rfl, hC, hO⟩
