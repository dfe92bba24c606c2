/-! The law's loop, and its start -/
theorem gt5 {N k : Nat} (hN : N ≤ 2560) (hk : k ≤ 512) : nI N - nI 5 < nI (5 * k) ↔ N < 5 * k + 5 := by
  rw [Int32.lt_iff_toInt_lt, pk_sub_toInt (by omega) (by omega), nI_toInt (by omega)]; omega
theorem inc5 (k : Nat) : nI (5 * k) + Int32.ofInt 5 = nI (5 * (k + 1)) := by
  rw [show Int32.ofInt 5 = nI 5 by decide, nI_add]; rfl
def QW : kx_O → va_W → Prop := fun o _ => o = .inl (some (.int (nI 1)))
set_option maxRecDepth 20000 in
set_option maxHeartbeats 4000000 in
theorem l_W {E : kx_E} {z : kx_Z} {b N : Nat} {xs : Nat → Int32} {a0 m0 oa : Nat} (hX : kx_Sc E z b N xs) (hN : N ≤ 2560) : ∀ (m k : Nat) (w : va_W) (t : Int32) (f : Nat → Int64), N < 5 * (k + m) + 5 → k ≤ 512 → LW E a0 m0 t w → w[33]? = some (oa, kx_aj E 1 f) →
    kx_R E Y_W z 23 [(0, .ref b), (1, .ref a0), (2, .ref m0), (3, .ref oa), (4, .int (nI (5 * k)))] [] w (100 + 50 * k) (13000 + 600 * k) QW := by
  intro m
  induction m with
  | zero =>
    intro k w t f hm hk hW ho
    refine kx_iload d_W_23 rfl ?_
    refine kx_aload_n d_W_25 rfl (by rfl) ?_
    refine kx_slen d_W_26 hX ?_
    refine kx_iconst (nI 5) d_W_27 (by decide) ?_
    refine kx_isub _ d_W_28 rfl ?_
    refine kx_icmp_gt 1111 d_W_29 (by decide) (fun _ => ?_) (fun h => absurd ((gt5 hN hk).mpr (by omega)) h)
    refine kx_iconst (nI 1) d_W_1111 (by decide) ?_
    exact kx_zret d_W_1112 rfl (by decide) (by show _ ≤ 601024; omega) (by show _ ≤ 7293034; omega) rfl
  | succ m ih =>
    intro k w t f hm hk hW ho
    refine kx_iload d_W_23 rfl ?_
    refine kx_aload_n d_W_25 rfl (by rfl) ?_
    refine kx_slen d_W_26 hX ?_
    refine kx_iconst (nI 5) d_W_27 (by decide) ?_
    refine kx_isub _ d_W_28 rfl ?_
    refine kx_icmp_gt 1111 d_W_29 (by decide) (fun _ => ?_) (fun h => ?_)
    · refine kx_iconst (nI 1) d_W_1111 (by decide) ?_
      exact kx_zret d_W_1112 rfl (by decide) (by show _ ≤ 601024; omega) (by show _ ≤ 7293034; omega) rfl
    · have hk5 : 5 * k + 4 < N := by
        rcases Nat.lt_or_ge N (5 * k + 5) with q | q
        · exact absurd ((gt5 hN hk).mpr q) h
        · omega
      have kk : ∀ w1 t1 f1, LW E a0 m0 t1 w1 → w1[33]? = some (oa, kx_aj E 1 f1) → kx_R E Y_W z 1105 [(0, .ref b), (1, .ref a0), (2, .ref m0), (3, .ref oa), (4, .int (nI (5 * k)))] [] w1 (100 + 50 * k + 50) (13000 + 600 * k + 600) QW := by
        intro w1 t1 f1 hW1 ho1
        refine kx_iinc _ d_W_1105 rfl (by decide) (inc5 k) ?_
        refine kx_goto 23 d_W_1108 (by decide) ?_
        refine kx_loc (L1 := [(0, .ref b), (1, .ref a0), (2, .ref m0), (3, .ref oa), (4, .int (nI (5 * (k + 1))))]) ⟨rfl, rfl, rfl, rfl, rfl, trivial⟩ ?_
        exact ih (k + 1) w1 t1 f1 (by omega) (by omega) hW1 ho1
      refine kx_aload_n d_W_32 rfl (by rfl) ?_
      refine kx_iload d_W_33 rfl ?_
      refine kx_sld d_W_35 hX (by omega) (by omega) ?_
      refine kx_bipush (nI 15) d_W_36 (by decide) ?_
      obtain ⟨j, hj, e⟩ := pk_andE (xs (5 * k)) (m := nI 15) 4 (by decide +kernel)
      refine kx_iand _ d_W_38 e ?_
      have hj : j < 16 := hj
      have hc : j = 0 ∨ j = 1 ∨ j = 2 ∨ j = 3 ∨ j = 4 ∨ j = 5 ∨ j = 6 ∨ j = 7 ∨ j = 8 ∨ j = 9 ∨ j = 10 ∨ j = 11 ∨ j = 12 ∨ j = 13 ∨ j = 14 ∨ j = 15 := by omega
      rcases hc with rfl | rfl | rfl | rfl | rfl | rfl | rfl | rfl | rfl | rfl | rfl | rfl | rfl | rfl | rfl | rfl
      · refine kx_tabIn (off := 73) 112 d_W_39 (by decide) (by decide) rfl (by decide) ?_
        exact c_W_add hX hN hk5 hW ho (by omega) (by omega) kk
      · refine kx_tabIn (off := 141) 180 d_W_39 (by decide) (by decide) rfl (by decide) ?_
        exact c_W_couple hX hN hk5 hW ho (by omega) (by omega) kk
      · refine kx_tabIn (off := 233) 272 d_W_39 (by decide) (by decide) rfl (by decide) ?_
        exact c_W_uncouple hX hN hk5 hW ho (by omega) (by omega) kk
      · refine kx_tabIn (off := 301) 340 d_W_39 (by decide) (by decide) rfl (by decide) ?_
        exact c_W_reset hX hN hk5 hW ho (by omega) (by omega) kk
      · refine kx_tabIn (off := 337) 376 d_W_39 (by decide) (by decide) rfl (by decide) ?_
        exact c_W_rounds hX hN hk5 hW ho (by omega) (by omega) kk
      · refine kx_tabIn (off := 405) 444 d_W_39 (by decide) (by decide) rfl (by decide) ?_
        exact c_W_coupling hX hN hk5 hW ho (by omega) (by omega) kk
      · refine kx_tabIn (off := 473) 512 d_W_39 (by decide) (by decide) rfl (by decide) ?_
        exact c_W_about hX hN hk5 hW ho (by omega) (by omega) kk
      · refine kx_tabIn (off := 541) 580 d_W_39 (by decide) (by decide) rfl (by decide) ?_
        exact c_W_directory hX hN hk5 hW ho (by omega) (by omega) kk
      · refine kx_tabIn (off := 609) 648 d_W_39 (by decide) (by decide) rfl (by decide) ?_
        exact c_W_view hX hN hk5 hW ho (by omega) (by omega) kk
      · refine kx_tabIn (off := 689) 728 d_W_39 (by decide) (by decide) rfl (by decide) ?_
        exact c_W_put hX hN hk5 hW ho (by omega) (by omega) kk
      · refine kx_tabIn (off := 769) 808 d_W_39 (by decide) (by decide) rfl (by decide) ?_
        exact c_W_get hX hN hk5 hW ho (by omega) (by omega) kk
      · refine kx_tabIn (off := 849) 888 d_W_39 (by decide) (by decide) rfl (by decide) ?_
        exact c_W_side hX hN hk5 hW ho (by omega) (by omega) kk
      · refine kx_tabIn (off := 929) 968 d_W_39 (by decide) (by decide) rfl (by decide) ?_
        exact c_W_order hX hN hk5 hW ho (by omega) (by omega) kk
      · refine kx_tabIn (off := 997) 1036 d_W_39 (by decide) (by decide) rfl (by decide) ?_
        exact c_W_settled hX hN hk5 hW ho (by omega) (by omega) kk
      · refine kx_tabIn (off := 1010) 1049 d_W_39 (by decide) (by decide) rfl (by decide) ?_
        exact c_W_count hX hN hk5 hW ho (by omega) (by omega) kk
      · refine kx_tabOut 1105 d_W_39 (by decide) (by decide) ?_
        exact kx_wide (kc1 := 100 + 50 * k + 50) (ks1 := 13000 + 600 * k + 600) (by omega) (by omega) (kk w t f hW ho)
def X0 : Fx := (fun _ => 0, fun _ => 0, fun _ => none, fun _ => 0, fun _ => 0)
def D0 : Dy := (fun _ => [], fun _ => 0, fun _ => 0, fun _ => none, fun _ => [], fun _ _ => 0, fun _ _ _ => 0, fun _ => 0, fun _ => 0)
def T0 : LVS := (fun _ => [], fun _ _ => 0, fun _ _ => 0)
theorem tak_0 {k : Nat} (h : k < 24) : takI 0 k = false := by
  rw [tak_bit _ (by omega)]
  show (0#32).getLsbD k = false
  exact BitVec.getLsbD_zero
theorem Inv0 : Inv 0 X0 D0 (fun _ => 0) T0 (fun _ => none) (fun _ => none) := by
  refine ⟨⟨by omega, fun c hc => by omega, fun c e hc => by omega, fun c hc => by omega, fun p q hp => by omega, fun k => Nat.zero_le _⟩, ⟨fun p hp => by omega, fun p hp => by omega, fun c hc => by omega⟩, ⟨fun i c h => (by cases h), fun c hc => by omega⟩, fun e q he h => (by cases h), ?_, ⟨fun p q hp => by omega, fun k hk h => (by cases h), fun p p' q q' hp => by omega⟩, fun c hc => by omega, ⟨fun c hc => by omega, fun c hc => by omega, fun p hp => by omega, fun p hp => by omega, fun p hp => by omega⟩, fun c hc => by omega, ⟨nI_0.symm, nI_0.symm, rfl, rfl, rfl⟩, fun k hk => ?_⟩
  · intro x k
    refine ⟨fun he => ?_, fun e he => ?_, fun c hc => by omega⟩
    · unfold endN at he; omega
    · unfold endN at he; omega
  · show takI 0 k = true ↔ 0 = 1
    rw [tak_0 hk]
    exact ⟨fun h => (by cases h), fun h => (by cases h)⟩
theorem ModR0 : ModR 0 X0 D0 (fun _ _ => 0) := by
  refine ⟨fun c hc => by omega, fun c hc => by omega, fun c hc => by omega, fun c hc => by omega, fun k hk => nI_0.symm, fun c hc => by omega, fun c hc => by omega, fun c hc => by omega, fun c hc => by omega, fun c hc => by omega, fun c k hc => by omega, fun c k i hc => by omega, fun c hc => by omega, fun c hc => by omega⟩
theorem Bz0 : Bz (fun _ _ => 0) := fun i hi => Or.inl nI_0.symm
def wW (E : kx_E) (a0 m0 oa : Nat) (a c : Nat → Nat) : va_W := (([] ++ busK E a0 a) ++ mdlK E m0 c) ++ [(oa, kx_aj E 1 (fun _ => 0))]
set_option maxRecDepth 20000 in
set_option maxHeartbeats 4000000 in
theorem Cls0 {E : kx_E} {a0 m0 oa : Nat} {a c : Nat → Nat} : Cls E (wW E a0 m0 oa a c) 0 (fun k => if k = 0 then a0 else a k) T0.1 T0.2.1 T0.2.2 (fun _ => none) (fun _ => none) := by
  refine ⟨rfl, rfl, ⟨_, rfl, fun c hc => by omega⟩, ⟨_, rfl, fun i hi => rfl⟩, ⟨_, rfl, fun i hi => nI_0.symm⟩, fun x hx => ?_, fun c hc => by omega, fun c hc => by omega, fun c hc => by omega, fun c hc => by omega, fun e he => ?_, fun v hv => ?_⟩
  · have : x = 4 := by unfold rowN at hx; omega
    subst this
    exact ⟨rfl, ⟨_, rfl, fun k hk => by cases hk⟩, by decide, fun v hv => by cases hv⟩
  · unfold endN at he; omega
  · unfold intN at hv; omega
set_option maxRecDepth 20000 in
set_option maxHeartbeats 4000000 in
theorem Mdl0 {E : kx_E} {a0 m0 oa : Nat} {a c : Nat → Nat} : Mdl E (wW E a0 m0 oa a c) (fun k => if k = 0 then m0 else c k) (fun _ => 0) (fun _ _ => 0) := by
  refine ⟨rfl, fun j hj => ?_⟩
  match j, hj with
  | 0, _ => rfl
  | 1, _ => rfl
  | 2, _ => rfl
  | 3, _ => rfl
  | 4, _ => rfl
  | 5, _ => rfl
  | 6, _ => rfl
  | 7, _ => rfl
  | 8, _ => rfl
  | 9, _ => rfl
  | 10, _ => rfl
  | 11, _ => rfl
  | 12, _ => rfl
  | 13, _ => rfl
  | 14, _ => rfl
  | 15, _ => rfl
  | 16, _ => rfl
  | 17, _ => rfl
  | 18, _ => rfl
  | 19, _ => rfl
  | 20, _ => rfl
  | 21, _ => rfl
  | 22, _ => rfl
  | 23, _ => rfl
  | 24, _ => rfl
  | 25, _ => rfl
  | k + 26, h => omega
theorem LW0 {E : kx_E} {a0 m0 oa : Nat} {a c : Nat → Nat} : LW E a0 m0 0 (wW E a0 m0 oa a c) :=
  ⟨0, fun k => if k = 0 then a0 else a k, X0, D0, fun _ => 0, T0, fun _ => none, fun _ => none, fun k => if k = 0 then m0 else c k, fun _ _ => 0, ⟨rfl, rfl, Cls0, Mdl0, Inv0, ModR0, Bz0⟩, rfl⟩
set_option maxRecDepth 20000 in
set_option maxHeartbeats 4000000 in
theorem b_W {E : kx_E} {z : kx_Z} {b N : Nat} {xs : Nat → Int32} (hX : kx_Sc E z b N xs) (hN : N ≤ 2560) : kx_R E Y_W z 0 [(0, .ref b)] [] [] 0 0 QW := by
  refine kx_new d_W_0 n_W_8 (by decide) (by decide) (fun a0 => ?_)
  refine kx_dup d_W_3 rfl ?_
  refine kx_callI (as := []) (rest := [.ref a0]) d_W_4 i_W_62 rfl (by decide) (by decide) (Nat.le_of_ble_eq_true rfl) (by decide) (by decide) rfl m_B_ini (fun X w1 h => by cases h.1) (fun v w1 hq9 => ?_)
  obtain ⟨hv, a, hw9⟩ := hq9
  cases hv
  subst hw9
  refine kx_stk (st1 := [.ref a0]) rfl ?_
  refine kx_astore_n d_W_7 (by decide) (by rfl) ?_
  refine kx_new d_W_8 n_W_63 (by decide) (by decide) (fun m0 => ?_)
  refine kx_dup d_W_11 rfl ?_
  refine kx_callI (as := []) (rest := [.ref m0]) d_W_12 i_W_65 rfl (by decide) (by decide) (Nat.le_of_ble_eq_true rfl) (by decide) (by decide) rfl m_M_ini (fun X w1 h => by cases h.1) (fun v w1 hq9 => ?_)
  obtain ⟨hv, c, hw9⟩ := hq9
  cases hv
  subst hw9
  refine kx_stk (st1 := [.ref m0]) rfl ?_
  refine kx_astore_n d_W_15 (by decide) (by rfl) ?_
  refine kx_iconst (nI 1) d_W_16 (by decide) ?_
  refine kx_newa (t := 2) (n := 1) (1, .inr (.inl (fun _ => 0))) d_W_17 ac_long rfl rfl (fun cA => rfl) (by decide) (by decide) (by decide) (by decide) (fun oa => ?_)
  refine kx_astore_n d_W_19 (by decide) (by rfl) ?_
  refine kx_iconst (nI 0) d_W_20 (by decide) ?_
  refine kx_istore d_W_21 (by decide) ?_
  refine kx_loc (L1 := [(0, .ref b), (1, .ref a0), (2, .ref m0), (3, .ref oa), (4, .int (nI (5 * 0)))]) ⟨rfl, rfl, rfl, rfl, rfl, trivial⟩ ?_
  refine kx_wide (kc1 := 100 + 50 * 0) (ks1 := 13000 + 600 * 0) (by decide) (by decide) ?_
  exact l_W hX hN 513 0 (wW E a0 m0 oa a c) 0 (fun _ => 0) (by omega) (by omega) LW0 rfl
