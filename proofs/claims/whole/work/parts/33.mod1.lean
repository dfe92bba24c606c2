/-! The reference: its small methods -/
theorem d_M_thrown_0 : decode c_M_thrown 0 = .ok (.aload_n 0, 1) := by decide +kernel
theorem d_M_thrown_1 : decode c_M_thrown 1 = .ok (.getfield 89, 3) := by decide +kernel
theorem d_M_thrown_4 : decode c_M_thrown 4 = .ok (.ireturn, 1) := by decide +kernel
set_option maxRecDepth 20000 in
set_option maxHeartbeats 4000000 in
theorem m_M_thrown {E : kx_E} {w : va_W} {ma : Nat → Nat} {F : Nat → Int32} {A : Nat → Nat → Int32} (hM : Mdl E w ma F A)  : kx_S E Y_M_thrown [.ref (ma 0)] w (kx_Qi w (F 0)) := by
  refine kx_go (by decide) rfl rfl (Nat.le_of_ble_eq_true rfl) (kx_cc rfl kx_c0) (fun z => ?_)
  have hO : kx_off w w mdlN := kx_off.rf
  refine kx_aload_n d_M_thrown_0 rfl (by first | rfl | exact kx_rf _) ?_
  refine kx_get _ d_M_thrown_1 f_M_89 hM.1 (by rfl) ?_
  refine kx_iret d_M_thrown_4 rfl (by decide) (by decide) ?_
  exact ⟨rfl, rfl⟩
theorem d_M_goes_0 : decode c_M_goes 0 = .ok (.aload_n 0, 1) := by decide +kernel
theorem d_M_goes_1 : decode c_M_goes 1 = .ok (.iload_n 1, 1) := by decide +kernel
theorem d_M_goes_2 : decode c_M_goes 2 = .ok (.ifCond .ne 7, 3) := by decide +kernel
theorem d_M_goes_5 : decode c_M_goes 5 = .ok (.iconst 1, 1) := by decide +kernel
theorem d_M_goes_6 : decode c_M_goes 6 = .ok (.goto 20, 3) := by decide +kernel
theorem d_M_goes_9 : decode c_M_goes 9 = .ok (.iload_n 2, 1) := by decide +kernel
theorem d_M_goes_10 : decode c_M_goes 10 = .ok (.ifCond .ne 7, 3) := by decide +kernel
theorem d_M_goes_13 : decode c_M_goes 13 = .ok (.iconst 2, 1) := by decide +kernel
theorem d_M_goes_14 : decode c_M_goes 14 = .ok (.goto 12, 3) := by decide +kernel
theorem d_M_goes_17 : decode c_M_goes 17 = .ok (.iload_n 3, 1) := by decide +kernel
theorem d_M_goes_18 : decode c_M_goes 18 = .ok (.ifCond .ne 7, 3) := by decide +kernel
theorem d_M_goes_21 : decode c_M_goes 21 = .ok (.iconst 3, 1) := by decide +kernel
theorem d_M_goes_22 : decode c_M_goes 22 = .ok (.goto 4, 3) := by decide +kernel
theorem d_M_goes_25 : decode c_M_goes 25 = .ok (.iconst 0, 1) := by decide +kernel
theorem d_M_goes_26 : decode c_M_goes 26 = .ok (.putfield 89, 3) := by decide +kernel
theorem d_M_goes_29 : decode c_M_goes 29 = .ok (.aload_n 0, 1) := by decide +kernel
theorem d_M_goes_30 : decode c_M_goes 30 = .ok (.getfield 89, 3) := by decide +kernel
theorem d_M_goes_33 : decode c_M_goes 33 = .ok (.ifCond .ne 7, 3) := by decide +kernel
theorem d_M_goes_36 : decode c_M_goes 36 = .ok (.iconst 1, 1) := by decide +kernel
theorem d_M_goes_37 : decode c_M_goes 37 = .ok (.goto 4, 3) := by decide +kernel
theorem d_M_goes_40 : decode c_M_goes 40 = .ok (.iconst 0, 1) := by decide +kernel
theorem d_M_goes_41 : decode c_M_goes 41 = .ok (.ireturn, 1) := by decide +kernel
def goI (a b c : Nat) : Nat := if a = 0 then 1 else if b = 0 then 2 else if c = 0 then 3 else 0
set_option maxRecDepth 20000 in
set_option maxHeartbeats 4000000 in
theorem m_M_goes {E : kx_E} {w : va_W} {ma : Nat → Nat} {F : Nat → Int32} {A : Nat → Nat → Int32} (hM : Mdl E w ma F A) {a b c : Nat} (ha : a < 2) (hb : b < 2) (hc : c < 2) : kx_S E Y_M_goes [.ref (ma 0), .int (nI a), .int (nI b), .int (nI c)] w (fun o w1 => o = .inl (some (.int (nI (if goI a b c = 0 then 1 else 0)))) ∧ Mdl E w1 ma (up1 F 0 (nI (goI a b c))) A ∧ kx_off w w1 mdlN) := by
  refine kx_go (by decide) rfl rfl (Nat.le_of_ble_eq_true rfl) (kx_cc rfl (kx_cc rfl (kx_cc rfl (kx_cc rfl kx_c0)))) (fun z => ?_)
  have hO : kx_off w w mdlN := kx_off.rf
  refine kx_aload_n d_M_goes_0 rfl (by first | rfl | exact kx_rf _) ?_
  refine kx_iload_n d_M_goes_1 rfl ?_
  first | refine kx_if_ne_n 9 d_M_goes_2 (by decide) (by omega) ?_ ?_ | refine kx_if_ne 9 d_M_goes_2 (by decide) ?_ ?_
  · intro h2
    refine kx_iload_n d_M_goes_9 rfl ?_
    first | refine kx_if_ne_n 17 d_M_goes_10 (by decide) (by omega) ?_ ?_ | refine kx_if_ne 17 d_M_goes_10 (by decide) ?_ ?_
    · intro h10
      refine kx_iload_n d_M_goes_17 rfl ?_
      first | refine kx_if_ne_n 25 d_M_goes_18 (by decide) (by omega) ?_ ?_ | refine kx_if_ne 25 d_M_goes_18 (by decide) ?_ ?_
      · intro h18
        refine kx_iconst (nI 0) d_M_goes_25 (by decide) ?_
        first
          | (have hg : goI a b c = 1 := by unfold goI; rw [if_pos h2]
             rw [hg])
          | (have hg : goI a b c = 2 := by unfold goI; rw [if_neg h2, if_pos h10]
             rw [hg])
          | (have hg : goI a b c = 3 := by unfold goI; rw [if_neg h2, if_neg h10, if_pos h18]
             rw [hg])
          | (have hg : goI a b c = 0 := by unfold goI; rw [if_neg h2, if_neg h10, if_neg h18]
             rw [hg])
        refine mF_put0 d_M_goes_26 f_M_89 hM hO (fun w hM hO => ?_)
        refine kx_aload_n d_M_goes_29 rfl (by first | rfl | exact kx_rf _) ?_
        refine kx_get _ d_M_goes_30 f_M_89 hM.1 (by rfl) ?_
        rw [up1_s]
        first | refine kx_if_ne_n 40 d_M_goes_33 (by decide) (by omega) ?_ ?_ | refine kx_if_ne 40 d_M_goes_33 (by decide) ?_ ?_
        · intro h33
          refine kx_iconst (nI 0) d_M_goes_40 (by decide) ?_
          refine kx_zret d_M_goes_41 rfl (by decide) (by decide) (by decide) ?_
          first
            | exact ⟨rfl, hM, hO⟩
            | exact absurd h33 (by decide)
        · intro h33
          refine kx_iconst (nI 1) d_M_goes_36 (by decide) ?_
          refine kx_goto 41 d_M_goes_37 (by decide) ?_
          refine kx_zret d_M_goes_41 rfl (by decide) (by decide) (by decide) ?_
          first
            | exact ⟨rfl, hM, hO⟩
            | exact absurd h33 (by decide)
      · intro h18
        refine kx_iconst (nI 3) d_M_goes_21 (by decide) ?_
        refine kx_goto 26 d_M_goes_22 (by decide) ?_
        first
          | (have hg : goI a b c = 1 := by unfold goI; rw [if_pos h2]
             rw [hg])
          | (have hg : goI a b c = 2 := by unfold goI; rw [if_neg h2, if_pos h10]
             rw [hg])
          | (have hg : goI a b c = 3 := by unfold goI; rw [if_neg h2, if_neg h10, if_pos h18]
             rw [hg])
          | (have hg : goI a b c = 0 := by unfold goI; rw [if_neg h2, if_neg h10, if_neg h18]
             rw [hg])
        refine mF_put0 d_M_goes_26 f_M_89 hM hO (fun w hM hO => ?_)
        refine kx_aload_n d_M_goes_29 rfl (by first | rfl | exact kx_rf _) ?_
        refine kx_get _ d_M_goes_30 f_M_89 hM.1 (by rfl) ?_
        rw [up1_s]
        first | refine kx_if_ne_n 40 d_M_goes_33 (by decide) (by omega) ?_ ?_ | refine kx_if_ne 40 d_M_goes_33 (by decide) ?_ ?_
        · intro h33
          refine kx_iconst (nI 0) d_M_goes_40 (by decide) ?_
          refine kx_zret d_M_goes_41 rfl (by decide) (by decide) (by decide) ?_
          first
            | exact ⟨rfl, hM, hO⟩
            | exact absurd h33 (by decide)
        · intro h33
          refine kx_iconst (nI 1) d_M_goes_36 (by decide) ?_
          refine kx_goto 41 d_M_goes_37 (by decide) ?_
          refine kx_zret d_M_goes_41 rfl (by decide) (by decide) (by decide) ?_
          first
            | exact ⟨rfl, hM, hO⟩
            | exact absurd h33 (by decide)
    · intro h10
      refine kx_iconst (nI 2) d_M_goes_13 (by decide) ?_
      refine kx_goto 26 d_M_goes_14 (by decide) ?_
      first
        | (have hg : goI a b c = 1 := by unfold goI; rw [if_pos h2]
           rw [hg])
        | (have hg : goI a b c = 2 := by unfold goI; rw [if_neg h2, if_pos h10]
           rw [hg])
        | (have hg : goI a b c = 3 := by unfold goI; rw [if_neg h2, if_neg h10, if_pos h18]
           rw [hg])
        | (have hg : goI a b c = 0 := by unfold goI; rw [if_neg h2, if_neg h10, if_neg h18]
           rw [hg])
      refine mF_put0 d_M_goes_26 f_M_89 hM hO (fun w hM hO => ?_)
      refine kx_aload_n d_M_goes_29 rfl (by first | rfl | exact kx_rf _) ?_
      refine kx_get _ d_M_goes_30 f_M_89 hM.1 (by rfl) ?_
      rw [up1_s]
      first | refine kx_if_ne_n 40 d_M_goes_33 (by decide) (by omega) ?_ ?_ | refine kx_if_ne 40 d_M_goes_33 (by decide) ?_ ?_
      · intro h33
        refine kx_iconst (nI 0) d_M_goes_40 (by decide) ?_
        refine kx_zret d_M_goes_41 rfl (by decide) (by decide) (by decide) ?_
        first
          | exact ⟨rfl, hM, hO⟩
          | exact absurd h33 (by decide)
      · intro h33
        refine kx_iconst (nI 1) d_M_goes_36 (by decide) ?_
        refine kx_goto 41 d_M_goes_37 (by decide) ?_
        refine kx_zret d_M_goes_41 rfl (by decide) (by decide) (by decide) ?_
        first
          | exact ⟨rfl, hM, hO⟩
          | exact absurd h33 (by decide)
  · intro h2
    refine kx_iconst (nI 1) d_M_goes_5 (by decide) ?_
    refine kx_goto 26 d_M_goes_6 (by decide) ?_
    first
      | (have hg : goI a b c = 1 := by unfold goI; rw [if_pos h2]
         rw [hg])
      | (have hg : goI a b c = 2 := by unfold goI; rw [if_neg h2, if_pos h10]
         rw [hg])
      | (have hg : goI a b c = 3 := by unfold goI; rw [if_neg h2, if_neg h10, if_pos h18]
         rw [hg])
      | (have hg : goI a b c = 0 := by unfold goI; rw [if_neg h2, if_neg h10, if_neg h18]
         rw [hg])
    refine mF_put0 d_M_goes_26 f_M_89 hM hO (fun w hM hO => ?_)
    refine kx_aload_n d_M_goes_29 rfl (by first | rfl | exact kx_rf _) ?_
    refine kx_get _ d_M_goes_30 f_M_89 hM.1 (by rfl) ?_
    rw [up1_s]
    first | refine kx_if_ne_n 40 d_M_goes_33 (by decide) (by omega) ?_ ?_ | refine kx_if_ne 40 d_M_goes_33 (by decide) ?_ ?_
    · intro h33
      refine kx_iconst (nI 0) d_M_goes_40 (by decide) ?_
      refine kx_zret d_M_goes_41 rfl (by decide) (by decide) (by decide) ?_
      first
        | exact ⟨rfl, hM, hO⟩
        | exact absurd h33 (by decide)
    · intro h33
      refine kx_iconst (nI 1) d_M_goes_36 (by decide) ?_
      refine kx_goto 41 d_M_goes_37 (by decide) ?_
      refine kx_zret d_M_goes_41 rfl (by decide) (by decide) (by decide) ?_
      first
        | exact ⟨rfl, hM, hO⟩
        | exact absurd h33 (by decide)
theorem d_M_find_0 : decode c_M_find 0 = .ok (.iconst 0, 1) := by decide +kernel
theorem d_M_find_1 : decode c_M_find 1 = .ok (.istore_n 2, 1) := by decide +kernel
theorem d_M_find_2 : decode c_M_find 2 = .ok (.iload_n 2, 1) := by decide +kernel
theorem d_M_find_3 : decode c_M_find 3 = .ok (.aload_n 0, 1) := by decide +kernel
theorem d_M_find_4 : decode c_M_find 4 = .ok (.getfield 93, 3) := by decide +kernel
theorem d_M_find_7 : decode c_M_find 7 = .ok (.if_icmp .ge 21, 3) := by decide +kernel
theorem d_M_find_10 : decode c_M_find 10 = .ok (.aload_n 0, 1) := by decide +kernel
theorem d_M_find_11 : decode c_M_find 11 = .ok (.getfield 7, 3) := by decide +kernel
theorem d_M_find_14 : decode c_M_find 14 = .ok (.iload_n 2, 1) := by decide +kernel
theorem d_M_find_15 : decode c_M_find 15 = .ok (.iaload, 1) := by decide +kernel
theorem d_M_find_16 : decode c_M_find 16 = .ok (.iload_n 1, 1) := by decide +kernel
theorem d_M_find_17 : decode c_M_find 17 = .ok (.if_icmp .ne 5, 3) := by decide +kernel
theorem d_M_find_20 : decode c_M_find 20 = .ok (.iload_n 2, 1) := by decide +kernel
theorem d_M_find_21 : decode c_M_find 21 = .ok (.ireturn, 1) := by decide +kernel
theorem d_M_find_22 : decode c_M_find 22 = .ok (.iinc 2 1, 3) := by decide +kernel
theorem d_M_find_25 : decode c_M_find 25 = .ok (.goto (-23), 3) := by decide +kernel
theorem d_M_find_28 : decode c_M_find 28 = .ok (.iconst (-1), 1) := by decide +kernel
theorem d_M_find_29 : decode c_M_find 29 = .ok (.ireturn, 1) := by decide +kernel
set_option maxRecDepth 20000 in
set_option maxHeartbeats 4000000 in
theorem l_M_find {E : kx_E} {w : va_W} {ma : Nat → Nat} {F : Nat → Int32} {A : Nat → Nat → Int32} (hM : Mdl E w ma F A) {n : Nat} (hn : F 1 = nI n) (h24 : n ≤ 24) {x : Int32} {z : kx_Z} {Q : kx_O → va_W → Prop} {r : Int32} (hQ : Q (.inl (some (.int r))) w) : ∀ (m k : Nat), m + k = n → (∀ i, k ≤ i → i < n → A 0 i = x → r = nI i ∨ ∃ j, k ≤ j ∧ j < i ∧ A 0 j = x) → ((∀ i, k ≤ i → i < n → A 0 i ≠ x) → r = -1) → kx_R E Y_M_find z 2 [(0, .ref (ma 0)), (1, .int x), (2, .int (nI k))] [] w 0 0 Q := by
  intro m
  induction m with
  | zero =>
    intro k hk h1 h2
    have hr := h2 (fun i hi hi2 => absurd hi2 (by omega))
    subst hr
    clear h1 h2
    refine kx_iload_n d_M_find_2 rfl ?_
    refine kx_aload_n d_M_find_3 rfl (by first | rfl | exact kx_rf _) ?_
    refine kx_get _ d_M_find_4 f_M_93 hM.1 (by rfl) ?_
    rw [hn]
    first | refine kx_icmp_ge_n 28 d_M_find_7 (by decide) (by omega) (by omega) ?_ ?_ | refine kx_icmp_ge 28 d_M_find_7 (by decide) ?_ ?_
    · intro h7
      refine kx_iconst (-1) d_M_find_28 (by decide) ?_
      refine kx_iret d_M_find_29 rfl (by decide) (by decide) ?_
      exact hQ
    · intro h7
      exact absurd h7 (by omega)
  | succ m ih =>
    intro k hk h1 h2
    have hk0 := h1 k (Nat.le_refl k) (by omega)
    have hk1 : A 0 k = x → r = nI k := fun e => by
      rcases hk0 e with h | ⟨j, hj1, hj2, _⟩
      · exact h
      · omega
    have g1 : A 0 k ≠ x → ∀ i, k + 1 ≤ i → i < n → A 0 i = x → r = nI i ∨ ∃ j, k + 1 ≤ j ∧ j < i ∧ A 0 j = x := fun hx i hi hi2 e => by
      rcases h1 i (by omega) hi2 e with h | ⟨j, hj1, hj2, hj3⟩
      · exact Or.inl h
      · refine Or.inr ⟨j, ?_, hj2, hj3⟩
        rcases Nat.lt_or_ge k j with q | q
        · omega
        · have : j = k := by omega
          subst this
          exact absurd hj3 hx
    have g2 : A 0 k ≠ x → (∀ i, k + 1 ≤ i → i < n → A 0 i ≠ x) → r = -1 := fun hx h => h2 (fun i hi hi2 => by
      by_cases e : i = k
      · subst e; exact hx
      · exact h i (by omega) hi2)
    clear h1 h2 hk0
    refine kx_iload_n d_M_find_2 rfl ?_
    refine kx_aload_n d_M_find_3 rfl (by first | rfl | exact kx_rf _) ?_
    refine kx_get _ d_M_find_4 f_M_93 hM.1 (by rfl) ?_
    rw [hn]
    first | refine kx_icmp_ge_n 28 d_M_find_7 (by decide) (by omega) (by omega) ?_ ?_ | refine kx_icmp_ge 28 d_M_find_7 (by decide) ?_ ?_
    · intro h7
      exact absurd h7 (by omega)
    · intro h7
      refine kx_aload_n d_M_find_10 rfl (by first | rfl | exact kx_rf _) ?_
      refine kx_get _ d_M_find_11 f_M_7 hM.1 (by rfl) ?_
      refine kx_iload_n d_M_find_14 rfl ?_
      refine kx_iald d_M_find_15 hM.a0 (by omega) (by decide) ?_
      refine kx_iload_n d_M_find_16 rfl ?_
      refine kx_icmp_ne 22 d_M_find_17 (by decide) ?_ ?_
      · intro h17
        refine kx_iinc _ d_M_find_22 rfl (by decide) (nI_1 _) ?_
        refine kx_goto 2 d_M_find_25 (by decide) ?_
        refine kx_loc (L1 := [(0, .ref (ma 0)), (1, .int x), (2, .int (nI (k + 1)))]) ⟨rfl, rfl, rfl, trivial⟩ ?_
        exact ih (k + 1) (by omega) (g1 h17) (g2 h17)
      · intro h17
        refine kx_iload_n d_M_find_20 rfl ?_
        refine kx_iret d_M_find_21 rfl (by decide) (by decide) ?_
        rw [hk1 (Decidable.byContradiction (fun q => absurd h17 q))] at hQ
        exact hQ
set_option maxRecDepth 20000 in
set_option maxHeartbeats 4000000 in
theorem m_M_find {E : kx_E} {w : va_W} {ma : Nat → Nat} {F : Nat → Int32} {A : Nat → Nat → Int32} (hM : Mdl E w ma F A) {n : Nat} (hn : F 1 = nI n) (h24 : n ≤ 24) {x : Int32} {c : Nat} (hc : c < n) (hx : A 0 c = x) (hu : ∀ i, i < c → A 0 i ≠ x) : kx_S E Y_M_find [.ref (ma 0), .int x] w (kx_Qi w (nI c)) := by
  refine kx_go (by decide) rfl rfl (Nat.le_of_ble_eq_true rfl) (kx_cc rfl (kx_cc rfl kx_c0)) (fun z => ?_)
  have hO : kx_off w w mdlN := kx_off.rf
  refine kx_iconst (nI 0) d_M_find_0 (by decide) ?_
  refine kx_istore_n d_M_find_1 (by decide) ?_
  refine kx_loc (L1 := [(0, .ref (ma 0)), (1, .int x), (2, .int (nI 0))]) ⟨rfl, rfl, rfl, trivial⟩ ?_
  refine l_M_find hM hn h24 (r := nI c) ⟨rfl, rfl⟩ n 0 rfl (fun i _ hi e => ?_) (fun h => absurd hx (h c (Nat.zero_le _) hc))
  rcases Nat.lt_trichotomy i c with q | q | q
  · exact absurd e (hu i q)
  · exact Or.inl (by rw [q])
  · exact Or.inr ⟨c, Nat.zero_le _, q, hx⟩
set_option maxRecDepth 20000 in
set_option maxHeartbeats 4000000 in
theorem m_M_find_no {E : kx_E} {w : va_W} {ma : Nat → Nat} {F : Nat → Int32} {A : Nat → Nat → Int32} (hM : Mdl E w ma F A) {n : Nat} (hn : F 1 = nI n) (h24 : n ≤ 24) {x : Int32} (hx : ∀ i, i < n → A 0 i ≠ x) : kx_S E Y_M_find [.ref (ma 0), .int x] w (kx_Qi w (-1)) := by
  refine kx_go (by decide) rfl rfl (Nat.le_of_ble_eq_true rfl) (kx_cc rfl (kx_cc rfl kx_c0)) (fun z => ?_)
  have hO : kx_off w w mdlN := kx_off.rf
  refine kx_iconst (nI 0) d_M_find_0 (by decide) ?_
  refine kx_istore_n d_M_find_1 (by decide) ?_
  refine kx_loc (L1 := [(0, .ref (ma 0)), (1, .int x), (2, .int (nI 0))]) ⟨rfl, rfl, rfl, trivial⟩ ?_
  exact l_M_find hM hn h24 (r := -1) ⟨rfl, rfl⟩ n 0 rfl (fun i _ hi e => absurd e (hx i hi)) (fun _ => rfl)
theorem d_M_isEnd_0 : decode c_M_isEnd 0 = .ok (.iload_n 0, 1) := by decide +kernel
theorem d_M_isEnd_1 : decode c_M_isEnd 1 = .ok (.ifCond .eq 8, 3) := by decide +kernel
theorem d_M_isEnd_4 : decode c_M_isEnd 4 = .ok (.iload_n 0, 1) := by decide +kernel
theorem d_M_isEnd_5 : decode c_M_isEnd 5 = .ok (.iconst 1, 1) := by decide +kernel
theorem d_M_isEnd_6 : decode c_M_isEnd 6 = .ok (.if_icmp .ne 7, 3) := by decide +kernel
theorem d_M_isEnd_9 : decode c_M_isEnd 9 = .ok (.iconst 1, 1) := by decide +kernel
theorem d_M_isEnd_10 : decode c_M_isEnd 10 = .ok (.goto 4, 3) := by decide +kernel
theorem d_M_isEnd_13 : decode c_M_isEnd 13 = .ok (.iconst 0, 1) := by decide +kernel
theorem d_M_isEnd_14 : decode c_M_isEnd 14 = .ok (.ireturn, 1) := by decide +kernel
set_option maxRecDepth 20000 in
set_option maxHeartbeats 4000000 in
def isE (e : Int32) : Nat := if e = nI 0 ∨ e = nI 1 then 1 else 0
theorem m_M_isEnd {E : kx_E} {w : va_W} (e : Int32) : kx_S E Y_M_isEnd [.int e] w (kx_Qi w (nI (isE e))) := by
  refine kx_go (by decide) rfl rfl (Nat.le_of_ble_eq_true rfl) (kx_cc rfl kx_c0) (fun z => ?_)
  refine kx_iload_n d_M_isEnd_0 rfl ?_
  refine kx_if_eq 9 d_M_isEnd_1 (by decide) ?_ ?_
  · intro h1
    refine kx_iconst (nI 1) d_M_isEnd_9 (by decide) ?_
    refine kx_goto 14 d_M_isEnd_10 (by decide) ?_
    refine kx_zret d_M_isEnd_14 rfl (by decide) (by decide) (by decide) ?_
    first
      | (have h : isE e = 1 := if_pos (Or.inl h1)
         rw [h]
         exact ⟨rfl, rfl⟩)
      | (have h : isE e = 1 := if_pos (Or.inr (Decidable.byContradiction (fun q => absurd h6 q)))
         rw [h]
         exact ⟨rfl, rfl⟩)
      | (have h : isE e = 0 := if_neg (fun q => by rcases q with q | q; exact h1 q; exact h6 q)
         rw [h]
         exact ⟨rfl, rfl⟩)
  · intro h1
    refine kx_iload_n d_M_isEnd_4 rfl ?_
    refine kx_iconst (nI 1) d_M_isEnd_5 (by decide) ?_
    refine kx_icmp_ne 13 d_M_isEnd_6 (by decide) ?_ ?_
    · intro h6
      refine kx_iconst (nI 0) d_M_isEnd_13 (by decide) ?_
      refine kx_zret d_M_isEnd_14 rfl (by decide) (by decide) (by decide) ?_
      first
        | (have h : isE e = 1 := if_pos (Or.inl h1)
           rw [h]
           exact ⟨rfl, rfl⟩)
        | (have h : isE e = 1 := if_pos (Or.inr (Decidable.byContradiction (fun q => absurd h6 q)))
           rw [h]
           exact ⟨rfl, rfl⟩)
        | (have h : isE e = 0 := if_neg (fun q => by rcases q with q | q; exact h1 q; exact h6 q)
           rw [h]
           exact ⟨rfl, rfl⟩)
    · intro h6
      refine kx_iconst (nI 1) d_M_isEnd_9 (by decide) ?_
      refine kx_goto 14 d_M_isEnd_10 (by decide) ?_
      refine kx_zret d_M_isEnd_14 rfl (by decide) (by decide) (by decide) ?_
      first
        | (have h : isE e = 1 := if_pos (Or.inl h1)
           rw [h]
           exact ⟨rfl, rfl⟩)
        | (have h : isE e = 1 := if_pos (Or.inr (Decidable.byContradiction (fun q => absurd h6 q)))
           rw [h]
           exact ⟨rfl, rfl⟩)
        | (have h : isE e = 0 := if_neg (fun q => by rcases q with q | q; exact h1 q; exact h6 q)
           rw [h]
           exact ⟨rfl, rfl⟩)
