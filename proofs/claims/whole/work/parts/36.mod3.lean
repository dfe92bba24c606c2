/-! The reference: agrees, stateOf -/
theorem d_M_agrees_0 : decode c_M_agrees 0 = .ok (.iload_n 1, 1) := by decide +kernel
theorem d_M_agrees_1 : decode c_M_agrees 1 = .ok (.iconst 2, 1) := by decide +kernel
theorem d_M_agrees_2 : decode c_M_agrees 2 = .ok (.idiv, 1) := by decide +kernel
theorem d_M_agrees_3 : decode c_M_agrees 3 = .ok (.istore_n 2, 1) := by decide +kernel
theorem d_M_agrees_4 : decode c_M_agrees 4 = .ok (.aload_n 0, 1) := by decide +kernel
theorem d_M_agrees_5 : decode c_M_agrees 5 = .ok (.getfield 41, 3) := by decide +kernel
theorem d_M_agrees_8 : decode c_M_agrees 8 = .ok (.iload_n 2, 1) := by decide +kernel
theorem d_M_agrees_9 : decode c_M_agrees 9 = .ok (.iaload, 1) := by decide +kernel
theorem d_M_agrees_10 : decode c_M_agrees 10 = .ok (.ifCond .le 22, 3) := by decide +kernel
theorem d_M_agrees_13 : decode c_M_agrees 13 = .ok (.aload_n 0, 1) := by decide +kernel
theorem d_M_agrees_14 : decode c_M_agrees 14 = .ok (.getfield 47, 3) := by decide +kernel
theorem d_M_agrees_17 : decode c_M_agrees 17 = .ok (.iload_n 1, 1) := by decide +kernel
theorem d_M_agrees_18 : decode c_M_agrees 18 = .ok (.iaload, 1) := by decide +kernel
theorem d_M_agrees_19 : decode c_M_agrees 19 = .ok (.aload_n 0, 1) := by decide +kernel
theorem d_M_agrees_20 : decode c_M_agrees 20 = .ok (.getfield 41, 3) := by decide +kernel
theorem d_M_agrees_23 : decode c_M_agrees 23 = .ok (.iload_n 2, 1) := by decide +kernel
theorem d_M_agrees_24 : decode c_M_agrees 24 = .ok (.iaload, 1) := by decide +kernel
theorem d_M_agrees_25 : decode c_M_agrees 25 = .ok (.if_icmp .ne 7, 3) := by decide +kernel
theorem d_M_agrees_28 : decode c_M_agrees 28 = .ok (.iconst 1, 1) := by decide +kernel
theorem d_M_agrees_29 : decode c_M_agrees 29 = .ok (.goto 4, 3) := by decide +kernel
theorem d_M_agrees_32 : decode c_M_agrees 32 = .ok (.iconst 0, 1) := by decide +kernel
theorem d_M_agrees_33 : decode c_M_agrees 33 = .ok (.istore_n 3, 1) := by decide +kernel
theorem d_M_agrees_34 : decode c_M_agrees 34 = .ok (.iconst 0, 1) := by decide +kernel
theorem d_M_agrees_35 : decode c_M_agrees 35 = .ok (.istore 4, 2) := by decide +kernel
theorem d_M_agrees_37 : decode c_M_agrees 37 = .ok (.iload 4, 2) := by decide +kernel
theorem d_M_agrees_39 : decode c_M_agrees 39 = .ok (.aload_n 0, 1) := by decide +kernel
theorem d_M_agrees_40 : decode c_M_agrees 40 = .ok (.getfield 41, 3) := by decide +kernel
theorem d_M_agrees_43 : decode c_M_agrees 43 = .ok (.iload_n 2, 1) := by decide +kernel
theorem d_M_agrees_44 : decode c_M_agrees 44 = .ok (.iaload, 1) := by decide +kernel
theorem d_M_agrees_45 : decode c_M_agrees 45 = .ok (.if_icmp .ge 46, 3) := by decide +kernel
theorem d_M_agrees_48 : decode c_M_agrees 48 = .ok (.iload_n 3, 1) := by decide +kernel
theorem d_M_agrees_49 : decode c_M_agrees 49 = .ok (.ifCond .eq 42, 3) := by decide +kernel
theorem d_M_agrees_52 : decode c_M_agrees 52 = .ok (.aload_n 0, 1) := by decide +kernel
theorem d_M_agrees_53 : decode c_M_agrees 53 = .ok (.getfield 44, 3) := by decide +kernel
theorem d_M_agrees_56 : decode c_M_agrees 56 = .ok (.bipush 24, 2) := by decide +kernel
theorem d_M_agrees_58 : decode c_M_agrees 58 = .ok (.iload_n 1, 1) := by decide +kernel
theorem d_M_agrees_59 : decode c_M_agrees 59 = .ok (.imul, 1) := by decide +kernel
theorem d_M_agrees_60 : decode c_M_agrees 60 = .ok (.iload 4, 2) := by decide +kernel
theorem d_M_agrees_62 : decode c_M_agrees 62 = .ok (.iadd, 1) := by decide +kernel
theorem d_M_agrees_63 : decode c_M_agrees 63 = .ok (.iaload, 1) := by decide +kernel
theorem d_M_agrees_64 : decode c_M_agrees 64 = .ok (.aload_n 0, 1) := by decide +kernel
theorem d_M_agrees_65 : decode c_M_agrees 65 = .ok (.getfield 38, 3) := by decide +kernel
theorem d_M_agrees_68 : decode c_M_agrees 68 = .ok (.bipush 24, 2) := by decide +kernel
theorem d_M_agrees_70 : decode c_M_agrees 70 = .ok (.iload_n 2, 1) := by decide +kernel
theorem d_M_agrees_71 : decode c_M_agrees 71 = .ok (.imul, 1) := by decide +kernel
theorem d_M_agrees_72 : decode c_M_agrees 72 = .ok (.iload 4, 2) := by decide +kernel
theorem d_M_agrees_74 : decode c_M_agrees 74 = .ok (.iadd, 1) := by decide +kernel
theorem d_M_agrees_75 : decode c_M_agrees 75 = .ok (.iaload, 1) := by decide +kernel
theorem d_M_agrees_76 : decode c_M_agrees 76 = .ok (.if_icmp .ne 7, 3) := by decide +kernel
theorem d_M_agrees_79 : decode c_M_agrees 79 = .ok (.iconst 1, 1) := by decide +kernel
theorem d_M_agrees_80 : decode c_M_agrees 80 = .ok (.goto 4, 3) := by decide +kernel
theorem d_M_agrees_83 : decode c_M_agrees 83 = .ok (.iconst 0, 1) := by decide +kernel
theorem d_M_agrees_84 : decode c_M_agrees 84 = .ok (.istore_n 3, 1) := by decide +kernel
theorem d_M_agrees_85 : decode c_M_agrees 85 = .ok (.iinc 4 1, 3) := by decide +kernel
theorem d_M_agrees_88 : decode c_M_agrees 88 = .ok (.goto (-51), 3) := by decide +kernel
theorem d_M_agrees_91 : decode c_M_agrees 91 = .ok (.iload_n 3, 1) := by decide +kernel
theorem d_M_agrees_92 : decode c_M_agrees 92 = .ok (.ireturn, 1) := by decide +kernel
set_option maxRecDepth 20000 in
set_option maxHeartbeats 4000000 in
theorem e_M_agrees {E : kx_E} {w : va_W} {ma : Nat → Nat} {F : Nat → Int32} {A : Nat → Nat → Int32} (hM : Mdl E w ma F A) {p c k : Nat} (hc : c < 24) {l : List Nat} (hl : LisR (A 9) (A 10) c l) (h24 : l.length ≤ 24) (hk : k ≤ 24) {z : kx_Z} {Q : kx_O → va_W → Prop} (hQ : Q (.inl (some (.int (nI 0)))) w) : kx_R E Y_M_agrees z 37 [(0, .ref (ma 0)), (1, .int (nI p)), (2, .int (nI c)), (3, .int (nI 0)), (4, .int (nI k))] [] w 0 0 Q := by
  obtain ⟨hl1, hl2⟩ := hl
  refine kx_iload d_M_agrees_37 rfl ?_
  refine kx_aload_n d_M_agrees_39 rfl (by first | rfl | exact kx_rf _) ?_
  refine kx_get _ d_M_agrees_40 f_M_41 hM.1 (by rfl) ?_
  refine kx_iload_n d_M_agrees_43 rfl ?_
  refine kx_iald d_M_agrees_44 hM.a10 (by omega) (by decide) ?_
  rw [hl1]
  first | refine kx_icmp_ge_n 91 d_M_agrees_45 (by decide) (by omega) (by omega) ?_ ?_ | refine kx_icmp_ge 91 d_M_agrees_45 (by decide) ?_ ?_
  · intro h45
    refine kx_iload_n d_M_agrees_91 rfl ?_
    refine kx_zret d_M_agrees_92 rfl (by decide) (by decide) (by decide) ?_
    exact hQ
  · intro h45
    refine kx_iload_n d_M_agrees_48 rfl ?_
    refine kx_if_eq_n 91 d_M_agrees_49 (by decide) (by decide) (fun _ => ?_) (fun h => absurd rfl h)
    refine kx_iload_n d_M_agrees_91 rfl ?_
    refine kx_zret d_M_agrees_92 rfl (by decide) (by decide) (by decide) ?_
    exact hQ
set_option maxRecDepth 20000 in
set_option maxHeartbeats 4000000 in
theorem l_M_agrees {E : kx_E} {w : va_W} {ma : Nat → Nat} {F : Nat → Int32} {A : Nat → Nat → Int32} (hM : Mdl E w ma F A) {p c : Nat} (hp : p < 48) (hc : c < 24) {l u : List Nat} (hl : LisR (A 9) (A 10) c l) (hu : ∀ k, k < u.length → A 11 (24 * p + k) = nI (u.getD k 0)) (h24 : l.length ≤ 24) (hul : u.length = l.length) (hi : ∀ v ∈ l, v < 2 ^ 31) (hj : ∀ v ∈ u, v < 2 ^ 31) {z : kx_Z} {Q : kx_O → va_W → Prop} (hQ : Q (.inl (some (.int (nI (if u = l then 1 else 0))))) w) :
    ∀ (m k : Nat), m + k = l.length → (∀ i, i < k → u.getD i 0 = l.getD i 0) → kx_R E Y_M_agrees z 37 [(0, .ref (ma 0)), (1, .int (nI p)), (2, .int (nI c)), (3, .int (nI 1)), (4, .int (nI k))] [] w 0 0 Q := by
  have hl0 := hl
  obtain ⟨hl1, hl2⟩ := hl
  intro m
  induction m with
  | zero =>
    intro k hk hs
    have he : u = l := row_ext hul (fun j hj => hs j (by omega))
    rw [if_pos he] at hQ
    clear hs
    refine kx_iload d_M_agrees_37 rfl ?_
    refine kx_aload_n d_M_agrees_39 rfl (by first | rfl | exact kx_rf _) ?_
    refine kx_get _ d_M_agrees_40 f_M_41 hM.1 (by rfl) ?_
    refine kx_iload_n d_M_agrees_43 rfl ?_
    refine kx_iald d_M_agrees_44 hM.a10 (by omega) (by decide) ?_
    rw [hl1]
    first | refine kx_icmp_ge_n 91 d_M_agrees_45 (by decide) (by omega) (by omega) ?_ ?_ | refine kx_icmp_ge 91 d_M_agrees_45 (by decide) ?_ ?_
    · intro h45
      refine kx_iload_n d_M_agrees_91 rfl ?_
      refine kx_zret d_M_agrees_92 rfl (by decide) (by decide) (by decide) ?_
      exact hQ
    · intro h45
      exact absurd h45 (by omega)
  | succ m ih =>
    intro k hk hs
    have hkl : k < l.length := by omega
    have hv1 := hi _ (row_get l hkl)
    have hv2 := hj _ (row_get u (hul ▸ hkl))
    have g1 : u.getD k 0 = l.getD k 0 → ∀ i, i < k + 1 → u.getD i 0 = l.getD i 0 := fun e i hi => by
      rcases Nat.lt_or_ge i k with q | q
      · exact hs i q
      · have : i = k := by omega
        subst this; exact e
    clear hs
    refine kx_iload d_M_agrees_37 rfl ?_
    refine kx_aload_n d_M_agrees_39 rfl (by first | rfl | exact kx_rf _) ?_
    refine kx_get _ d_M_agrees_40 f_M_41 hM.1 (by rfl) ?_
    refine kx_iload_n d_M_agrees_43 rfl ?_
    refine kx_iald d_M_agrees_44 hM.a10 (by omega) (by decide) ?_
    rw [hl1]
    first | refine kx_icmp_ge_n 91 d_M_agrees_45 (by decide) (by omega) (by omega) ?_ ?_ | refine kx_icmp_ge 91 d_M_agrees_45 (by decide) ?_ ?_
    · intro h45
      exact absurd h45 (by omega)
    · intro h45
      refine kx_iload_n d_M_agrees_48 rfl ?_
      refine kx_if_eq_n 91 d_M_agrees_49 (by decide) (by decide) (fun h => absurd h (by decide)) (fun _ => ?_)
      refine kx_aload_n d_M_agrees_52 rfl (by first | rfl | exact kx_rf _) ?_
      refine kx_get _ d_M_agrees_53 f_M_44 hM.1 (by rfl) ?_
      refine kx_bipush (nI 24) d_M_agrees_56 (by decide) ?_
      refine kx_iload_n d_M_agrees_58 rfl ?_
      first | refine kx_imul _ d_M_agrees_59 (pk_mul _ _) ?_ | refine kx_imul _ d_M_agrees_59 rfl ?_
      refine kx_iload d_M_agrees_60 rfl ?_
      first | refine kx_iadd _ d_M_agrees_62 (nI_add _ _) ?_ | refine kx_iadd _ d_M_agrees_62 rfl ?_
      refine kx_iald d_M_agrees_63 hM.a11 (by omega) (by decide) ?_
      rw [hu k (by omega)]
      refine kx_aload_n d_M_agrees_64 rfl (by first | rfl | exact kx_rf _) ?_
      refine kx_get _ d_M_agrees_65 f_M_38 hM.1 (by rfl) ?_
      refine kx_bipush (nI 24) d_M_agrees_68 (by decide) ?_
      refine kx_iload_n d_M_agrees_70 rfl ?_
      first | refine kx_imul _ d_M_agrees_71 (pk_mul _ _) ?_ | refine kx_imul _ d_M_agrees_71 rfl ?_
      refine kx_iload d_M_agrees_72 rfl ?_
      first | refine kx_iadd _ d_M_agrees_74 (nI_add _ _) ?_ | refine kx_iadd _ d_M_agrees_74 rfl ?_
      refine kx_iald d_M_agrees_75 hM.a9 (by omega) (by decide) ?_
      rw [hl2 k hkl]
      first | refine kx_icmp_ne_n 83 d_M_agrees_76 (by decide) (by omega) (by omega) ?_ ?_ | refine kx_icmp_ne 83 d_M_agrees_76 (by decide) ?_ ?_
      · intro h76
        refine kx_iconst (nI 0) d_M_agrees_83 (by decide) ?_
        refine kx_istore_n d_M_agrees_84 (by decide) ?_
        refine kx_iinc _ d_M_agrees_85 rfl (by decide) (nI_1 _) ?_
        refine kx_goto 37 d_M_agrees_88 (by decide) ?_
        first
          | (have hne : ¬ u = l := fun e => h76 (by rw [e])
             rw [if_neg hne] at hQ
             refine kx_loc (L1 := [(0, .ref (ma 0)), (1, .int (nI p)), (2, .int (nI c)), (3, .int (nI 0)), (4, .int (nI (k + 1)))]) ⟨rfl, rfl, rfl, rfl, rfl, trivial⟩ ?_
             exact e_M_agrees hM hc hl0 h24 (by omega) hQ)
          | (refine kx_loc (L1 := [(0, .ref (ma 0)), (1, .int (nI p)), (2, .int (nI c)), (3, .int (nI 1)), (4, .int (nI (k + 1)))]) ⟨rfl, rfl, rfl, rfl, rfl, trivial⟩ ?_
             exact ih (k + 1) (by omega) (g1 (by omega)))
      · intro h76
        refine kx_iconst (nI 1) d_M_agrees_79 (by decide) ?_
        refine kx_goto 84 d_M_agrees_80 (by decide) ?_
        refine kx_istore_n d_M_agrees_84 (by decide) ?_
        refine kx_iinc _ d_M_agrees_85 rfl (by decide) (nI_1 _) ?_
        refine kx_goto 37 d_M_agrees_88 (by decide) ?_
        first
          | (have hne : ¬ u = l := fun e => h76 (by rw [e])
             rw [if_neg hne] at hQ
             refine kx_loc (L1 := [(0, .ref (ma 0)), (1, .int (nI p)), (2, .int (nI c)), (3, .int (nI 0)), (4, .int (nI (k + 1)))]) ⟨rfl, rfl, rfl, rfl, rfl, trivial⟩ ?_
             exact e_M_agrees hM hc hl0 h24 (by omega) hQ)
          | (refine kx_loc (L1 := [(0, .ref (ma 0)), (1, .int (nI p)), (2, .int (nI c)), (3, .int (nI 1)), (4, .int (nI (k + 1)))]) ⟨rfl, rfl, rfl, rfl, rfl, trivial⟩ ?_
             exact ih (k + 1) (by omega) (g1 (by omega)))
set_option maxRecDepth 20000 in
set_option maxHeartbeats 4000000 in
theorem m_M_agrees {E : kx_E} {w : va_W} {ma : Nat → Nat} {F : Nat → Int32} {A : Nat → Nat → Int32} (hM : Mdl E w ma F A) {n : Nat} {X : Fx} {D : Dy} (hR : ModR n X D A) (hX : WfX n X) (hD : WfD n D) (hn : F 1 = nI n) {p : Nat} (hp : p < 2 * n) : kx_S E Y_M_agrees [.ref (ma 0), .int (nI p)] w (kx_Qi w (nI (agrM D p))) := by
  refine kx_go (by decide) rfl rfl (Nat.le_of_ble_eq_true rfl) (kx_cc rfl (kx_cc rfl kx_c0)) (fun z => ?_)
  have hO : kx_off w w mdlN := kx_off.rf
  have h24 := hX.1
  obtain ⟨c, hc⟩ : ∃ c, c = p / 2 := ⟨_, rfl⟩
  have hcn : c < n := by omega
  have hc24 : c < 24 := by omega
  have hl := hR.dis c hcn
  have hdc := (hD.2.2 c hcn).1
  have h25 := hdc.1
  have hi : ∀ v ∈ dDi D c, v < 2 ^ 31 := fun v hv => by have := hdc.2 v hv; omega
  have ht := hR.tos p hp
  have hto := hD.2.1 p hp
  unfold agrM
  rw [← hc]
  obtain ⟨ht1, ht2⟩ := ht
  have hl1 := hl.1
  cases hk : dTo D p with
  | none =>
    rw [hk] at ht1
    have ht1 : A 12 p = -1 := ht1
    rw [if_neg (fun q => by cases q.2)]
    clear hto ht2 hi
    refine kx_iload_n d_M_agrees_0 rfl ?_
    refine kx_iconst (nI 2) d_M_agrees_1 (by decide) ?_
    first | refine kx_idiv _ d_M_agrees_2 (by decide) (pk_div (by omega) (by omega) (by omega)) ?_ | refine kx_idiv _ d_M_agrees_2 (by decide) rfl ?_
    refine kx_istore_n d_M_agrees_3 (by decide) ?_
    rw [← hc]
    refine kx_aload_n d_M_agrees_4 rfl (by first | rfl | exact kx_rf _) ?_
    refine kx_get _ d_M_agrees_5 f_M_41 hM.1 (by rfl) ?_
    refine kx_iload_n d_M_agrees_8 rfl ?_
    refine kx_iald d_M_agrees_9 hM.a10 (by omega) (by decide) ?_
    rw [hl1]
    refine kx_if_le_n 32 d_M_agrees_10 (by decide) (by omega) ?_ ?_
    · intro h10
      refine kx_iconst (nI 0) d_M_agrees_32 (by decide) ?_
      refine kx_istore_n d_M_agrees_33 (by decide) ?_
      refine kx_iconst (nI 0) d_M_agrees_34 (by decide) ?_
      refine kx_istore d_M_agrees_35 (by decide) ?_
      refine kx_loc (L1 := [(0, .ref (ma 0)), (1, .int (nI p)), (2, .int (nI c)), (3, .int (nI 0)), (4, .int (nI 0))]) ⟨rfl, rfl, rfl, rfl, rfl, trivial⟩ ?_
      exact e_M_agrees hM hc24 hl h25 (by decide) ⟨rfl, rfl⟩
    · intro h10
      refine kx_aload_n d_M_agrees_13 rfl (by first | rfl | exact kx_rf _) ?_
      refine kx_get _ d_M_agrees_14 f_M_47 hM.1 (by rfl) ?_
      refine kx_iload_n d_M_agrees_17 rfl ?_
      refine kx_iald d_M_agrees_18 hM.a12 (by omega) (by decide) ?_
      rw [ht1]
      refine kx_aload_n d_M_agrees_19 rfl (by first | rfl | exact kx_rf _) ?_
      refine kx_get _ d_M_agrees_20 f_M_41 hM.1 (by rfl) ?_
      refine kx_iload_n d_M_agrees_23 rfl ?_
      refine kx_iald d_M_agrees_24 hM.a10 (by omega) (by decide) ?_
      rw [hl1]
      refine kx_icmp_ne 32 d_M_agrees_25 (by decide) ?_ ?_
      · intro h25a
        refine kx_iconst (nI 0) d_M_agrees_32 (by decide) ?_
        refine kx_istore_n d_M_agrees_33 (by decide) ?_
        refine kx_iconst (nI 0) d_M_agrees_34 (by decide) ?_
        refine kx_istore d_M_agrees_35 (by decide) ?_
        refine kx_loc (L1 := [(0, .ref (ma 0)), (1, .int (nI p)), (2, .int (nI c)), (3, .int (nI 0)), (4, .int (nI 0))]) ⟨rfl, rfl, rfl, rfl, rfl, trivial⟩ ?_
        exact e_M_agrees hM hc24 hl h25 (by decide) ⟨rfl, rfl⟩
      · intro h25a
        exact absurd h25a.symm (nI_m1 (a := (dDi D c).length) (by omega))
  | some u =>
    rw [hk] at ht1
    have ht1 : A 12 p = nI u.length := ht1
    have hu := ht2 u hk
    have hut := hto u hk
    have hj : ∀ v ∈ u, v < 2 ^ 31 := fun v hv => by have := hut.2 v hv; omega
    have hu24 := hut.1
    clear hto ht2
    refine kx_iload_n d_M_agrees_0 rfl ?_
    refine kx_iconst (nI 2) d_M_agrees_1 (by decide) ?_
    first | refine kx_idiv _ d_M_agrees_2 (by decide) (pk_div (by omega) (by omega) (by omega)) ?_ | refine kx_idiv _ d_M_agrees_2 (by decide) rfl ?_
    refine kx_istore_n d_M_agrees_3 (by decide) ?_
    rw [← hc]
    refine kx_aload_n d_M_agrees_4 rfl (by first | rfl | exact kx_rf _) ?_
    refine kx_get _ d_M_agrees_5 f_M_41 hM.1 (by rfl) ?_
    refine kx_iload_n d_M_agrees_8 rfl ?_
    refine kx_iald d_M_agrees_9 hM.a10 (by omega) (by decide) ?_
    rw [hl1]
    refine kx_if_le_n 32 d_M_agrees_10 (by decide) (by omega) ?_ ?_
    · intro h10
      refine kx_iconst (nI 0) d_M_agrees_32 (by decide) ?_
      refine kx_istore_n d_M_agrees_33 (by decide) ?_
      refine kx_iconst (nI 0) d_M_agrees_34 (by decide) ?_
      refine kx_istore d_M_agrees_35 (by decide) ?_
      first
        | (have hne : ¬ (dDi D c ≠ [] ∧ some u = some (dDi D c)) := fun q => q.1 (List.eq_nil_of_length_eq_zero h10)
           rw [if_neg hne]
           refine kx_loc (L1 := [(0, .ref (ma 0)), (1, .int (nI p)), (2, .int (nI c)), (3, .int (nI 0)), (4, .int (nI 0))]) ⟨rfl, rfl, rfl, rfl, rfl, trivial⟩ ?_
           exact e_M_agrees hM hc24 hl h25 (by decide) ⟨rfl, rfl⟩)
        | (have hne : ¬ (dDi D c ≠ [] ∧ some u = some (dDi D c)) := fun q => h25a (by rw [Option.some.inj q.2])
           rw [if_neg hne]
           refine kx_loc (L1 := [(0, .ref (ma 0)), (1, .int (nI p)), (2, .int (nI c)), (3, .int (nI 0)), (4, .int (nI 0))]) ⟨rfl, rfl, rfl, rfl, rfl, trivial⟩ ?_
           exact e_M_agrees hM hc24 hl h25 (by decide) ⟨rfl, rfl⟩)
        | (have hne : dDi D c ≠ [] := fun q => by rw [q] at h10; exact Nat.lt_irrefl _ h10
           have hiff : (if dDi D c ≠ [] ∧ some u = some (dDi D c) then 1 else 0) = if u = dDi D c then 1 else 0 := by
             by_cases e : u = dDi D c
             · rw [if_pos e, if_pos ⟨hne, by rw [e]⟩]
             · rw [if_neg e, if_neg (fun q => e (Option.some.inj q.2))]
           rw [hiff]
           refine kx_loc (L1 := [(0, .ref (ma 0)), (1, .int (nI p)), (2, .int (nI c)), (3, .int (nI 1)), (4, .int (nI 0))]) ⟨rfl, rfl, rfl, rfl, rfl, trivial⟩ ?_
           exact l_M_agrees hM (by omega) hc24 hl hu h25 (by omega) hi hj ⟨rfl, rfl⟩ (dDi D c).length 0 rfl (fun i hi => absurd hi (Nat.not_lt_zero _)))
    · intro h10
      refine kx_aload_n d_M_agrees_13 rfl (by first | rfl | exact kx_rf _) ?_
      refine kx_get _ d_M_agrees_14 f_M_47 hM.1 (by rfl) ?_
      refine kx_iload_n d_M_agrees_17 rfl ?_
      refine kx_iald d_M_agrees_18 hM.a12 (by omega) (by decide) ?_
      rw [ht1]
      refine kx_aload_n d_M_agrees_19 rfl (by first | rfl | exact kx_rf _) ?_
      refine kx_get _ d_M_agrees_20 f_M_41 hM.1 (by rfl) ?_
      refine kx_iload_n d_M_agrees_23 rfl ?_
      refine kx_iald d_M_agrees_24 hM.a10 (by omega) (by decide) ?_
      rw [hl1]
      first | refine kx_icmp_ne_n 32 d_M_agrees_25 (by decide) (by omega) (by omega) ?_ ?_ | refine kx_icmp_ne 32 d_M_agrees_25 (by decide) ?_ ?_
      · intro h25a
        refine kx_iconst (nI 0) d_M_agrees_32 (by decide) ?_
        refine kx_istore_n d_M_agrees_33 (by decide) ?_
        refine kx_iconst (nI 0) d_M_agrees_34 (by decide) ?_
        refine kx_istore d_M_agrees_35 (by decide) ?_
        first
          | (have hne : ¬ (dDi D c ≠ [] ∧ some u = some (dDi D c)) := fun q => q.1 (List.eq_nil_of_length_eq_zero h10)
             rw [if_neg hne]
             refine kx_loc (L1 := [(0, .ref (ma 0)), (1, .int (nI p)), (2, .int (nI c)), (3, .int (nI 0)), (4, .int (nI 0))]) ⟨rfl, rfl, rfl, rfl, rfl, trivial⟩ ?_
             exact e_M_agrees hM hc24 hl h25 (by decide) ⟨rfl, rfl⟩)
          | (have hne : ¬ (dDi D c ≠ [] ∧ some u = some (dDi D c)) := fun q => h25a (by rw [Option.some.inj q.2])
             rw [if_neg hne]
             refine kx_loc (L1 := [(0, .ref (ma 0)), (1, .int (nI p)), (2, .int (nI c)), (3, .int (nI 0)), (4, .int (nI 0))]) ⟨rfl, rfl, rfl, rfl, rfl, trivial⟩ ?_
             exact e_M_agrees hM hc24 hl h25 (by decide) ⟨rfl, rfl⟩)
          | (have hne : dDi D c ≠ [] := fun q => by rw [q] at h10; exact Nat.lt_irrefl _ h10
             have hiff : (if dDi D c ≠ [] ∧ some u = some (dDi D c) then 1 else 0) = if u = dDi D c then 1 else 0 := by
               by_cases e : u = dDi D c
               · rw [if_pos e, if_pos ⟨hne, by rw [e]⟩]
               · rw [if_neg e, if_neg (fun q => e (Option.some.inj q.2))]
             rw [hiff]
             refine kx_loc (L1 := [(0, .ref (ma 0)), (1, .int (nI p)), (2, .int (nI c)), (3, .int (nI 1)), (4, .int (nI 0))]) ⟨rfl, rfl, rfl, rfl, rfl, trivial⟩ ?_
             exact l_M_agrees hM (by omega) hc24 hl hu h25 (by omega) hi hj ⟨rfl, rfl⟩ (dDi D c).length 0 rfl (fun i hi => absurd hi (Nat.not_lt_zero _)))
      · intro h25a
        refine kx_iconst (nI 1) d_M_agrees_28 (by decide) ?_
        refine kx_goto 33 d_M_agrees_29 (by decide) ?_
        refine kx_istore_n d_M_agrees_33 (by decide) ?_
        refine kx_iconst (nI 0) d_M_agrees_34 (by decide) ?_
        refine kx_istore d_M_agrees_35 (by decide) ?_
        first
          | (have hne : ¬ (dDi D c ≠ [] ∧ some u = some (dDi D c)) := fun q => q.1 (List.eq_nil_of_length_eq_zero h10)
             rw [if_neg hne]
             refine kx_loc (L1 := [(0, .ref (ma 0)), (1, .int (nI p)), (2, .int (nI c)), (3, .int (nI 0)), (4, .int (nI 0))]) ⟨rfl, rfl, rfl, rfl, rfl, trivial⟩ ?_
             exact e_M_agrees hM hc24 hl h25 (by decide) ⟨rfl, rfl⟩)
          | (have hne : ¬ (dDi D c ≠ [] ∧ some u = some (dDi D c)) := fun q => h25a (by rw [Option.some.inj q.2])
             rw [if_neg hne]
             refine kx_loc (L1 := [(0, .ref (ma 0)), (1, .int (nI p)), (2, .int (nI c)), (3, .int (nI 0)), (4, .int (nI 0))]) ⟨rfl, rfl, rfl, rfl, rfl, trivial⟩ ?_
             exact e_M_agrees hM hc24 hl h25 (by decide) ⟨rfl, rfl⟩)
          | (have hne : dDi D c ≠ [] := fun q => by rw [q] at h10; exact Nat.lt_irrefl _ h10
             have hiff : (if dDi D c ≠ [] ∧ some u = some (dDi D c) then 1 else 0) = if u = dDi D c then 1 else 0 := by
               by_cases e : u = dDi D c
               · rw [if_pos e, if_pos ⟨hne, by rw [e]⟩]
               · rw [if_neg e, if_neg (fun q => e (Option.some.inj q.2))]
             rw [hiff]
             refine kx_loc (L1 := [(0, .ref (ma 0)), (1, .int (nI p)), (2, .int (nI c)), (3, .int (nI 1)), (4, .int (nI 0))]) ⟨rfl, rfl, rfl, rfl, rfl, trivial⟩ ?_
             exact l_M_agrees hM (by omega) hc24 hl hu h25 (by omega) hi hj ⟨rfl, rfl⟩ (dDi D c).length 0 rfl (fun i hi => absurd hi (Nat.not_lt_zero _)))
theorem d_M_stateOf_0 : decode c_M_stateOf 0 = .ok (.aload_n 0, 1) := by decide +kernel
theorem d_M_stateOf_1 : decode c_M_stateOf 1 = .ok (.getfield 41, 3) := by decide +kernel
theorem d_M_stateOf_4 : decode c_M_stateOf 4 = .ok (.iload_n 1, 1) := by decide +kernel
theorem d_M_stateOf_5 : decode c_M_stateOf 5 = .ok (.iaload, 1) := by decide +kernel
theorem d_M_stateOf_6 : decode c_M_stateOf 6 = .ok (.ifCond .ne 5, 3) := by decide +kernel
theorem d_M_stateOf_9 : decode c_M_stateOf 9 = .ok (.iconst 0, 1) := by decide +kernel
theorem d_M_stateOf_10 : decode c_M_stateOf 10 = .ok (.ireturn, 1) := by decide +kernel
theorem d_M_stateOf_11 : decode c_M_stateOf 11 = .ok (.iconst 1, 1) := by decide +kernel
theorem d_M_stateOf_12 : decode c_M_stateOf 12 = .ok (.istore_n 2, 1) := by decide +kernel
theorem d_M_stateOf_13 : decode c_M_stateOf 13 = .ok (.iconst 2, 1) := by decide +kernel
theorem d_M_stateOf_14 : decode c_M_stateOf 14 = .ok (.iload_n 1, 1) := by decide +kernel
theorem d_M_stateOf_15 : decode c_M_stateOf 15 = .ok (.imul, 1) := by decide +kernel
theorem d_M_stateOf_16 : decode c_M_stateOf 16 = .ok (.istore_n 3, 1) := by decide +kernel
theorem d_M_stateOf_17 : decode c_M_stateOf 17 = .ok (.iload_n 3, 1) := by decide +kernel
theorem d_M_stateOf_18 : decode c_M_stateOf 18 = .ok (.iconst 2, 1) := by decide +kernel
theorem d_M_stateOf_19 : decode c_M_stateOf 19 = .ok (.iload_n 1, 1) := by decide +kernel
theorem d_M_stateOf_20 : decode c_M_stateOf 20 = .ok (.imul, 1) := by decide +kernel
theorem d_M_stateOf_21 : decode c_M_stateOf 21 = .ok (.iconst 2, 1) := by decide +kernel
theorem d_M_stateOf_22 : decode c_M_stateOf 22 = .ok (.iadd, 1) := by decide +kernel
theorem d_M_stateOf_23 : decode c_M_stateOf 23 = .ok (.if_icmp .ge 37, 3) := by decide +kernel
theorem d_M_stateOf_26 : decode c_M_stateOf 26 = .ok (.iload_n 2, 1) := by decide +kernel
theorem d_M_stateOf_27 : decode c_M_stateOf 27 = .ok (.ifCond .eq 25, 3) := by decide +kernel
theorem d_M_stateOf_30 : decode c_M_stateOf 30 = .ok (.aload_n 0, 1) := by decide +kernel
theorem d_M_stateOf_31 : decode c_M_stateOf 31 = .ok (.getfield 35, 3) := by decide +kernel
theorem d_M_stateOf_34 : decode c_M_stateOf 34 = .ok (.iload_n 3, 1) := by decide +kernel
theorem d_M_stateOf_35 : decode c_M_stateOf 35 = .ok (.iaload, 1) := by decide +kernel
theorem d_M_stateOf_36 : decode c_M_stateOf 36 = .ok (.iconst 4, 1) := by decide +kernel
theorem d_M_stateOf_37 : decode c_M_stateOf 37 = .ok (.if_icmp .eq 11, 3) := by decide +kernel
theorem d_M_stateOf_40 : decode c_M_stateOf 40 = .ok (.aload_n 0, 1) := by decide +kernel
theorem d_M_stateOf_41 : decode c_M_stateOf 41 = .ok (.iload_n 3, 1) := by decide +kernel
theorem d_M_stateOf_42 : decode c_M_stateOf 42 = .ok (.invokevirtual 132, 3) := by decide +kernel
theorem d_M_stateOf_45 : decode c_M_stateOf 45 = .ok (.ifCond .eq 7, 3) := by decide +kernel
theorem d_M_stateOf_48 : decode c_M_stateOf 48 = .ok (.iconst 1, 1) := by decide +kernel
theorem d_M_stateOf_49 : decode c_M_stateOf 49 = .ok (.goto 4, 3) := by decide +kernel
theorem d_M_stateOf_52 : decode c_M_stateOf 52 = .ok (.iconst 0, 1) := by decide +kernel
theorem d_M_stateOf_53 : decode c_M_stateOf 53 = .ok (.istore_n 2, 1) := by decide +kernel
theorem d_M_stateOf_54 : decode c_M_stateOf 54 = .ok (.iinc 3 1, 3) := by decide +kernel
theorem d_M_stateOf_57 : decode c_M_stateOf 57 = .ok (.goto (-40), 3) := by decide +kernel
theorem d_M_stateOf_60 : decode c_M_stateOf 60 = .ok (.iload_n 2, 1) := by decide +kernel
theorem d_M_stateOf_61 : decode c_M_stateOf 61 = .ok (.ifCond .eq 7, 3) := by decide +kernel
theorem d_M_stateOf_64 : decode c_M_stateOf 64 = .ok (.iconst 2, 1) := by decide +kernel
theorem d_M_stateOf_65 : decode c_M_stateOf 65 = .ok (.goto 4, 3) := by decide +kernel
theorem d_M_stateOf_68 : decode c_M_stateOf 68 = .ok (.iconst 1, 1) := by decide +kernel
theorem d_M_stateOf_69 : decode c_M_stateOf 69 = .ok (.ireturn, 1) := by decide +kernel
set_option maxRecDepth 20000 in
set_option maxHeartbeats 4000000 in
theorem agrM_01 (D : Dy) (p : Nat) : agrM D p < 2 := by unfold agrM; split <;> decide
def stI (D : Dy) (a p : Nat) : Nat := if a = 1 ∧ (dSi D p = 4 ∨ agrM D p = 1) then 1 else 0
theorem stI_01 (D : Dy) (a p : Nat) : stI D a p < 2 := by unfold stI; split <;> decide
set_option maxRecDepth 20000 in
set_option maxHeartbeats 4000000 in
theorem s_M_stateOf {E : kx_E} {w : va_W} {ma : Nat → Nat} {F : Nat → Int32} {A : Nat → Nat → Int32} (hM : Mdl E w ma F A) {n : Nat} {X : Fx} {D : Dy} (hR : ModR n X D A) (hX : WfX n X) (hD : WfD n D) (hn : F 1 = nI n) {c a p : Nat} (hc : c < n) (ha : a < 2) (hp : p < 2 * c + 2) {z : kx_Z} {Q : kx_O → va_W → Prop} (hk : kx_R E Y_M_stateOf z 17 [(0, .ref (ma 0)), (1, .int (nI c)), (2, .int (nI (stI D a p))), (3, .int (nI (p + 1)))] [] w 0 0 Q) : kx_R E Y_M_stateOf z 17 [(0, .ref (ma 0)), (1, .int (nI c)), (2, .int (nI a)), (3, .int (nI p))] [] w 0 0 Q := by
  have h24 := hX.1
  have hsi := hR.sis p (by omega)
  have h4 := (hD.1 p (by omega)).2.2
  have h01 := agrM_01 D p
  refine kx_iload_n d_M_stateOf_17 rfl ?_
  refine kx_iconst (nI 2) d_M_stateOf_18 (by decide) ?_
  refine kx_iload_n d_M_stateOf_19 rfl ?_
  first | refine kx_imul _ d_M_stateOf_20 (pk_mul _ _) ?_ | refine kx_imul _ d_M_stateOf_20 rfl ?_
  refine kx_iconst (nI 2) d_M_stateOf_21 (by decide) ?_
  first | refine kx_iadd _ d_M_stateOf_22 (nI_add _ _) ?_ | refine kx_iadd _ d_M_stateOf_22 rfl ?_
  first | refine kx_icmp_ge_n 60 d_M_stateOf_23 (by decide) (by omega) (by omega) ?_ ?_ | refine kx_icmp_ge 60 d_M_stateOf_23 (by decide) ?_ ?_
  · intro h23
    exact absurd h23 (by omega)
  · intro h23
    refine kx_iload_n d_M_stateOf_26 rfl ?_
    first | refine kx_if_eq_n 52 d_M_stateOf_27 (by decide) (by omega) ?_ ?_ | refine kx_if_eq 52 d_M_stateOf_27 (by decide) ?_ ?_
    · intro h27
      refine kx_iconst (nI 0) d_M_stateOf_52 (by decide) ?_
      refine kx_istore_n d_M_stateOf_53 (by decide) ?_
      refine kx_iinc _ d_M_stateOf_54 rfl (by decide) (nI_1 _) ?_
      refine kx_goto 17 d_M_stateOf_57 (by decide) ?_
      first
        | (have hs : stI D a p = 1 := by unfold stI; rw [if_pos ⟨by omega, Or.inl (by omega)⟩]
           rw [hs] at hk
           exact kx_loc (L1 := [(0, .ref (ma 0)), (1, .int (nI c)), (2, .int (nI 1)), (3, .int (nI (p + 1)))]) ⟨rfl, rfl, rfl, rfl, trivial⟩ hk)
        | (have hs : stI D a p = 1 := by unfold stI; rw [if_pos ⟨by omega, Or.inr (by omega)⟩]
           rw [hs] at hk
           exact kx_loc (L1 := [(0, .ref (ma 0)), (1, .int (nI c)), (2, .int (nI 1)), (3, .int (nI (p + 1)))]) ⟨rfl, rfl, rfl, rfl, trivial⟩ hk)
        | (have hs : stI D a p = 0 := by unfold stI; rw [if_neg (fun q => by have := q.1; omega)]
           rw [hs] at hk
           exact kx_loc (L1 := [(0, .ref (ma 0)), (1, .int (nI c)), (2, .int (nI 0)), (3, .int (nI (p + 1)))]) ⟨rfl, rfl, rfl, rfl, trivial⟩ hk)
        | (have hs : stI D a p = 0 := by unfold stI; rw [if_neg (fun q => by have := q.2; omega)]
           rw [hs] at hk
           exact kx_loc (L1 := [(0, .ref (ma 0)), (1, .int (nI c)), (2, .int (nI 0)), (3, .int (nI (p + 1)))]) ⟨rfl, rfl, rfl, rfl, trivial⟩ hk)
    · intro h27
      refine kx_aload_n d_M_stateOf_30 rfl (by first | rfl | exact kx_rf _) ?_
      refine kx_get _ d_M_stateOf_31 f_M_35 hM.1 (by rfl) ?_
      refine kx_iload_n d_M_stateOf_34 rfl ?_
      refine kx_iald d_M_stateOf_35 hM.a8 (by omega) (by decide) ?_
      rw [hsi]
      refine kx_iconst (nI 4) d_M_stateOf_36 (by decide) ?_
      first | refine kx_icmp_eq_n 48 d_M_stateOf_37 (by decide) (by omega) (by omega) ?_ ?_ | refine kx_icmp_eq 48 d_M_stateOf_37 (by decide) ?_ ?_
      · intro h37
        refine kx_iconst (nI 1) d_M_stateOf_48 (by decide) ?_
        refine kx_goto 53 d_M_stateOf_49 (by decide) ?_
        refine kx_istore_n d_M_stateOf_53 (by decide) ?_
        refine kx_iinc _ d_M_stateOf_54 rfl (by decide) (nI_1 _) ?_
        refine kx_goto 17 d_M_stateOf_57 (by decide) ?_
        first
          | (have hs : stI D a p = 1 := by unfold stI; rw [if_pos ⟨by omega, Or.inl (by omega)⟩]
             rw [hs] at hk
             exact kx_loc (L1 := [(0, .ref (ma 0)), (1, .int (nI c)), (2, .int (nI 1)), (3, .int (nI (p + 1)))]) ⟨rfl, rfl, rfl, rfl, trivial⟩ hk)
          | (have hs : stI D a p = 1 := by unfold stI; rw [if_pos ⟨by omega, Or.inr (by omega)⟩]
             rw [hs] at hk
             exact kx_loc (L1 := [(0, .ref (ma 0)), (1, .int (nI c)), (2, .int (nI 1)), (3, .int (nI (p + 1)))]) ⟨rfl, rfl, rfl, rfl, trivial⟩ hk)
          | (have hs : stI D a p = 0 := by unfold stI; rw [if_neg (fun q => by have := q.1; omega)]
             rw [hs] at hk
             exact kx_loc (L1 := [(0, .ref (ma 0)), (1, .int (nI c)), (2, .int (nI 0)), (3, .int (nI (p + 1)))]) ⟨rfl, rfl, rfl, rfl, trivial⟩ hk)
          | (have hs : stI D a p = 0 := by unfold stI; rw [if_neg (fun q => by have := q.2; omega)]
             rw [hs] at hk
             exact kx_loc (L1 := [(0, .ref (ma 0)), (1, .int (nI c)), (2, .int (nI 0)), (3, .int (nI (p + 1)))]) ⟨rfl, rfl, rfl, rfl, trivial⟩ hk)
      · intro h37
        refine kx_aload_n d_M_stateOf_40 rfl (by first | rfl | exact kx_rf _) ?_
        refine kx_iload_n d_M_stateOf_41 rfl ?_
        refine kx_callV (as := [.int (nI p)]) (rest := []) d_M_stateOf_42 v_M_132 rfl hM.1 rfl rfl (by decide) (by decide) (Nat.le_of_ble_eq_true rfl) (by decide) (by decide) rfl (m_M_agrees hM hR hX hD hn (p := p) (by omega)) (fun X w1 h => by cases h.1) (fun v w1 hq9 => ?_)
        obtain ⟨hv, hw9⟩ := hq9
        cases hv
        subst hw9
        refine kx_stk (st1 := [.int (nI (agrM D p))]) rfl ?_
        first | refine kx_if_eq_n 52 d_M_stateOf_45 (by decide) (by omega) ?_ ?_ | refine kx_if_eq 52 d_M_stateOf_45 (by decide) ?_ ?_
        · intro h45
          refine kx_iconst (nI 0) d_M_stateOf_52 (by decide) ?_
          refine kx_istore_n d_M_stateOf_53 (by decide) ?_
          refine kx_iinc _ d_M_stateOf_54 rfl (by decide) (nI_1 _) ?_
          refine kx_goto 17 d_M_stateOf_57 (by decide) ?_
          first
            | (have hs : stI D a p = 1 := by unfold stI; rw [if_pos ⟨by omega, Or.inl (by omega)⟩]
               rw [hs] at hk
               exact kx_loc (L1 := [(0, .ref (ma 0)), (1, .int (nI c)), (2, .int (nI 1)), (3, .int (nI (p + 1)))]) ⟨rfl, rfl, rfl, rfl, trivial⟩ hk)
            | (have hs : stI D a p = 1 := by unfold stI; rw [if_pos ⟨by omega, Or.inr (by omega)⟩]
               rw [hs] at hk
               exact kx_loc (L1 := [(0, .ref (ma 0)), (1, .int (nI c)), (2, .int (nI 1)), (3, .int (nI (p + 1)))]) ⟨rfl, rfl, rfl, rfl, trivial⟩ hk)
            | (have hs : stI D a p = 0 := by unfold stI; rw [if_neg (fun q => by have := q.1; omega)]
               rw [hs] at hk
               exact kx_loc (L1 := [(0, .ref (ma 0)), (1, .int (nI c)), (2, .int (nI 0)), (3, .int (nI (p + 1)))]) ⟨rfl, rfl, rfl, rfl, trivial⟩ hk)
            | (have hs : stI D a p = 0 := by unfold stI; rw [if_neg (fun q => by have := q.2; omega)]
               rw [hs] at hk
               exact kx_loc (L1 := [(0, .ref (ma 0)), (1, .int (nI c)), (2, .int (nI 0)), (3, .int (nI (p + 1)))]) ⟨rfl, rfl, rfl, rfl, trivial⟩ hk)
        · intro h45
          refine kx_iconst (nI 1) d_M_stateOf_48 (by decide) ?_
          refine kx_goto 53 d_M_stateOf_49 (by decide) ?_
          refine kx_istore_n d_M_stateOf_53 (by decide) ?_
          refine kx_iinc _ d_M_stateOf_54 rfl (by decide) (nI_1 _) ?_
          refine kx_goto 17 d_M_stateOf_57 (by decide) ?_
          first
            | (have hs : stI D a p = 1 := by unfold stI; rw [if_pos ⟨by omega, Or.inl (by omega)⟩]
               rw [hs] at hk
               exact kx_loc (L1 := [(0, .ref (ma 0)), (1, .int (nI c)), (2, .int (nI 1)), (3, .int (nI (p + 1)))]) ⟨rfl, rfl, rfl, rfl, trivial⟩ hk)
            | (have hs : stI D a p = 1 := by unfold stI; rw [if_pos ⟨by omega, Or.inr (by omega)⟩]
               rw [hs] at hk
               exact kx_loc (L1 := [(0, .ref (ma 0)), (1, .int (nI c)), (2, .int (nI 1)), (3, .int (nI (p + 1)))]) ⟨rfl, rfl, rfl, rfl, trivial⟩ hk)
            | (have hs : stI D a p = 0 := by unfold stI; rw [if_neg (fun q => by have := q.1; omega)]
               rw [hs] at hk
               exact kx_loc (L1 := [(0, .ref (ma 0)), (1, .int (nI c)), (2, .int (nI 0)), (3, .int (nI (p + 1)))]) ⟨rfl, rfl, rfl, rfl, trivial⟩ hk)
            | (have hs : stI D a p = 0 := by unfold stI; rw [if_neg (fun q => by have := q.2; omega)]
               rw [hs] at hk
               exact kx_loc (L1 := [(0, .ref (ma 0)), (1, .int (nI c)), (2, .int (nI 0)), (3, .int (nI (p + 1)))]) ⟨rfl, rfl, rfl, rfl, trivial⟩ hk)
set_option maxRecDepth 20000 in
set_option maxHeartbeats 4000000 in
theorem m_M_stateOf {E : kx_E} {w : va_W} {ma : Nat → Nat} {F : Nat → Int32} {A : Nat → Nat → Int32} (hM : Mdl E w ma F A) {n : Nat} {X : Fx} {D : Dy} (hR : ModR n X D A) (hX : WfX n X) (hD : WfD n D) (hn : F 1 = nI n) {c : Nat} (hc : c < n) : kx_S E Y_M_stateOf [.ref (ma 0), .int (nI c)] w (kx_Qi w (nI (staM D c))) := by
  refine kx_go (by decide) rfl rfl (Nat.le_of_ble_eq_true rfl) (kx_cc rfl (kx_cc rfl kx_c0)) (fun z => ?_)
  have hO : kx_off w w mdlN := kx_off.rf
  have h24 := hX.1
  have hl1 := (hR.dis c hc).1
  have h25 := (hD.2.2 c hc).1.1
  have h01 := stI_01 D 1 (2 * c)
  have h02 := stI_01 D (stI D 1 (2 * c)) (2 * c + 1)
  have hst : dDi D c ≠ [] → staM D c = if stI D (stI D 1 (2 * c)) (2 * c + 1) = 1 then 2 else 1 := by
    intro hne
    unfold staM
    rw [if_neg hne]
    congr 1
    unfold stI
    by_cases e0 : dSi D (2 * c) = 4 ∨ agrM D (2 * c) = 1 <;> by_cases e1 : dSi D (2 * c + 1) = 4 ∨ agrM D (2 * c + 1) = 1 <;> simp [e0, e1]
  refine kx_aload_n d_M_stateOf_0 rfl (by first | rfl | exact kx_rf _) ?_
  refine kx_get _ d_M_stateOf_1 f_M_41 hM.1 (by rfl) ?_
  refine kx_iload_n d_M_stateOf_4 rfl ?_
  refine kx_iald d_M_stateOf_5 hM.a10 (by omega) (by decide) ?_
  rw [hl1]
  first | refine kx_if_ne_n 11 d_M_stateOf_6 (by decide) (by omega) ?_ ?_ | refine kx_if_ne 11 d_M_stateOf_6 (by decide) ?_ ?_
  · intro h6
    refine kx_iconst (nI 1) d_M_stateOf_11 (by decide) ?_
    refine kx_istore_n d_M_stateOf_12 (by decide) ?_
    refine kx_iconst (nI 2) d_M_stateOf_13 (by decide) ?_
    refine kx_iload_n d_M_stateOf_14 rfl ?_
    first | refine kx_imul _ d_M_stateOf_15 (pk_mul _ _) ?_ | refine kx_imul _ d_M_stateOf_15 rfl ?_
    refine kx_istore_n d_M_stateOf_16 (by decide) ?_
    have hne : dDi D c ≠ [] := fun q => h6 (by rw [q]; rfl)
    rw [hst hne]
    refine kx_loc (L1 := [(0, .ref (ma 0)), (1, .int (nI c)), (2, .int (nI 1)), (3, .int (nI (2 * c)))]) ⟨rfl, rfl, rfl, rfl, trivial⟩ ?_
    refine s_M_stateOf hM hR hX hD hn hc (by decide) (by omega) ?_
    refine s_M_stateOf hM hR hX hD hn hc h01 (by omega) ?_
    refine kx_iload_n d_M_stateOf_17 rfl ?_
    refine kx_iconst (nI 2) d_M_stateOf_18 (by decide) ?_
    refine kx_iload_n d_M_stateOf_19 rfl ?_
    first | refine kx_imul _ d_M_stateOf_20 (pk_mul _ _) ?_ | refine kx_imul _ d_M_stateOf_20 rfl ?_
    refine kx_iconst (nI 2) d_M_stateOf_21 (by decide) ?_
    first | refine kx_iadd _ d_M_stateOf_22 (nI_add _ _) ?_ | refine kx_iadd _ d_M_stateOf_22 rfl ?_
    first | refine kx_icmp_ge_n 60 d_M_stateOf_23 (by decide) (by omega) (by omega) ?_ ?_ | refine kx_icmp_ge 60 d_M_stateOf_23 (by decide) ?_ ?_
    · intro h23
      refine kx_iload_n d_M_stateOf_60 rfl ?_
      first | refine kx_if_eq_n 68 d_M_stateOf_61 (by decide) (by omega) ?_ ?_ | refine kx_if_eq 68 d_M_stateOf_61 (by decide) ?_ ?_
      · intro h61
        refine kx_iconst (nI 1) d_M_stateOf_68 (by decide) ?_
        refine kx_iret d_M_stateOf_69 rfl (by decide) (by decide) ?_
        first
          | (rw [if_neg (by omega)]; exact ⟨rfl, rfl⟩)
          | (rw [if_pos (by omega)]; exact ⟨rfl, rfl⟩)
      · intro h61
        refine kx_iconst (nI 2) d_M_stateOf_64 (by decide) ?_
        refine kx_goto 69 d_M_stateOf_65 (by decide) ?_
        refine kx_iret d_M_stateOf_69 rfl (by decide) (by decide) ?_
        first
          | (rw [if_neg (by omega)]; exact ⟨rfl, rfl⟩)
          | (rw [if_pos (by omega)]; exact ⟨rfl, rfl⟩)
    · intro h23
      exact absurd h23 (by omega)
  · intro h6
    refine kx_iconst (nI 0) d_M_stateOf_9 (by decide) ?_
    exact kx_iret d_M_stateOf_10 rfl (by decide) (by decide) ⟨by unfold staM; rw [if_pos (List.eq_nil_of_length_eq_zero h6)], rfl⟩
