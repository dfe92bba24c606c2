/-! The reference: forget, place, hears, agrees, stateOf -/
def mfE (c e : Nat) (A : Nat → Nat → Int32) : Nat → Nat → Int32 := up1 (up1 (up1 (up1 A 6 (upd (A 6) (2 * c + e) (nI 0))) 7 (upd (A 7) (2 * c + e) (nI 0))) 8 (upd (A 8) (2 * c + e) (nI 0))) 12 (upd (A 12) (2 * c + e) (-1))
def agF (c k : Nat) (f : Nat → Int32) : Nat → Int32 := fun i => if 24 * c ≤ i ∧ i < 24 * c + k then (if i = 24 * c + c then nI 0 else -1) else f i
def mFor (c : Nat) (A : Nat → Nat → Int32) : Nat → Nat → Int32 := up1 (up1 (up1 (up1 (mfE c 1 (mfE c 0 A)) 13 (agF c 24 (A 13))) 10 (upd (A 10) c (nI 0))) 15 (upd (A 15) c (nI 0))) 16 (upd (A 16) c (nI 0))
theorem agF_s (c k : Nat) (f : Nat → Int32) : upd (agF c k f) (24 * c + k) (if k = c then nI 0 else -1) = agF c (k + 1) f := by
  funext i
  by_cases h : i = 24 * c + k
  · subst h
    rw [upd_s]
    unfold agF
    rw [if_pos (show 24 * c ≤ 24 * c + k ∧ 24 * c + k < 24 * c + (k + 1) from ⟨by omega, by omega⟩)]
    by_cases e : k = c
    · rw [if_pos e, if_pos (show 24 * c + k = 24 * c + c by omega)]
    · rw [if_neg e, if_neg (show ¬ 24 * c + k = 24 * c + c by omega)]
  · rw [upd_n h]
    unfold agF
    by_cases e : 24 * c ≤ i ∧ i < 24 * c + k
    · rw [if_pos e, if_pos (show 24 * c ≤ i ∧ i < 24 * c + (k + 1) from ⟨e.1, by omega⟩)]
    · rw [if_neg e, if_neg (show ¬ (24 * c ≤ i ∧ i < 24 * c + (k + 1)) by omega)]
theorem agF_0 (c : Nat) (f : Nat → Int32) : agF c 0 f = f := by
  funext i
  unfold agF
  rw [if_neg (by omega)]
theorem d_M_forget_0 : decode c_M_forget 0 = .ok (.iconst 0, 1) := by decide +kernel
theorem d_M_forget_1 : decode c_M_forget 1 = .ok (.istore_n 2, 1) := by decide +kernel
theorem d_M_forget_2 : decode c_M_forget 2 = .ok (.iload_n 2, 1) := by decide +kernel
theorem d_M_forget_3 : decode c_M_forget 3 = .ok (.iconst 2, 1) := by decide +kernel
theorem d_M_forget_4 : decode c_M_forget 4 = .ok (.if_icmp .ge 53, 3) := by decide +kernel
theorem d_M_forget_7 : decode c_M_forget 7 = .ok (.aload_n 0, 1) := by decide +kernel
theorem d_M_forget_8 : decode c_M_forget 8 = .ok (.getfield 29, 3) := by decide +kernel
theorem d_M_forget_11 : decode c_M_forget 11 = .ok (.iconst 2, 1) := by decide +kernel
theorem d_M_forget_12 : decode c_M_forget 12 = .ok (.iload_n 1, 1) := by decide +kernel
theorem d_M_forget_13 : decode c_M_forget 13 = .ok (.imul, 1) := by decide +kernel
theorem d_M_forget_14 : decode c_M_forget 14 = .ok (.iload_n 2, 1) := by decide +kernel
theorem d_M_forget_15 : decode c_M_forget 15 = .ok (.iadd, 1) := by decide +kernel
theorem d_M_forget_16 : decode c_M_forget 16 = .ok (.iconst 0, 1) := by decide +kernel
theorem d_M_forget_17 : decode c_M_forget 17 = .ok (.iastore, 1) := by decide +kernel
theorem d_M_forget_18 : decode c_M_forget 18 = .ok (.aload_n 0, 1) := by decide +kernel
theorem d_M_forget_19 : decode c_M_forget 19 = .ok (.getfield 32, 3) := by decide +kernel
theorem d_M_forget_22 : decode c_M_forget 22 = .ok (.iconst 2, 1) := by decide +kernel
theorem d_M_forget_23 : decode c_M_forget 23 = .ok (.iload_n 1, 1) := by decide +kernel
theorem d_M_forget_24 : decode c_M_forget 24 = .ok (.imul, 1) := by decide +kernel
theorem d_M_forget_25 : decode c_M_forget 25 = .ok (.iload_n 2, 1) := by decide +kernel
theorem d_M_forget_26 : decode c_M_forget 26 = .ok (.iadd, 1) := by decide +kernel
theorem d_M_forget_27 : decode c_M_forget 27 = .ok (.iconst 0, 1) := by decide +kernel
theorem d_M_forget_28 : decode c_M_forget 28 = .ok (.bastore, 1) := by decide +kernel
theorem d_M_forget_29 : decode c_M_forget 29 = .ok (.aload_n 0, 1) := by decide +kernel
theorem d_M_forget_30 : decode c_M_forget 30 = .ok (.getfield 35, 3) := by decide +kernel
theorem d_M_forget_33 : decode c_M_forget 33 = .ok (.iconst 2, 1) := by decide +kernel
theorem d_M_forget_34 : decode c_M_forget 34 = .ok (.iload_n 1, 1) := by decide +kernel
theorem d_M_forget_35 : decode c_M_forget 35 = .ok (.imul, 1) := by decide +kernel
theorem d_M_forget_36 : decode c_M_forget 36 = .ok (.iload_n 2, 1) := by decide +kernel
theorem d_M_forget_37 : decode c_M_forget 37 = .ok (.iadd, 1) := by decide +kernel
theorem d_M_forget_38 : decode c_M_forget 38 = .ok (.iconst 0, 1) := by decide +kernel
theorem d_M_forget_39 : decode c_M_forget 39 = .ok (.iastore, 1) := by decide +kernel
theorem d_M_forget_40 : decode c_M_forget 40 = .ok (.aload_n 0, 1) := by decide +kernel
theorem d_M_forget_41 : decode c_M_forget 41 = .ok (.getfield 47, 3) := by decide +kernel
theorem d_M_forget_44 : decode c_M_forget 44 = .ok (.iconst 2, 1) := by decide +kernel
theorem d_M_forget_45 : decode c_M_forget 45 = .ok (.iload_n 1, 1) := by decide +kernel
theorem d_M_forget_46 : decode c_M_forget 46 = .ok (.imul, 1) := by decide +kernel
theorem d_M_forget_47 : decode c_M_forget 47 = .ok (.iload_n 2, 1) := by decide +kernel
theorem d_M_forget_48 : decode c_M_forget 48 = .ok (.iadd, 1) := by decide +kernel
theorem d_M_forget_49 : decode c_M_forget 49 = .ok (.iconst (-1), 1) := by decide +kernel
theorem d_M_forget_50 : decode c_M_forget 50 = .ok (.iastore, 1) := by decide +kernel
theorem d_M_forget_51 : decode c_M_forget 51 = .ok (.iinc 2 1, 3) := by decide +kernel
theorem d_M_forget_54 : decode c_M_forget 54 = .ok (.goto (-52), 3) := by decide +kernel
theorem d_M_forget_57 : decode c_M_forget 57 = .ok (.iconst 0, 1) := by decide +kernel
theorem d_M_forget_58 : decode c_M_forget 58 = .ok (.istore_n 2, 1) := by decide +kernel
theorem d_M_forget_59 : decode c_M_forget 59 = .ok (.iload_n 2, 1) := by decide +kernel
theorem d_M_forget_60 : decode c_M_forget 60 = .ok (.bipush 24, 2) := by decide +kernel
theorem d_M_forget_62 : decode c_M_forget 62 = .ok (.if_icmp .ge 30, 3) := by decide +kernel
theorem d_M_forget_65 : decode c_M_forget 65 = .ok (.aload_n 0, 1) := by decide +kernel
theorem d_M_forget_66 : decode c_M_forget 66 = .ok (.getfield 50, 3) := by decide +kernel
theorem d_M_forget_69 : decode c_M_forget 69 = .ok (.bipush 24, 2) := by decide +kernel
theorem d_M_forget_71 : decode c_M_forget 71 = .ok (.iload_n 1, 1) := by decide +kernel
theorem d_M_forget_72 : decode c_M_forget 72 = .ok (.imul, 1) := by decide +kernel
theorem d_M_forget_73 : decode c_M_forget 73 = .ok (.iload_n 2, 1) := by decide +kernel
theorem d_M_forget_74 : decode c_M_forget 74 = .ok (.iadd, 1) := by decide +kernel
theorem d_M_forget_75 : decode c_M_forget 75 = .ok (.iload_n 2, 1) := by decide +kernel
theorem d_M_forget_76 : decode c_M_forget 76 = .ok (.iload_n 1, 1) := by decide +kernel
theorem d_M_forget_77 : decode c_M_forget 77 = .ok (.if_icmp .ne 7, 3) := by decide +kernel
theorem d_M_forget_80 : decode c_M_forget 80 = .ok (.iconst 0, 1) := by decide +kernel
theorem d_M_forget_81 : decode c_M_forget 81 = .ok (.goto 4, 3) := by decide +kernel
theorem d_M_forget_84 : decode c_M_forget 84 = .ok (.iconst (-1), 1) := by decide +kernel
theorem d_M_forget_85 : decode c_M_forget 85 = .ok (.iastore, 1) := by decide +kernel
theorem d_M_forget_86 : decode c_M_forget 86 = .ok (.iinc 2 1, 3) := by decide +kernel
theorem d_M_forget_89 : decode c_M_forget 89 = .ok (.goto (-30), 3) := by decide +kernel
theorem d_M_forget_92 : decode c_M_forget 92 = .ok (.aload_n 0, 1) := by decide +kernel
theorem d_M_forget_93 : decode c_M_forget 93 = .ok (.getfield 41, 3) := by decide +kernel
theorem d_M_forget_96 : decode c_M_forget 96 = .ok (.iload_n 1, 1) := by decide +kernel
theorem d_M_forget_97 : decode c_M_forget 97 = .ok (.iconst 0, 1) := by decide +kernel
theorem d_M_forget_98 : decode c_M_forget 98 = .ok (.iastore, 1) := by decide +kernel
theorem d_M_forget_99 : decode c_M_forget 99 = .ok (.aload_n 0, 1) := by decide +kernel
theorem d_M_forget_100 : decode c_M_forget 100 = .ok (.getfield 56, 3) := by decide +kernel
theorem d_M_forget_103 : decode c_M_forget 103 = .ok (.iload_n 1, 1) := by decide +kernel
theorem d_M_forget_104 : decode c_M_forget 104 = .ok (.iconst 0, 1) := by decide +kernel
theorem d_M_forget_105 : decode c_M_forget 105 = .ok (.iastore, 1) := by decide +kernel
theorem d_M_forget_106 : decode c_M_forget 106 = .ok (.aload_n 0, 1) := by decide +kernel
theorem d_M_forget_107 : decode c_M_forget 107 = .ok (.getfield 59, 3) := by decide +kernel
theorem d_M_forget_110 : decode c_M_forget 110 = .ok (.iload_n 1, 1) := by decide +kernel
theorem d_M_forget_111 : decode c_M_forget 111 = .ok (.iconst 0, 1) := by decide +kernel
theorem d_M_forget_112 : decode c_M_forget 112 = .ok (.iastore, 1) := by decide +kernel
theorem d_M_forget_113 : decode c_M_forget 113 = .ok (.return_, 1) := by decide +kernel
set_option maxRecDepth 20000 in
set_option maxHeartbeats 4000000 in
theorem s_M_forget {E : kx_E} {w w0 : va_W} {ma : Nat → Nat} {F : Nat → Int32} {A : Nat → Nat → Int32} (hM : Mdl E w ma F A) (hO : kx_off w0 w mdlN) {c e : Nat} (hc : c < 24) (he : e < 2) {z : kx_Z} {Q : kx_O → va_W → Prop}
    (hk : ∀ w, Mdl E w ma F (mfE c e A) → kx_off w0 w mdlN → kx_R E Y_M_forget z 2 [(0, .ref (ma 0)), (1, .int (nI c)), (2, .int (nI (e + 1)))] [] w 0 0 Q) : kx_R E Y_M_forget z 2 [(0, .ref (ma 0)), (1, .int (nI c)), (2, .int (nI e))] [] w 0 0 Q := by
  refine kx_iload_n d_M_forget_2 rfl ?_
  refine kx_iconst (nI 2) d_M_forget_3 (by decide) ?_
  first | refine kx_icmp_ge_n 57 d_M_forget_4 (by decide) (by omega) (by omega) ?_ ?_ | refine kx_icmp_ge 57 d_M_forget_4 (by decide) ?_ ?_
  · intro h4
    exact absurd h4 (by omega)
  · intro h4
    refine kx_aload_n d_M_forget_7 rfl (by first | rfl | exact kx_rf _) ?_
    refine kx_get _ d_M_forget_8 f_M_29 hM.1 (by rfl) ?_
    refine kx_iconst (nI 2) d_M_forget_11 (by decide) ?_
    refine kx_iload_n d_M_forget_12 rfl ?_
    first | refine kx_imul _ d_M_forget_13 (pk_mul _ _) ?_ | refine kx_imul _ d_M_forget_13 rfl ?_
    refine kx_iload_n d_M_forget_14 rfl ?_
    first | refine kx_iadd _ d_M_forget_15 (nI_add _ _) ?_ | refine kx_iadd _ d_M_forget_15 rfl ?_
    refine kx_iconst (nI 0) d_M_forget_16 (by decide) ?_
    refine mA_put (j := 6) d_M_forget_17 hM hO (by decide) (len := 48) rfl (by decide) (by omega) (fun w hM hO => ?_)
    refine kx_aload_n d_M_forget_18 rfl (by first | rfl | exact kx_rf _) ?_
    refine kx_get _ d_M_forget_19 f_M_32 hM.1 (by rfl) ?_
    refine kx_iconst (nI 2) d_M_forget_22 (by decide) ?_
    refine kx_iload_n d_M_forget_23 rfl ?_
    first | refine kx_imul _ d_M_forget_24 (pk_mul _ _) ?_ | refine kx_imul _ d_M_forget_24 rfl ?_
    refine kx_iload_n d_M_forget_25 rfl ?_
    first | refine kx_iadd _ d_M_forget_26 (nI_add _ _) ?_ | refine kx_iadd _ d_M_forget_26 rfl ?_
    refine kx_iconst (nI 0) d_M_forget_27 (by decide) ?_
    refine mZ_put (j := 7) d_M_forget_28 hM hO (by decide) (len := 48) rfl (by decide) (by omega) (by first | exact Or.inl rfl | exact Or.inr rfl) (fun w hM hO => ?_)
    refine kx_aload_n d_M_forget_29 rfl (by first | rfl | exact kx_rf _) ?_
    refine kx_get _ d_M_forget_30 f_M_35 hM.1 (by rfl) ?_
    refine kx_iconst (nI 2) d_M_forget_33 (by decide) ?_
    refine kx_iload_n d_M_forget_34 rfl ?_
    first | refine kx_imul _ d_M_forget_35 (pk_mul _ _) ?_ | refine kx_imul _ d_M_forget_35 rfl ?_
    refine kx_iload_n d_M_forget_36 rfl ?_
    first | refine kx_iadd _ d_M_forget_37 (nI_add _ _) ?_ | refine kx_iadd _ d_M_forget_37 rfl ?_
    refine kx_iconst (nI 0) d_M_forget_38 (by decide) ?_
    refine mA_put (j := 8) d_M_forget_39 hM hO (by decide) (len := 48) rfl (by decide) (by omega) (fun w hM hO => ?_)
    refine kx_aload_n d_M_forget_40 rfl (by first | rfl | exact kx_rf _) ?_
    refine kx_get _ d_M_forget_41 f_M_47 hM.1 (by rfl) ?_
    refine kx_iconst (nI 2) d_M_forget_44 (by decide) ?_
    refine kx_iload_n d_M_forget_45 rfl ?_
    first | refine kx_imul _ d_M_forget_46 (pk_mul _ _) ?_ | refine kx_imul _ d_M_forget_46 rfl ?_
    refine kx_iload_n d_M_forget_47 rfl ?_
    first | refine kx_iadd _ d_M_forget_48 (nI_add _ _) ?_ | refine kx_iadd _ d_M_forget_48 rfl ?_
    refine kx_iconst (-1) d_M_forget_49 (by decide) ?_
    refine mA_put (j := 12) d_M_forget_50 hM hO (by decide) (len := 48) rfl (by decide) (by omega) (fun w hM hO => ?_)
    refine kx_iinc _ d_M_forget_51 rfl (by decide) (nI_1 _) ?_
    refine kx_goto 2 d_M_forget_54 (by decide) ?_
    refine kx_loc (L1 := [(0, .ref (ma 0)), (1, .int (nI c)), (2, .int (nI (e + 1)))]) ⟨rfl, rfl, rfl, trivial⟩ ?_
    exact hk w hM hO
set_option maxRecDepth 20000 in
set_option maxHeartbeats 4000000 in
theorem l_M_forget {E : kx_E} {w0 : va_W} {ma : Nat → Nat} {F : Nat → Int32} {A : Nat → Nat → Int32} {c : Nat} (hc : c < 24) {z : kx_Z} {Q : kx_O → va_W → Prop} (hQ : ∀ w, Mdl E w ma F (up1 A 13 (agF c 24 (A 13))) → kx_off w0 w mdlN → kx_R E Y_M_forget z 92 [(0, .ref (ma 0)), (1, .int (nI c))] [] w 0 0 Q) :
    ∀ (m k : Nat) (w : va_W), m + k = 24 → Mdl E w ma F (up1 A 13 (agF c k (A 13))) → kx_off w0 w mdlN → kx_R E Y_M_forget z 59 [(0, .ref (ma 0)), (1, .int (nI c)), (2, .int (nI k))] [] w 0 0 Q := by
  intro m
  induction m with
  | zero =>
    intro k w hk hM hO
    have hk : k = 24 := by omega
    subst hk
    refine kx_iload_n d_M_forget_59 rfl ?_
    refine kx_bipush (nI 24) d_M_forget_60 (by decide) ?_
    first | refine kx_icmp_ge_n 92 d_M_forget_62 (by decide) (by omega) (by omega) ?_ ?_ | refine kx_icmp_ge 92 d_M_forget_62 (by decide) ?_ ?_
    · intro h62
      refine kx_loc (L1 := [(0, .ref (ma 0)), (1, .int (nI c))]) ⟨rfl, rfl, trivial⟩ ?_
      exact hQ w hM hO
    · intro h62
      exact absurd h62 (by omega)
  | succ m ih =>
    intro k w hk hM hO
    have hs := agF_s c k (A 13)
    refine kx_iload_n d_M_forget_59 rfl ?_
    refine kx_bipush (nI 24) d_M_forget_60 (by decide) ?_
    first | refine kx_icmp_ge_n 92 d_M_forget_62 (by decide) (by omega) (by omega) ?_ ?_ | refine kx_icmp_ge 92 d_M_forget_62 (by decide) ?_ ?_
    · intro h62
      exact absurd h62 (by omega)
    · intro h62
      refine kx_aload_n d_M_forget_65 rfl (by first | rfl | exact kx_rf _) ?_
      refine kx_get _ d_M_forget_66 f_M_50 hM.1 (by rfl) ?_
      refine kx_bipush (nI 24) d_M_forget_69 (by decide) ?_
      refine kx_iload_n d_M_forget_71 rfl ?_
      first | refine kx_imul _ d_M_forget_72 (pk_mul _ _) ?_ | refine kx_imul _ d_M_forget_72 rfl ?_
      refine kx_iload_n d_M_forget_73 rfl ?_
      first | refine kx_iadd _ d_M_forget_74 (nI_add _ _) ?_ | refine kx_iadd _ d_M_forget_74 rfl ?_
      refine kx_iload_n d_M_forget_75 rfl ?_
      refine kx_iload_n d_M_forget_76 rfl ?_
      refine kx_icmp_ne_n 84 d_M_forget_77 (by decide) (by omega) (by omega) ?_ ?_
      · intro h77
        rw [if_neg h77] at hs
        refine kx_iconst (-1) d_M_forget_84 (by decide) ?_
        refine mA_put (j := 13) d_M_forget_85 hM hO (by decide) (len := 576) rfl (by decide) (by omega) (fun w hM hO => ?_)
        rw [up1_s, up1_up1, hs] at hM
        refine kx_iinc _ d_M_forget_86 rfl (by decide) (nI_1 _) ?_
        refine kx_goto 59 d_M_forget_89 (by decide) ?_
        refine kx_loc (L1 := [(0, .ref (ma 0)), (1, .int (nI c)), (2, .int (nI (k + 1)))]) ⟨rfl, rfl, rfl, trivial⟩ ?_
        exact ih (k + 1) w (by omega) hM hO
      · intro h77
        rw [if_pos h77] at hs
        refine kx_iconst (nI 0) d_M_forget_80 (by decide) ?_
        refine kx_goto 85 d_M_forget_81 (by decide) ?_
        refine mA_put (j := 13) d_M_forget_85 hM hO (by decide) (len := 576) rfl (by decide) (by omega) (fun w hM hO => ?_)
        rw [up1_s, up1_up1, hs] at hM
        refine kx_iinc _ d_M_forget_86 rfl (by decide) (nI_1 _) ?_
        refine kx_goto 59 d_M_forget_89 (by decide) ?_
        refine kx_loc (L1 := [(0, .ref (ma 0)), (1, .int (nI c)), (2, .int (nI (k + 1)))]) ⟨rfl, rfl, rfl, trivial⟩ ?_
        exact ih (k + 1) w (by omega) hM hO
set_option maxRecDepth 20000 in
set_option maxHeartbeats 4000000 in
theorem m_M_forget {E : kx_E} {w : va_W} {ma : Nat → Nat} {F : Nat → Int32} {A : Nat → Nat → Int32} (hM : Mdl E w ma F A) {c : Nat} (hc : c < 24) : kx_S E Y_M_forget [.ref (ma 0), .int (nI c)] w (MP E w ma F (fun A1 => A1 = mFor c A) none) := by
  refine kx_go (by decide) rfl rfl (Nat.le_of_ble_eq_true rfl) (kx_cc rfl (kx_cc rfl kx_c0)) (fun z => ?_)
  have hO : kx_off w w mdlN := kx_off.rf
  refine kx_iconst (nI 0) d_M_forget_0 (by decide) ?_
  refine kx_istore_n d_M_forget_1 (by decide) ?_
  refine kx_loc (L1 := [(0, .ref (ma 0)), (1, .int (nI c)), (2, .int (nI 0))]) ⟨rfl, rfl, rfl, trivial⟩ ?_
  refine s_M_forget hM hO hc (by decide) (fun w hM hO => ?_)
  refine s_M_forget hM hO hc (by decide) (fun w hM hO => ?_)
  refine kx_iload_n d_M_forget_2 rfl ?_
  refine kx_iconst (nI 2) d_M_forget_3 (by decide) ?_
  first | refine kx_icmp_ge_n 57 d_M_forget_4 (by decide) (by omega) (by omega) ?_ ?_ | refine kx_icmp_ge 57 d_M_forget_4 (by decide) ?_ ?_
  · intro h4
    refine kx_iconst (nI 0) d_M_forget_57 (by decide) ?_
    refine kx_istore_n d_M_forget_58 (by decide) ?_
    refine kx_loc (L1 := [(0, .ref (ma 0)), (1, .int (nI c)), (2, .int (nI 0))]) ⟨rfl, rfl, rfl, trivial⟩ ?_
    refine l_M_forget (A := mfE c 1 (mfE c 0 A)) hc (fun w hM hO => ?_) 24 0 w rfl (by rw [agF_0, up1_self]; exact hM) hO
    refine kx_aload_n d_M_forget_92 rfl (by first | rfl | exact kx_rf _) ?_
    refine kx_get _ d_M_forget_93 f_M_41 hM.1 (by rfl) ?_
    refine kx_iload_n d_M_forget_96 rfl ?_
    refine kx_iconst (nI 0) d_M_forget_97 (by decide) ?_
    refine mA_put (j := 10) d_M_forget_98 hM hO (by decide) (len := 24) rfl (by decide) (by omega) (fun w hM hO => ?_)
    refine kx_aload_n d_M_forget_99 rfl (by first | rfl | exact kx_rf _) ?_
    refine kx_get _ d_M_forget_100 f_M_56 hM.1 (by rfl) ?_
    refine kx_iload_n d_M_forget_103 rfl ?_
    refine kx_iconst (nI 0) d_M_forget_104 (by decide) ?_
    refine mA_put (j := 15) d_M_forget_105 hM hO (by decide) (len := 24) rfl (by decide) (by omega) (fun w hM hO => ?_)
    refine kx_aload_n d_M_forget_106 rfl (by first | rfl | exact kx_rf _) ?_
    refine kx_get _ d_M_forget_107 f_M_59 hM.1 (by rfl) ?_
    refine kx_iload_n d_M_forget_110 rfl ?_
    refine kx_iconst (nI 0) d_M_forget_111 (by decide) ?_
    refine mA_put (j := 16) d_M_forget_112 hM hO (by decide) (len := 24) rfl (by decide) (by omega) (fun w hM hO => ?_)
    refine kx_vret d_M_forget_113 rfl (by decide) (by decide) ?_
    exact ⟨rfl, _, hM, rfl, hO⟩
  · intro h4
    exact absurd h4 (by omega)
theorem d_M_place_0 : decode c_M_place 0 = .ok (.iconst 0, 1) := by decide +kernel
theorem d_M_place_1 : decode c_M_place 1 = .ok (.istore_n 3, 1) := by decide +kernel
theorem d_M_place_2 : decode c_M_place 2 = .ok (.iload_n 3, 1) := by decide +kernel
theorem d_M_place_3 : decode c_M_place 3 = .ok (.aload_n 0, 1) := by decide +kernel
theorem d_M_place_4 : decode c_M_place 4 = .ok (.getfield 41, 3) := by decide +kernel
theorem d_M_place_7 : decode c_M_place 7 = .ok (.iload_n 1, 1) := by decide +kernel
theorem d_M_place_8 : decode c_M_place 8 = .ok (.iaload, 1) := by decide +kernel
theorem d_M_place_9 : decode c_M_place 9 = .ok (.if_icmp .ge 28, 3) := by decide +kernel
theorem d_M_place_12 : decode c_M_place 12 = .ok (.aload_n 0, 1) := by decide +kernel
theorem d_M_place_13 : decode c_M_place 13 = .ok (.getfield 38, 3) := by decide +kernel
theorem d_M_place_16 : decode c_M_place 16 = .ok (.bipush 24, 2) := by decide +kernel
theorem d_M_place_18 : decode c_M_place 18 = .ok (.iload_n 1, 1) := by decide +kernel
theorem d_M_place_19 : decode c_M_place 19 = .ok (.imul, 1) := by decide +kernel
theorem d_M_place_20 : decode c_M_place 20 = .ok (.iload_n 3, 1) := by decide +kernel
theorem d_M_place_21 : decode c_M_place 21 = .ok (.iadd, 1) := by decide +kernel
theorem d_M_place_22 : decode c_M_place 22 = .ok (.iaload, 1) := by decide +kernel
theorem d_M_place_23 : decode c_M_place 23 = .ok (.iconst 2, 1) := by decide +kernel
theorem d_M_place_24 : decode c_M_place 24 = .ok (.idiv, 1) := by decide +kernel
theorem d_M_place_25 : decode c_M_place 25 = .ok (.iload_n 2, 1) := by decide +kernel
theorem d_M_place_26 : decode c_M_place 26 = .ok (.if_icmp .ne 5, 3) := by decide +kernel
theorem d_M_place_29 : decode c_M_place 29 = .ok (.iload_n 3, 1) := by decide +kernel
theorem d_M_place_30 : decode c_M_place 30 = .ok (.ireturn, 1) := by decide +kernel
theorem d_M_place_31 : decode c_M_place 31 = .ok (.iinc 3 1, 3) := by decide +kernel
theorem d_M_place_34 : decode c_M_place 34 = .ok (.goto (-32), 3) := by decide +kernel
theorem d_M_place_37 : decode c_M_place 37 = .ok (.iconst (-1), 1) := by decide +kernel
theorem d_M_place_38 : decode c_M_place 38 = .ok (.ireturn, 1) := by decide +kernel
set_option maxRecDepth 20000 in
set_option maxHeartbeats 4000000 in
theorem l_M_place {E : kx_E} {w : va_W} {ma : Nat → Nat} {F : Nat → Int32} {A : Nat → Nat → Int32} (hM : Mdl E w ma F A) {c x : Nat} (hc : c < 24) (hx : x < 2 ^ 31) {l : List Nat} (hl : LisR (A 9) (A 10) c l) (h24 : l.length ≤ 24) (hi : ∀ v ∈ l, v < 2 ^ 31) {z : kx_Z} {Q : kx_O → va_W → Prop} (hQ : Q (.inl (some (.int (plI x l)))) w) : ∀ (m k : Nat), m + k = l.length → rowNo x l 0 = rowNo x (l.drop k) k → kx_R E Y_M_place z 2 [(0, .ref (ma 0)), (1, .int (nI c)), (2, .int (nI x)), (3, .int (nI k))] [] w 0 0 Q := by
  obtain ⟨hl1, hl2⟩ := hl
  intro m
  induction m with
  | zero =>
    intro k hk hr
    have hr0 : plI x l = -1 := by unfold plI; rw [if_pos]; rw [hr, List.drop_eq_nil_of_le (by omega)]; rfl
    rw [hr0] at hQ
    refine kx_iload_n d_M_place_2 rfl ?_
    refine kx_aload_n d_M_place_3 rfl (by first | rfl | exact kx_rf _) ?_
    refine kx_get _ d_M_place_4 f_M_41 hM.1 (by rfl) ?_
    refine kx_iload_n d_M_place_7 rfl ?_
    refine kx_iald d_M_place_8 hM.a10 (by omega) (by decide) ?_
    rw [hl1]
    first | refine kx_icmp_ge_n 37 d_M_place_9 (by decide) (by omega) (by omega) ?_ ?_ | refine kx_icmp_ge 37 d_M_place_9 (by decide) ?_ ?_
    · intro h9
      refine kx_iconst (-1) d_M_place_37 (by decide) ?_
      refine kx_iret d_M_place_38 rfl (by decide) (by decide) ?_
      exact hQ
    · intro h9
      exact absurd h9 (by omega)
  | succ m ih =>
    intro k hk hr
    have hkl : k < l.length := by omega
    have hv := hi _ (row_get l hkl)
    have hd := rowNo_drop x l k hkl
    refine kx_iload_n d_M_place_2 rfl ?_
    refine kx_aload_n d_M_place_3 rfl (by first | rfl | exact kx_rf _) ?_
    refine kx_get _ d_M_place_4 f_M_41 hM.1 (by rfl) ?_
    refine kx_iload_n d_M_place_7 rfl ?_
    refine kx_iald d_M_place_8 hM.a10 (by omega) (by decide) ?_
    rw [hl1]
    first | refine kx_icmp_ge_n 37 d_M_place_9 (by decide) (by omega) (by omega) ?_ ?_ | refine kx_icmp_ge 37 d_M_place_9 (by decide) ?_ ?_
    · intro h9
      exact absurd h9 (by omega)
    · intro h9
      refine kx_aload_n d_M_place_12 rfl (by first | rfl | exact kx_rf _) ?_
      refine kx_get _ d_M_place_13 f_M_38 hM.1 (by rfl) ?_
      refine kx_bipush (nI 24) d_M_place_16 (by decide) ?_
      refine kx_iload_n d_M_place_18 rfl ?_
      first | refine kx_imul _ d_M_place_19 (pk_mul _ _) ?_ | refine kx_imul _ d_M_place_19 rfl ?_
      refine kx_iload_n d_M_place_20 rfl ?_
      first | refine kx_iadd _ d_M_place_21 (nI_add _ _) ?_ | refine kx_iadd _ d_M_place_21 rfl ?_
      refine kx_iald d_M_place_22 hM.a9 (by omega) (by decide) ?_
      rw [hl2 k hkl]
      refine kx_iconst (nI 2) d_M_place_23 (by decide) ?_
      first | refine kx_idiv _ d_M_place_24 (by decide) (pk_div (by omega) (by omega) (by omega)) ?_ | refine kx_idiv _ d_M_place_24 (by decide) rfl ?_
      refine kx_iload_n d_M_place_25 rfl ?_
      first | refine kx_icmp_ne_n 31 d_M_place_26 (by decide) (by omega) (by omega) ?_ ?_ | refine kx_icmp_ne 31 d_M_place_26 (by decide) ?_ ?_
      · intro h26
        refine kx_iinc _ d_M_place_31 rfl (by decide) (nI_1 _) ?_
        refine kx_goto 2 d_M_place_34 (by decide) ?_
        refine kx_loc (L1 := [(0, .ref (ma 0)), (1, .int (nI c)), (2, .int (nI x)), (3, .int (nI (k + 1)))]) ⟨rfl, rfl, rfl, rfl, trivial⟩ ?_
        rw [if_neg h26] at hd
        exact ih (k + 1) (by omega) (by rw [hr, hd])
      · intro h26
        refine kx_iload_n d_M_place_29 rfl ?_
        refine kx_iret d_M_place_30 rfl (by decide) (by decide) ?_
        have h26 : l.getD k 0 / 2 = x := by omega
        rw [if_pos h26] at hd
        have hr0 : plI x l = nI k := by unfold plI; rw [hr, hd, if_neg (by omega), Nat.add_sub_cancel]
        rw [hr0] at hQ
        exact hQ
set_option maxRecDepth 20000 in
set_option maxHeartbeats 4000000 in
theorem m_M_place {E : kx_E} {w : va_W} {ma : Nat → Nat} {F : Nat → Int32} {A : Nat → Nat → Int32} (hM : Mdl E w ma F A) {c x : Nat} (hc : c < 24) (hx : x < 2 ^ 31) {l : List Nat} (hl : LisR (A 9) (A 10) c l) (h24 : l.length ≤ 24) (hi : ∀ v ∈ l, v < 2 ^ 31) : kx_S E Y_M_place [.ref (ma 0), .int (nI c), .int (nI x)] w (kx_Qi w (plI x l)) := by
  refine kx_go (by decide) rfl rfl (Nat.le_of_ble_eq_true rfl) (kx_cc rfl (kx_cc rfl (kx_cc rfl kx_c0))) (fun z => ?_)
  have hO : kx_off w w mdlN := kx_off.rf
  refine kx_iconst (nI 0) d_M_place_0 (by decide) ?_
  refine kx_istore_n d_M_place_1 (by decide) ?_
  refine kx_loc (L1 := [(0, .ref (ma 0)), (1, .int (nI c)), (2, .int (nI x)), (3, .int (nI 0))]) ⟨rfl, rfl, rfl, rfl, trivial⟩ ?_
  exact l_M_place hM hc hx hl h24 hi ⟨rfl, rfl⟩ l.length 0 rfl rfl
theorem d_M_hears_0 : decode c_M_hears 0 = .ok (.aload_n 0, 1) := by decide +kernel
theorem d_M_hears_1 : decode c_M_hears 1 = .ok (.getfield 16, 3) := by decide +kernel
theorem d_M_hears_4 : decode c_M_hears 4 = .ok (.iload_n 1, 1) := by decide +kernel
theorem d_M_hears_5 : decode c_M_hears 5 = .ok (.iaload, 1) := by decide +kernel
theorem d_M_hears_6 : decode c_M_hears 6 = .ok (.iconst (-1), 1) := by decide +kernel
theorem d_M_hears_7 : decode c_M_hears 7 = .ok (.if_icmp .eq 20, 3) := by decide +kernel
theorem d_M_hears_10 : decode c_M_hears 10 = .ok (.iload_n 2, 1) := by decide +kernel
theorem d_M_hears_11 : decode c_M_hears 11 = .ok (.aload_n 0, 1) := by decide +kernel
theorem d_M_hears_12 : decode c_M_hears 12 = .ok (.getfield 19, 3) := by decide +kernel
theorem d_M_hears_15 : decode c_M_hears 15 = .ok (.iload_n 1, 1) := by decide +kernel
theorem d_M_hears_16 : decode c_M_hears 16 = .ok (.iaload, 1) := by decide +kernel
theorem d_M_hears_17 : decode c_M_hears 17 = .ok (.ishr, 1) := by decide +kernel
theorem d_M_hears_18 : decode c_M_hears 18 = .ok (.iconst 1, 1) := by decide +kernel
theorem d_M_hears_19 : decode c_M_hears 19 = .ok (.iand, 1) := by decide +kernel
theorem d_M_hears_20 : decode c_M_hears 20 = .ok (.ifCond .ne 7, 3) := by decide +kernel
theorem d_M_hears_23 : decode c_M_hears 23 = .ok (.iconst 1, 1) := by decide +kernel
theorem d_M_hears_24 : decode c_M_hears 24 = .ok (.goto 4, 3) := by decide +kernel
theorem d_M_hears_27 : decode c_M_hears 27 = .ok (.iconst 0, 1) := by decide +kernel
theorem d_M_hears_28 : decode c_M_hears 28 = .ok (.ireturn, 1) := by decide +kernel
set_option maxRecDepth 20000 in
set_option maxHeartbeats 4000000 in
theorem m_M_hears {E : kx_E} {w : va_W} {ma : Nat → Nat} {F : Nat → Int32} {A : Nat → Nat → Int32} (hM : Mdl E w ma F A) {n : Nat} {X : Fx} {D : Dy} (hR : ModR n X D A) (hX : WfX n X) (hD : WfD n D) (hn : F 1 = nI n) {p : Nat} (hp : p < 2 * n) (losses : Int32) : kx_S E Y_M_hears [.ref (ma 0), .int (nI p), .int losses] w (kx_Qi w (nI (oneI (heaQ X losses p)))) := by
  refine kx_go (by decide) rfl rfl (Nat.le_of_ble_eq_true rfl) (kx_cc rfl (kx_cc rfl (kx_cc rfl kx_c0))) (fun z => ?_)
  have hO : kx_off w w mdlN := kx_off.rf
  have h24 := hX.1
  have hl := hR.lks p hp
  have hnu := hR.nus p hp
  have hq := hX.2.2.2.2.1 p
  unfold heaQ
  cases hk : xLk X p with
  | none =>
    rw [hk] at hl
    have hl : A 2 p = -1 := hl
    refine kx_aload_n d_M_hears_0 rfl (by first | rfl | exact kx_rf _) ?_
    refine kx_get _ d_M_hears_1 f_M_16 hM.1 (by rfl) ?_
    refine kx_iload_n d_M_hears_4 rfl ?_
    refine kx_iald d_M_hears_5 hM.a2 (by omega) (by decide) ?_
    rw [hl]
    refine kx_iconst (-1) d_M_hears_6 (by decide) ?_
    refine kx_icmp_eq 27 d_M_hears_7 (by decide) ?_ ?_
    · intro h7
      refine kx_iconst (nI 0) d_M_hears_27 (by decide) ?_
      refine kx_zret d_M_hears_28 rfl (by decide) (by decide) (by decide) ?_
      exact ⟨rfl, rfl⟩
    · intro h7
      exact absurd rfl h7
  | some q =>
    rw [hk] at hl
    have hl : A 2 p = nI q := hl
    have hnu := hnu q hk
    have hq2 := (hq q hp hk).1
    have hm1 : nI q ≠ -1 := nI_m1 (by omega)
    dsimp only
    refine kx_aload_n d_M_hears_0 rfl (by first | rfl | exact kx_rf _) ?_
    refine kx_get _ d_M_hears_1 f_M_16 hM.1 (by rfl) ?_
    refine kx_iload_n d_M_hears_4 rfl ?_
    refine kx_iald d_M_hears_5 hM.a2 (by omega) (by decide) ?_
    rw [hl]
    refine kx_iconst (-1) d_M_hears_6 (by decide) ?_
    refine kx_icmp_eq 27 d_M_hears_7 (by decide) ?_ ?_
    · intro h7
      refine kx_iconst (nI 0) d_M_hears_27 (by decide) ?_
      refine kx_zret d_M_hears_28 rfl (by decide) (by decide) (by decide) ?_
      first
        | exact absurd h7 hm1
        | (have hlo : lostI losses (nI (xNu X p)) = true := by unfold lostI; exact decide_eq_true h20
           rw [if_pos hlo]
           exact ⟨rfl, rfl⟩)
        | (have hlo : ¬ lostI losses (nI (xNu X p)) = true := by unfold lostI; rw [decide_eq_true_iff]; exact fun q => q h20
           rw [if_neg hlo]
           exact ⟨rfl, rfl⟩)
    · intro h7
      refine kx_iload_n d_M_hears_10 rfl ?_
      refine kx_aload_n d_M_hears_11 rfl (by first | rfl | exact kx_rf _) ?_
      refine kx_get _ d_M_hears_12 f_M_19 hM.1 (by rfl) ?_
      refine kx_iload_n d_M_hears_15 rfl ?_
      refine kx_iald d_M_hears_16 hM.a3 (by omega) (by decide) ?_
      rw [hnu]
      refine kx_ishr _ d_M_hears_17 rfl ?_
      refine kx_iconst (nI 1) d_M_hears_18 (by decide) ?_
      refine kx_iand _ d_M_hears_19 rfl ?_
      refine kx_if_ne 27 d_M_hears_20 (by decide) ?_ ?_
      · intro h20
        refine kx_iconst (nI 0) d_M_hears_27 (by decide) ?_
        refine kx_zret d_M_hears_28 rfl (by decide) (by decide) (by decide) ?_
        first
          | exact absurd h7 hm1
          | (have hlo : lostI losses (nI (xNu X p)) = true := by unfold lostI; exact decide_eq_true h20
             rw [if_pos hlo]
             exact ⟨rfl, rfl⟩)
          | (have hlo : ¬ lostI losses (nI (xNu X p)) = true := by unfold lostI; rw [decide_eq_true_iff]; exact fun q => q h20
             rw [if_neg hlo]
             exact ⟨rfl, rfl⟩)
      · intro h20
        refine kx_iconst (nI 1) d_M_hears_23 (by decide) ?_
        refine kx_goto 28 d_M_hears_24 (by decide) ?_
        refine kx_zret d_M_hears_28 rfl (by decide) (by decide) (by decide) ?_
        first
          | exact absurd h7 hm1
          | (have hlo : lostI losses (nI (xNu X p)) = true := by unfold lostI; exact decide_eq_true h20
             rw [if_pos hlo]
             exact ⟨rfl, rfl⟩)
          | (have hlo : ¬ lostI losses (nI (xNu X p)) = true := by unfold lostI; rw [decide_eq_true_iff]; exact fun q => q h20
             rw [if_neg hlo]
             exact ⟨rfl, rfl⟩)
