/-! The reference: copy, look -/
def Bz (A : Nat → Nat → Int32) : Prop := ∀ i, i < 48 → A 7 i = nI 0 ∨ A 7 i = nI 1
theorem Bz.up {A : Nat → Nat → Int32} (h : Bz A) {j : Nat} (hj : 7 ≠ j) {f : Nat → Int32} : Bz (up1 A j f) := fun i hi => by rw [up1_n hj]; exact h i hi
theorem Bz.put {A : Nat → Nat → Int32} (h : Bz A) {k : Nat} {v : Int32} (hv : v = nI 0 ∨ v = nI 1) : Bz (up1 A 7 (upd (A 7) k v)) := fun i hi => by
  rw [up1_s]
  by_cases e : i = k
  · subst e; rw [upd_s]; exact hv
  · rw [upd_n e]; exact h i hi
theorem upd_c {f g : Nat → Int32} {k : Nat} (h : ∀ i, i < k → f i = g i) : ∀ i, i < k + 1 → upd f k (g k) i = g i := fun i hi => by
  by_cases e : i = k
  · subst e; rw [upd_s]
  · rw [upd_n e]; exact h i (by omega)
theorem d_M_copy_0 : decode c_M_copy 0 = .ok (.iconst 0, 1) := by decide +kernel
theorem d_M_copy_1 : decode c_M_copy 1 = .ok (.istore_n 1, 1) := by decide +kernel
theorem d_M_copy_2 : decode c_M_copy 2 = .ok (.iload_n 1, 1) := by decide +kernel
theorem d_M_copy_3 : decode c_M_copy 3 = .ok (.bipush 48, 2) := by decide +kernel
theorem d_M_copy_5 : decode c_M_copy 5 = .ok (.if_icmp .ge 33, 3) := by decide +kernel
theorem d_M_copy_8 : decode c_M_copy 8 = .ok (.aload_n 0, 1) := by decide +kernel
theorem d_M_copy_9 : decode c_M_copy 9 = .ok (.getfield 65, 3) := by decide +kernel
theorem d_M_copy_12 : decode c_M_copy 12 = .ok (.iload_n 1, 1) := by decide +kernel
theorem d_M_copy_13 : decode c_M_copy 13 = .ok (.aload_n 0, 1) := by decide +kernel
theorem d_M_copy_14 : decode c_M_copy 14 = .ok (.getfield 29, 3) := by decide +kernel
theorem d_M_copy_17 : decode c_M_copy 17 = .ok (.iload_n 1, 1) := by decide +kernel
theorem d_M_copy_18 : decode c_M_copy 18 = .ok (.iaload, 1) := by decide +kernel
theorem d_M_copy_19 : decode c_M_copy 19 = .ok (.iastore, 1) := by decide +kernel
theorem d_M_copy_20 : decode c_M_copy 20 = .ok (.aload_n 0, 1) := by decide +kernel
theorem d_M_copy_21 : decode c_M_copy 21 = .ok (.getfield 68, 3) := by decide +kernel
theorem d_M_copy_24 : decode c_M_copy 24 = .ok (.iload_n 1, 1) := by decide +kernel
theorem d_M_copy_25 : decode c_M_copy 25 = .ok (.aload_n 0, 1) := by decide +kernel
theorem d_M_copy_26 : decode c_M_copy 26 = .ok (.getfield 32, 3) := by decide +kernel
theorem d_M_copy_29 : decode c_M_copy 29 = .ok (.iload_n 1, 1) := by decide +kernel
theorem d_M_copy_30 : decode c_M_copy 30 = .ok (.baload, 1) := by decide +kernel
theorem d_M_copy_31 : decode c_M_copy 31 = .ok (.bastore, 1) := by decide +kernel
theorem d_M_copy_32 : decode c_M_copy 32 = .ok (.iinc 1 1, 3) := by decide +kernel
theorem d_M_copy_35 : decode c_M_copy 35 = .ok (.goto (-33), 3) := by decide +kernel
theorem d_M_copy_38 : decode c_M_copy 38 = .ok (.iconst 0, 1) := by decide +kernel
theorem d_M_copy_39 : decode c_M_copy 39 = .ok (.istore_n 1, 1) := by decide +kernel
theorem d_M_copy_40 : decode c_M_copy 40 = .ok (.iload_n 1, 1) := by decide +kernel
theorem d_M_copy_41 : decode c_M_copy 41 = .ok (.bipush 24, 2) := by decide +kernel
theorem d_M_copy_43 : decode c_M_copy 43 = .ok (.if_icmp .ge 21, 3) := by decide +kernel
theorem d_M_copy_46 : decode c_M_copy 46 = .ok (.aload_n 0, 1) := by decide +kernel
theorem d_M_copy_47 : decode c_M_copy 47 = .ok (.getfield 74, 3) := by decide +kernel
theorem d_M_copy_50 : decode c_M_copy 50 = .ok (.iload_n 1, 1) := by decide +kernel
theorem d_M_copy_51 : decode c_M_copy 51 = .ok (.aload_n 0, 1) := by decide +kernel
theorem d_M_copy_52 : decode c_M_copy 52 = .ok (.getfield 41, 3) := by decide +kernel
theorem d_M_copy_55 : decode c_M_copy 55 = .ok (.iload_n 1, 1) := by decide +kernel
theorem d_M_copy_56 : decode c_M_copy 56 = .ok (.iaload, 1) := by decide +kernel
theorem d_M_copy_57 : decode c_M_copy 57 = .ok (.iastore, 1) := by decide +kernel
theorem d_M_copy_58 : decode c_M_copy 58 = .ok (.iinc 1 1, 3) := by decide +kernel
theorem d_M_copy_61 : decode c_M_copy 61 = .ok (.goto (-21), 3) := by decide +kernel
theorem d_M_copy_64 : decode c_M_copy 64 = .ok (.iconst 0, 1) := by decide +kernel
theorem d_M_copy_65 : decode c_M_copy 65 = .ok (.istore_n 1, 1) := by decide +kernel
theorem d_M_copy_66 : decode c_M_copy 66 = .ok (.iload_n 1, 1) := by decide +kernel
theorem d_M_copy_67 : decode c_M_copy 67 = .ok (.sipush 1152, 3) := by decide +kernel
theorem d_M_copy_70 : decode c_M_copy 70 = .ok (.if_icmp .ge 21, 3) := by decide +kernel
theorem d_M_copy_73 : decode c_M_copy 73 = .ok (.aload_n 0, 1) := by decide +kernel
theorem d_M_copy_74 : decode c_M_copy 74 = .ok (.getfield 62, 3) := by decide +kernel
theorem d_M_copy_77 : decode c_M_copy 77 = .ok (.iload_n 1, 1) := by decide +kernel
theorem d_M_copy_78 : decode c_M_copy 78 = .ok (.aload_n 0, 1) := by decide +kernel
theorem d_M_copy_79 : decode c_M_copy 79 = .ok (.getfield 26, 3) := by decide +kernel
theorem d_M_copy_82 : decode c_M_copy 82 = .ok (.iload_n 1, 1) := by decide +kernel
theorem d_M_copy_83 : decode c_M_copy 83 = .ok (.iaload, 1) := by decide +kernel
theorem d_M_copy_84 : decode c_M_copy 84 = .ok (.iastore, 1) := by decide +kernel
theorem d_M_copy_85 : decode c_M_copy 85 = .ok (.iinc 1 1, 3) := by decide +kernel
theorem d_M_copy_88 : decode c_M_copy 88 = .ok (.goto (-22), 3) := by decide +kernel
theorem d_M_copy_91 : decode c_M_copy 91 = .ok (.iconst 0, 1) := by decide +kernel
theorem d_M_copy_92 : decode c_M_copy 92 = .ok (.istore_n 1, 1) := by decide +kernel
theorem d_M_copy_93 : decode c_M_copy 93 = .ok (.iload_n 1, 1) := by decide +kernel
theorem d_M_copy_94 : decode c_M_copy 94 = .ok (.sipush 576, 3) := by decide +kernel
theorem d_M_copy_97 : decode c_M_copy 97 = .ok (.if_icmp .ge 33, 3) := by decide +kernel
theorem d_M_copy_100 : decode c_M_copy 100 = .ok (.aload_n 0, 1) := by decide +kernel
theorem d_M_copy_101 : decode c_M_copy 101 = .ok (.getfield 71, 3) := by decide +kernel
theorem d_M_copy_104 : decode c_M_copy 104 = .ok (.iload_n 1, 1) := by decide +kernel
theorem d_M_copy_105 : decode c_M_copy 105 = .ok (.aload_n 0, 1) := by decide +kernel
theorem d_M_copy_106 : decode c_M_copy 106 = .ok (.getfield 38, 3) := by decide +kernel
theorem d_M_copy_109 : decode c_M_copy 109 = .ok (.iload_n 1, 1) := by decide +kernel
theorem d_M_copy_110 : decode c_M_copy 110 = .ok (.iaload, 1) := by decide +kernel
theorem d_M_copy_111 : decode c_M_copy 111 = .ok (.iastore, 1) := by decide +kernel
theorem d_M_copy_112 : decode c_M_copy 112 = .ok (.aload_n 0, 1) := by decide +kernel
theorem d_M_copy_113 : decode c_M_copy 113 = .ok (.getfield 77, 3) := by decide +kernel
theorem d_M_copy_116 : decode c_M_copy 116 = .ok (.iload_n 1, 1) := by decide +kernel
theorem d_M_copy_117 : decode c_M_copy 117 = .ok (.aload_n 0, 1) := by decide +kernel
theorem d_M_copy_118 : decode c_M_copy 118 = .ok (.getfield 50, 3) := by decide +kernel
theorem d_M_copy_121 : decode c_M_copy 121 = .ok (.iload_n 1, 1) := by decide +kernel
theorem d_M_copy_122 : decode c_M_copy 122 = .ok (.iaload, 1) := by decide +kernel
theorem d_M_copy_123 : decode c_M_copy 123 = .ok (.iastore, 1) := by decide +kernel
theorem d_M_copy_124 : decode c_M_copy 124 = .ok (.iinc 1 1, 3) := by decide +kernel
theorem d_M_copy_127 : decode c_M_copy 127 = .ok (.goto (-34), 3) := by decide +kernel
theorem d_M_copy_130 : decode c_M_copy 130 = .ok (.iconst 0, 1) := by decide +kernel
theorem d_M_copy_131 : decode c_M_copy 131 = .ok (.istore_n 1, 1) := by decide +kernel
theorem d_M_copy_132 : decode c_M_copy 132 = .ok (.iload_n 1, 1) := by decide +kernel
theorem d_M_copy_133 : decode c_M_copy 133 = .ok (.sipush 2304, 3) := by decide +kernel
theorem d_M_copy_136 : decode c_M_copy 136 = .ok (.if_icmp .ge 21, 3) := by decide +kernel
theorem d_M_copy_139 : decode c_M_copy 139 = .ok (.aload_n 0, 1) := by decide +kernel
theorem d_M_copy_140 : decode c_M_copy 140 = .ok (.getfield 80, 3) := by decide +kernel
theorem d_M_copy_143 : decode c_M_copy 143 = .ok (.iload_n 1, 1) := by decide +kernel
theorem d_M_copy_144 : decode c_M_copy 144 = .ok (.aload_n 0, 1) := by decide +kernel
theorem d_M_copy_145 : decode c_M_copy 145 = .ok (.getfield 53, 3) := by decide +kernel
theorem d_M_copy_148 : decode c_M_copy 148 = .ok (.iload_n 1, 1) := by decide +kernel
theorem d_M_copy_149 : decode c_M_copy 149 = .ok (.iaload, 1) := by decide +kernel
theorem d_M_copy_150 : decode c_M_copy 150 = .ok (.iastore, 1) := by decide +kernel
theorem d_M_copy_151 : decode c_M_copy 151 = .ok (.iinc 1 1, 3) := by decide +kernel
theorem d_M_copy_154 : decode c_M_copy 154 = .ok (.goto (-22), 3) := by decide +kernel
theorem d_M_copy_157 : decode c_M_copy 157 = .ok (.return_, 1) := by decide +kernel
set_option maxRecDepth 20000 in
set_option maxHeartbeats 4000000 in
theorem l_M_copy1 {E : kx_E} {w0 : va_W} {ma : Nat → Nat} {F : Nat → Int32} {A0 : Nat → Nat → Int32} (hz : ∀ i, i < 48 → A0 7 i = nI 0 ∨ A0 7 i = nI 1) {z : kx_Z} {Q : kx_O → va_W → Prop}
    (hQ : ∀ w A, Mdl E w ma F A → kx_off w0 w mdlN → (∀ j, j ≠ 18 → j ≠ 19 → A j = A0 j) → (∀ i, i < 48 → A 18 i = A0 6 i) → (∀ i, i < 48 → A 19 i = A0 7 i) → kx_R E Y_M_copy z 38 [(0, .ref (ma 0))] [] w 0 0 Q) :
    ∀ (m k : Nat) (w : va_W) (A : Nat → Nat → Int32), m + k = 48 → Mdl E w ma F A → kx_off w0 w mdlN → (∀ j, j ≠ 18 → j ≠ 19 → A j = A0 j) → (∀ i, i < k → A 18 i = A0 6 i) → (∀ i, i < k → A 19 i = A0 7 i) → kx_R E Y_M_copy z 2 [(0, .ref (ma 0)), (1, .int (nI k))] [] w 0 0 Q := by
  intro m
  induction m with
  | zero =>
    intro k w A hk hM hO hA c18 c19
    have hk : k = 48 := by omega
    subst hk
    have hQ9 := hQ w A hM hO hA c18 c19
    refine kx_iload_n d_M_copy_2 rfl ?_
    refine kx_bipush (nI 48) d_M_copy_3 (by decide) ?_
    first | refine kx_icmp_ge_n 38 d_M_copy_5 (by decide) (by omega) (by omega) ?_ ?_ | refine kx_icmp_ge 38 d_M_copy_5 (by decide) ?_ ?_
    · intro h5
      exact kx_loc (L1 := [(0, .ref (ma 0))]) ⟨rfl, trivial⟩ hQ9
    · intro h5
      exact absurd h5 (by omega)
  | succ m ih =>
    intro k w A hk hM hO hA c18 c19
    have hih := fun w => ih (k + 1) w (up1 (up1 A 18 (upd (A 18) k (A0 6 k))) 19 (upd (A 19) k (A0 7 k))) (by omega)
    have hz9 := hz k (by omega)
    have hfr : (∀ j, j ≠ 18 → j ≠ 19 → (up1 (up1 A 18 (upd (A 18) k (A0 6 k))) 19 (upd (A 19) k (A0 7 k))) j = A0 j) := (fun j q18 q19 => by rw [up1_n q19, up1_n q18]; exact hA j q18 q19)
    have n18 : ∀ i, i < k + 1 → (up1 (up1 A 18 (upd (A 18) k (A0 6 k))) 19 (upd (A 19) k (A0 7 k))) 18 i = A0 6 i := (fun i hi => by rw [up1_n (by decide), up1_s]; exact upd_c c18 i hi)
    have n19 : ∀ i, i < k + 1 → (up1 (up1 A 18 (upd (A 18) k (A0 6 k))) 19 (upd (A 19) k (A0 7 k))) 19 i = A0 7 i := (fun i hi => by rw [up1_s]; exact upd_c c19 i hi)
    refine kx_iload_n d_M_copy_2 rfl ?_
    refine kx_bipush (nI 48) d_M_copy_3 (by decide) ?_
    first | refine kx_icmp_ge_n 38 d_M_copy_5 (by decide) (by omega) (by omega) ?_ ?_ | refine kx_icmp_ge 38 d_M_copy_5 (by decide) ?_ ?_
    · intro h5
      exact absurd h5 (by omega)
    · intro h5
      refine kx_aload_n d_M_copy_8 rfl (by first | rfl | exact kx_rf _) ?_
      refine kx_get _ d_M_copy_9 f_M_65 hM.1 (by rfl) ?_
      refine kx_iload_n d_M_copy_12 rfl ?_
      refine kx_aload_n d_M_copy_13 rfl (by first | rfl | exact kx_rf _) ?_
      refine kx_get _ d_M_copy_14 f_M_29 hM.1 (by rfl) ?_
      refine kx_iload_n d_M_copy_17 rfl ?_
      refine kx_iald d_M_copy_18 hM.a6 (by omega) (by decide) ?_
      rw [hA 6 (by decide) (by decide)]
      refine mA_put (j := 18) d_M_copy_19 hM hO (by decide) (len := 48) rfl (by decide) (by omega) (fun w hM hO => ?_)
      refine kx_aload_n d_M_copy_20 rfl (by first | rfl | exact kx_rf _) ?_
      refine kx_get _ d_M_copy_21 f_M_68 hM.1 (by rfl) ?_
      refine kx_iload_n d_M_copy_24 rfl ?_
      refine kx_aload_n d_M_copy_25 rfl (by first | rfl | exact kx_rf _) ?_
      refine kx_get _ d_M_copy_26 f_M_32 hM.1 (by rfl) ?_
      refine kx_iload_n d_M_copy_29 rfl ?_
      refine kx_zald d_M_copy_30 hM.a7 (by omega) (by decide) ?_
      rw [up1_n (by decide), hA 7 (by decide) (by decide)]
      refine mZ_put (j := 19) d_M_copy_31 hM hO (by decide) (len := 48) rfl (by decide) (by omega) hz9 (fun w hM hO => ?_)
      refine kx_iinc _ d_M_copy_32 rfl (by decide) (nI_1 _) ?_
      refine kx_goto 2 d_M_copy_35 (by decide) ?_
      refine kx_loc (L1 := [(0, .ref (ma 0)), (1, .int (nI (k + 1)))]) ⟨rfl, rfl, trivial⟩ ?_
      exact hih w hM hO hfr n18 n19
set_option maxRecDepth 20000 in
set_option maxHeartbeats 4000000 in
theorem l_M_copy2 {E : kx_E} {w0 : va_W} {ma : Nat → Nat} {F : Nat → Int32} {A0 : Nat → Nat → Int32} {z : kx_Z} {Q : kx_O → va_W → Prop}
    (hQ : ∀ w A, Mdl E w ma F A → kx_off w0 w mdlN → (∀ j, j ≠ 21 → A j = A0 j) → (∀ i, i < 24 → A 21 i = A0 10 i) → kx_R E Y_M_copy z 64 [(0, .ref (ma 0))] [] w 0 0 Q) :
    ∀ (m k : Nat) (w : va_W) (A : Nat → Nat → Int32), m + k = 24 → Mdl E w ma F A → kx_off w0 w mdlN → (∀ j, j ≠ 21 → A j = A0 j) → (∀ i, i < k → A 21 i = A0 10 i) → kx_R E Y_M_copy z 40 [(0, .ref (ma 0)), (1, .int (nI k))] [] w 0 0 Q := by
  intro m
  induction m with
  | zero =>
    intro k w A hk hM hO hA c21
    have hk : k = 24 := by omega
    subst hk
    have hQ9 := hQ w A hM hO hA c21
    refine kx_iload_n d_M_copy_40 rfl ?_
    refine kx_bipush (nI 24) d_M_copy_41 (by decide) ?_
    first | refine kx_icmp_ge_n 64 d_M_copy_43 (by decide) (by omega) (by omega) ?_ ?_ | refine kx_icmp_ge 64 d_M_copy_43 (by decide) ?_ ?_
    · intro h43
      exact kx_loc (L1 := [(0, .ref (ma 0))]) ⟨rfl, trivial⟩ hQ9
    · intro h43
      exact absurd h43 (by omega)
  | succ m ih =>
    intro k w A hk hM hO hA c21
    have hih := fun w => ih (k + 1) w (up1 A 21 (upd (A 21) k (A0 10 k))) (by omega)
    have hfr : (∀ j, j ≠ 21 → (up1 A 21 (upd (A 21) k (A0 10 k))) j = A0 j) := (fun j q21 => by rw [up1_n q21]; exact hA j q21)
    have n21 : ∀ i, i < k + 1 → (up1 A 21 (upd (A 21) k (A0 10 k))) 21 i = A0 10 i := (fun i hi => by rw [up1_s]; exact upd_c c21 i hi)
    refine kx_iload_n d_M_copy_40 rfl ?_
    refine kx_bipush (nI 24) d_M_copy_41 (by decide) ?_
    first | refine kx_icmp_ge_n 64 d_M_copy_43 (by decide) (by omega) (by omega) ?_ ?_ | refine kx_icmp_ge 64 d_M_copy_43 (by decide) ?_ ?_
    · intro h43
      exact absurd h43 (by omega)
    · intro h43
      refine kx_aload_n d_M_copy_46 rfl (by first | rfl | exact kx_rf _) ?_
      refine kx_get _ d_M_copy_47 f_M_74 hM.1 (by rfl) ?_
      refine kx_iload_n d_M_copy_50 rfl ?_
      refine kx_aload_n d_M_copy_51 rfl (by first | rfl | exact kx_rf _) ?_
      refine kx_get _ d_M_copy_52 f_M_41 hM.1 (by rfl) ?_
      refine kx_iload_n d_M_copy_55 rfl ?_
      refine kx_iald d_M_copy_56 hM.a10 (by omega) (by decide) ?_
      rw [hA 10 (by decide)]
      refine mA_put (j := 21) d_M_copy_57 hM hO (by decide) (len := 24) rfl (by decide) (by omega) (fun w hM hO => ?_)
      refine kx_iinc _ d_M_copy_58 rfl (by decide) (nI_1 _) ?_
      refine kx_goto 40 d_M_copy_61 (by decide) ?_
      refine kx_loc (L1 := [(0, .ref (ma 0)), (1, .int (nI (k + 1)))]) ⟨rfl, rfl, trivial⟩ ?_
      exact hih w hM hO hfr n21
set_option maxRecDepth 20000 in
set_option maxHeartbeats 4000000 in
theorem l_M_copy3 {E : kx_E} {w0 : va_W} {ma : Nat → Nat} {F : Nat → Int32} {A0 : Nat → Nat → Int32} {z : kx_Z} {Q : kx_O → va_W → Prop}
    (hQ : ∀ w A, Mdl E w ma F A → kx_off w0 w mdlN → (∀ j, j ≠ 17 → A j = A0 j) → (∀ i, i < 1152 → A 17 i = A0 5 i) → kx_R E Y_M_copy z 91 [(0, .ref (ma 0))] [] w 0 0 Q) :
    ∀ (m k : Nat) (w : va_W) (A : Nat → Nat → Int32), m + k = 1152 → Mdl E w ma F A → kx_off w0 w mdlN → (∀ j, j ≠ 17 → A j = A0 j) → (∀ i, i < k → A 17 i = A0 5 i) → kx_R E Y_M_copy z 66 [(0, .ref (ma 0)), (1, .int (nI k))] [] w 0 0 Q := by
  intro m
  induction m with
  | zero =>
    intro k w A hk hM hO hA c17
    have hk : k = 1152 := by omega
    subst hk
    have hQ9 := hQ w A hM hO hA c17
    refine kx_iload_n d_M_copy_66 rfl ?_
    refine kx_sipush (nI 1152) d_M_copy_67 (by decide) ?_
    first | refine kx_icmp_ge_n 91 d_M_copy_70 (by decide) (by omega) (by omega) ?_ ?_ | refine kx_icmp_ge 91 d_M_copy_70 (by decide) ?_ ?_
    · intro h70
      exact kx_loc (L1 := [(0, .ref (ma 0))]) ⟨rfl, trivial⟩ hQ9
    · intro h70
      exact absurd h70 (by omega)
  | succ m ih =>
    intro k w A hk hM hO hA c17
    have hih := fun w => ih (k + 1) w (up1 A 17 (upd (A 17) k (A0 5 k))) (by omega)
    have hfr : (∀ j, j ≠ 17 → (up1 A 17 (upd (A 17) k (A0 5 k))) j = A0 j) := (fun j q17 => by rw [up1_n q17]; exact hA j q17)
    have n17 : ∀ i, i < k + 1 → (up1 A 17 (upd (A 17) k (A0 5 k))) 17 i = A0 5 i := (fun i hi => by rw [up1_s]; exact upd_c c17 i hi)
    refine kx_iload_n d_M_copy_66 rfl ?_
    refine kx_sipush (nI 1152) d_M_copy_67 (by decide) ?_
    first | refine kx_icmp_ge_n 91 d_M_copy_70 (by decide) (by omega) (by omega) ?_ ?_ | refine kx_icmp_ge 91 d_M_copy_70 (by decide) ?_ ?_
    · intro h70
      exact absurd h70 (by omega)
    · intro h70
      refine kx_aload_n d_M_copy_73 rfl (by first | rfl | exact kx_rf _) ?_
      refine kx_get _ d_M_copy_74 f_M_62 hM.1 (by rfl) ?_
      refine kx_iload_n d_M_copy_77 rfl ?_
      refine kx_aload_n d_M_copy_78 rfl (by first | rfl | exact kx_rf _) ?_
      refine kx_get _ d_M_copy_79 f_M_26 hM.1 (by rfl) ?_
      refine kx_iload_n d_M_copy_82 rfl ?_
      refine kx_iald d_M_copy_83 hM.a5 (by omega) (by decide) ?_
      rw [hA 5 (by decide)]
      refine mA_put (j := 17) d_M_copy_84 hM hO (by decide) (len := 1152) rfl (by decide) (by omega) (fun w hM hO => ?_)
      refine kx_iinc _ d_M_copy_85 rfl (by decide) (nI_1 _) ?_
      refine kx_goto 66 d_M_copy_88 (by decide) ?_
      refine kx_loc (L1 := [(0, .ref (ma 0)), (1, .int (nI (k + 1)))]) ⟨rfl, rfl, trivial⟩ ?_
      exact hih w hM hO hfr n17
set_option maxRecDepth 20000 in
set_option maxHeartbeats 4000000 in
theorem l_M_copy4 {E : kx_E} {w0 : va_W} {ma : Nat → Nat} {F : Nat → Int32} {A0 : Nat → Nat → Int32} {z : kx_Z} {Q : kx_O → va_W → Prop}
    (hQ : ∀ w A, Mdl E w ma F A → kx_off w0 w mdlN → (∀ j, j ≠ 20 → j ≠ 22 → A j = A0 j) → (∀ i, i < 576 → A 20 i = A0 9 i) → (∀ i, i < 576 → A 22 i = A0 13 i) → kx_R E Y_M_copy z 130 [(0, .ref (ma 0))] [] w 0 0 Q) :
    ∀ (m k : Nat) (w : va_W) (A : Nat → Nat → Int32), m + k = 576 → Mdl E w ma F A → kx_off w0 w mdlN → (∀ j, j ≠ 20 → j ≠ 22 → A j = A0 j) → (∀ i, i < k → A 20 i = A0 9 i) → (∀ i, i < k → A 22 i = A0 13 i) → kx_R E Y_M_copy z 93 [(0, .ref (ma 0)), (1, .int (nI k))] [] w 0 0 Q := by
  intro m
  induction m with
  | zero =>
    intro k w A hk hM hO hA c20 c22
    have hk : k = 576 := by omega
    subst hk
    have hQ9 := hQ w A hM hO hA c20 c22
    refine kx_iload_n d_M_copy_93 rfl ?_
    refine kx_sipush (nI 576) d_M_copy_94 (by decide) ?_
    first | refine kx_icmp_ge_n 130 d_M_copy_97 (by decide) (by omega) (by omega) ?_ ?_ | refine kx_icmp_ge 130 d_M_copy_97 (by decide) ?_ ?_
    · intro h97
      exact kx_loc (L1 := [(0, .ref (ma 0))]) ⟨rfl, trivial⟩ hQ9
    · intro h97
      exact absurd h97 (by omega)
  | succ m ih =>
    intro k w A hk hM hO hA c20 c22
    have hih := fun w => ih (k + 1) w (up1 (up1 A 20 (upd (A 20) k (A0 9 k))) 22 (upd (A 22) k (A0 13 k))) (by omega)
    have hfr : (∀ j, j ≠ 20 → j ≠ 22 → (up1 (up1 A 20 (upd (A 20) k (A0 9 k))) 22 (upd (A 22) k (A0 13 k))) j = A0 j) := (fun j q20 q22 => by rw [up1_n q22, up1_n q20]; exact hA j q20 q22)
    have n20 : ∀ i, i < k + 1 → (up1 (up1 A 20 (upd (A 20) k (A0 9 k))) 22 (upd (A 22) k (A0 13 k))) 20 i = A0 9 i := (fun i hi => by rw [up1_n (by decide), up1_s]; exact upd_c c20 i hi)
    have n22 : ∀ i, i < k + 1 → (up1 (up1 A 20 (upd (A 20) k (A0 9 k))) 22 (upd (A 22) k (A0 13 k))) 22 i = A0 13 i := (fun i hi => by rw [up1_s]; exact upd_c c22 i hi)
    refine kx_iload_n d_M_copy_93 rfl ?_
    refine kx_sipush (nI 576) d_M_copy_94 (by decide) ?_
    first | refine kx_icmp_ge_n 130 d_M_copy_97 (by decide) (by omega) (by omega) ?_ ?_ | refine kx_icmp_ge 130 d_M_copy_97 (by decide) ?_ ?_
    · intro h97
      exact absurd h97 (by omega)
    · intro h97
      refine kx_aload_n d_M_copy_100 rfl (by first | rfl | exact kx_rf _) ?_
      refine kx_get _ d_M_copy_101 f_M_71 hM.1 (by rfl) ?_
      refine kx_iload_n d_M_copy_104 rfl ?_
      refine kx_aload_n d_M_copy_105 rfl (by first | rfl | exact kx_rf _) ?_
      refine kx_get _ d_M_copy_106 f_M_38 hM.1 (by rfl) ?_
      refine kx_iload_n d_M_copy_109 rfl ?_
      refine kx_iald d_M_copy_110 hM.a9 (by omega) (by decide) ?_
      rw [hA 9 (by decide) (by decide)]
      refine mA_put (j := 20) d_M_copy_111 hM hO (by decide) (len := 576) rfl (by decide) (by omega) (fun w hM hO => ?_)
      refine kx_aload_n d_M_copy_112 rfl (by first | rfl | exact kx_rf _) ?_
      refine kx_get _ d_M_copy_113 f_M_77 hM.1 (by rfl) ?_
      refine kx_iload_n d_M_copy_116 rfl ?_
      refine kx_aload_n d_M_copy_117 rfl (by first | rfl | exact kx_rf _) ?_
      refine kx_get _ d_M_copy_118 f_M_50 hM.1 (by rfl) ?_
      refine kx_iload_n d_M_copy_121 rfl ?_
      refine kx_iald d_M_copy_122 hM.a13 (by omega) (by decide) ?_
      rw [up1_n (by decide), hA 13 (by decide) (by decide)]
      refine mA_put (j := 22) d_M_copy_123 hM hO (by decide) (len := 576) rfl (by decide) (by omega) (fun w hM hO => ?_)
      refine kx_iinc _ d_M_copy_124 rfl (by decide) (nI_1 _) ?_
      refine kx_goto 93 d_M_copy_127 (by decide) ?_
      refine kx_loc (L1 := [(0, .ref (ma 0)), (1, .int (nI (k + 1)))]) ⟨rfl, rfl, trivial⟩ ?_
      exact hih w hM hO hfr n20 n22
set_option maxRecDepth 20000 in
set_option maxHeartbeats 4000000 in
theorem l_M_copy5 {E : kx_E} {w0 : va_W} {ma : Nat → Nat} {F : Nat → Int32} {A0 : Nat → Nat → Int32} {z : kx_Z} {Q : kx_O → va_W → Prop}
    (hQ : ∀ w A, Mdl E w ma F A → kx_off w0 w mdlN → (∀ j, j ≠ 23 → A j = A0 j) → (∀ i, i < 2304 → A 23 i = A0 14 i) → kx_R E Y_M_copy z 157 [(0, .ref (ma 0))] [] w 0 0 Q) :
    ∀ (m k : Nat) (w : va_W) (A : Nat → Nat → Int32), m + k = 2304 → Mdl E w ma F A → kx_off w0 w mdlN → (∀ j, j ≠ 23 → A j = A0 j) → (∀ i, i < k → A 23 i = A0 14 i) → kx_R E Y_M_copy z 132 [(0, .ref (ma 0)), (1, .int (nI k))] [] w 0 0 Q := by
  intro m
  induction m with
  | zero =>
    intro k w A hk hM hO hA c23
    have hk : k = 2304 := by omega
    subst hk
    have hQ9 := hQ w A hM hO hA c23
    refine kx_iload_n d_M_copy_132 rfl ?_
    refine kx_sipush (nI 2304) d_M_copy_133 (by decide) ?_
    first | refine kx_icmp_ge_n 157 d_M_copy_136 (by decide) (by omega) (by omega) ?_ ?_ | refine kx_icmp_ge 157 d_M_copy_136 (by decide) ?_ ?_
    · intro h136
      exact kx_loc (L1 := [(0, .ref (ma 0))]) ⟨rfl, trivial⟩ hQ9
    · intro h136
      exact absurd h136 (by omega)
  | succ m ih =>
    intro k w A hk hM hO hA c23
    have hih := fun w => ih (k + 1) w (up1 A 23 (upd (A 23) k (A0 14 k))) (by omega)
    have hfr : (∀ j, j ≠ 23 → (up1 A 23 (upd (A 23) k (A0 14 k))) j = A0 j) := (fun j q23 => by rw [up1_n q23]; exact hA j q23)
    have n23 : ∀ i, i < k + 1 → (up1 A 23 (upd (A 23) k (A0 14 k))) 23 i = A0 14 i := (fun i hi => by rw [up1_s]; exact upd_c c23 i hi)
    refine kx_iload_n d_M_copy_132 rfl ?_
    refine kx_sipush (nI 2304) d_M_copy_133 (by decide) ?_
    first | refine kx_icmp_ge_n 157 d_M_copy_136 (by decide) (by omega) (by omega) ?_ ?_ | refine kx_icmp_ge 157 d_M_copy_136 (by decide) ?_ ?_
    · intro h136
      exact absurd h136 (by omega)
    · intro h136
      refine kx_aload_n d_M_copy_139 rfl (by first | rfl | exact kx_rf _) ?_
      refine kx_get _ d_M_copy_140 f_M_80 hM.1 (by rfl) ?_
      refine kx_iload_n d_M_copy_143 rfl ?_
      refine kx_aload_n d_M_copy_144 rfl (by first | rfl | exact kx_rf _) ?_
      refine kx_get _ d_M_copy_145 f_M_53 hM.1 (by rfl) ?_
      refine kx_iload_n d_M_copy_148 rfl ?_
      refine kx_iald d_M_copy_149 hM.a14 (by omega) (by decide) ?_
      rw [hA 14 (by decide)]
      refine mA_put (j := 23) d_M_copy_150 hM hO (by decide) (len := 2304) rfl (by decide) (by omega) (fun w hM hO => ?_)
      refine kx_iinc _ d_M_copy_151 rfl (by decide) (nI_1 _) ?_
      refine kx_goto 132 d_M_copy_154 (by decide) ?_
      refine kx_loc (L1 := [(0, .ref (ma 0)), (1, .int (nI (k + 1)))]) ⟨rfl, rfl, trivial⟩ ?_
      exact hih w hM hO hfr n23
