/-! The reference: couple, uncouple -/
theorem d_M_couple_0 : decode c_M_couple 0 = .ok (.aload_n 0, 1) := by decide +kernel
theorem d_M_couple_1 : decode c_M_couple 1 = .ok (.iload_n 1, 1) := by decide +kernel
theorem d_M_couple_2 : decode c_M_couple 2 = .ok (.invokevirtual 97, 3) := by decide +kernel
theorem d_M_couple_5 : decode c_M_couple 5 = .ok (.istore 5, 2) := by decide +kernel
theorem d_M_couple_7 : decode c_M_couple 7 = .ok (.aload_n 0, 1) := by decide +kernel
theorem d_M_couple_8 : decode c_M_couple 8 = .ok (.iload_n 3, 1) := by decide +kernel
theorem d_M_couple_9 : decode c_M_couple 9 = .ok (.invokevirtual 97, 3) := by decide +kernel
theorem d_M_couple_12 : decode c_M_couple 12 = .ok (.istore 6, 2) := by decide +kernel
theorem d_M_couple_14 : decode c_M_couple 14 = .ok (.iload 5, 2) := by decide +kernel
theorem d_M_couple_16 : decode c_M_couple 16 = .ok (.iconst (-1), 1) := by decide +kernel
theorem d_M_couple_17 : decode c_M_couple 17 = .ok (.if_icmp .eq 28, 3) := by decide +kernel
theorem d_M_couple_20 : decode c_M_couple 20 = .ok (.iload 6, 2) := by decide +kernel
theorem d_M_couple_22 : decode c_M_couple 22 = .ok (.iconst (-1), 1) := by decide +kernel
theorem d_M_couple_23 : decode c_M_couple 23 = .ok (.if_icmp .eq 22, 3) := by decide +kernel
theorem d_M_couple_26 : decode c_M_couple 26 = .ok (.iload_n 2, 1) := by decide +kernel
theorem d_M_couple_27 : decode c_M_couple 27 = .ok (.invokestatic 115, 3) := by decide +kernel
theorem d_M_couple_30 : decode c_M_couple 30 = .ok (.ifCond .eq 15, 3) := by decide +kernel
theorem d_M_couple_33 : decode c_M_couple 33 = .ok (.iload 4, 2) := by decide +kernel
theorem d_M_couple_35 : decode c_M_couple 35 = .ok (.invokestatic 115, 3) := by decide +kernel
theorem d_M_couple_38 : decode c_M_couple 38 = .ok (.ifCond .eq 7, 3) := by decide +kernel
theorem d_M_couple_41 : decode c_M_couple 41 = .ok (.iconst 1, 1) := by decide +kernel
theorem d_M_couple_42 : decode c_M_couple 42 = .ok (.goto 4, 3) := by decide +kernel
theorem d_M_couple_45 : decode c_M_couple 45 = .ok (.iconst 0, 1) := by decide +kernel
theorem d_M_couple_46 : decode c_M_couple 46 = .ok (.istore 7, 2) := by decide +kernel
theorem d_M_couple_48 : decode c_M_couple 48 = .ok (.iload 7, 2) := by decide +kernel
theorem d_M_couple_50 : decode c_M_couple 50 = .ok (.ifCond .eq 12, 3) := by decide +kernel
theorem d_M_couple_53 : decode c_M_couple 53 = .ok (.iconst 2, 1) := by decide +kernel
theorem d_M_couple_54 : decode c_M_couple 54 = .ok (.iload 5, 2) := by decide +kernel
theorem d_M_couple_56 : decode c_M_couple 56 = .ok (.imul, 1) := by decide +kernel
theorem d_M_couple_57 : decode c_M_couple 57 = .ok (.iload_n 2, 1) := by decide +kernel
theorem d_M_couple_58 : decode c_M_couple 58 = .ok (.iadd, 1) := by decide +kernel
theorem d_M_couple_59 : decode c_M_couple 59 = .ok (.goto 4, 3) := by decide +kernel
theorem d_M_couple_62 : decode c_M_couple 62 = .ok (.iconst 0, 1) := by decide +kernel
theorem d_M_couple_63 : decode c_M_couple 63 = .ok (.istore 8, 2) := by decide +kernel
theorem d_M_couple_65 : decode c_M_couple 65 = .ok (.iload 7, 2) := by decide +kernel
theorem d_M_couple_67 : decode c_M_couple 67 = .ok (.ifCond .eq 13, 3) := by decide +kernel
theorem d_M_couple_70 : decode c_M_couple 70 = .ok (.iconst 2, 1) := by decide +kernel
theorem d_M_couple_71 : decode c_M_couple 71 = .ok (.iload 6, 2) := by decide +kernel
theorem d_M_couple_73 : decode c_M_couple 73 = .ok (.imul, 1) := by decide +kernel
theorem d_M_couple_74 : decode c_M_couple 74 = .ok (.iload 4, 2) := by decide +kernel
theorem d_M_couple_76 : decode c_M_couple 76 = .ok (.iadd, 1) := by decide +kernel
theorem d_M_couple_77 : decode c_M_couple 77 = .ok (.goto 4, 3) := by decide +kernel
theorem d_M_couple_80 : decode c_M_couple 80 = .ok (.iconst 0, 1) := by decide +kernel
theorem d_M_couple_81 : decode c_M_couple 81 = .ok (.istore 9, 2) := by decide +kernel
theorem d_M_couple_83 : decode c_M_couple 83 = .ok (.aload_n 0, 1) := by decide +kernel
theorem d_M_couple_84 : decode c_M_couple 84 = .ok (.iload 7, 2) := by decide +kernel
theorem d_M_couple_86 : decode c_M_couple 86 = .ok (.iload 7, 2) := by decide +kernel
theorem d_M_couple_88 : decode c_M_couple 88 = .ok (.ifCond .eq 40, 3) := by decide +kernel
theorem d_M_couple_91 : decode c_M_couple 91 = .ok (.aload_n 0, 1) := by decide +kernel
theorem d_M_couple_92 : decode c_M_couple 92 = .ok (.getfield 16, 3) := by decide +kernel
theorem d_M_couple_95 : decode c_M_couple 95 = .ok (.iload 8, 2) := by decide +kernel
theorem d_M_couple_97 : decode c_M_couple 97 = .ok (.iaload, 1) := by decide +kernel
theorem d_M_couple_98 : decode c_M_couple 98 = .ok (.iconst (-1), 1) := by decide +kernel
theorem d_M_couple_99 : decode c_M_couple 99 = .ok (.if_icmp .ne 29, 3) := by decide +kernel
theorem d_M_couple_102 : decode c_M_couple 102 = .ok (.aload_n 0, 1) := by decide +kernel
theorem d_M_couple_103 : decode c_M_couple 103 = .ok (.getfield 16, 3) := by decide +kernel
theorem d_M_couple_106 : decode c_M_couple 106 = .ok (.iload 9, 2) := by decide +kernel
theorem d_M_couple_108 : decode c_M_couple 108 = .ok (.iaload, 1) := by decide +kernel
theorem d_M_couple_109 : decode c_M_couple 109 = .ok (.iconst (-1), 1) := by decide +kernel
theorem d_M_couple_110 : decode c_M_couple 110 = .ok (.if_icmp .ne 18, 3) := by decide +kernel
theorem d_M_couple_113 : decode c_M_couple 113 = .ok (.aload_n 0, 1) := by decide +kernel
theorem d_M_couple_114 : decode c_M_couple 114 = .ok (.iload 5, 2) := by decide +kernel
theorem d_M_couple_116 : decode c_M_couple 116 = .ok (.iload 6, 2) := by decide +kernel
theorem d_M_couple_118 : decode c_M_couple 118 = .ok (.invokevirtual 119, 3) := by decide +kernel
theorem d_M_couple_121 : decode c_M_couple 121 = .ok (.ifCond .ne 7, 3) := by decide +kernel
theorem d_M_couple_124 : decode c_M_couple 124 = .ok (.iconst 1, 1) := by decide +kernel
theorem d_M_couple_125 : decode c_M_couple 125 = .ok (.goto 4, 3) := by decide +kernel
theorem d_M_couple_128 : decode c_M_couple 128 = .ok (.iconst 0, 1) := by decide +kernel
theorem d_M_couple_129 : decode c_M_couple 129 = .ok (.iconst 1, 1) := by decide +kernel
theorem d_M_couple_130 : decode c_M_couple 130 = .ok (.invokevirtual 101, 3) := by decide +kernel
theorem d_M_couple_133 : decode c_M_couple 133 = .ok (.ifCond .ne 5, 3) := by decide +kernel
theorem d_M_couple_136 : decode c_M_couple 136 = .ok (.iconst 0, 1) := by decide +kernel
theorem d_M_couple_137 : decode c_M_couple 137 = .ok (.ireturn, 1) := by decide +kernel
theorem d_M_couple_138 : decode c_M_couple 138 = .ok (.iconst 0, 1) := by decide +kernel
theorem d_M_couple_139 : decode c_M_couple 139 = .ok (.istore 10, 2) := by decide +kernel
theorem d_M_couple_141 : decode c_M_couple 141 = .ok (.aload_n 0, 1) := by decide +kernel
theorem d_M_couple_142 : decode c_M_couple 142 = .ok (.getfield 22, 3) := by decide +kernel
theorem d_M_couple_145 : decode c_M_couple 145 = .ok (.iload 10, 2) := by decide +kernel
theorem d_M_couple_147 : decode c_M_couple 147 = .ok (.baload, 1) := by decide +kernel
theorem d_M_couple_148 : decode c_M_couple 148 = .ok (.ifCond .eq 9, 3) := by decide +kernel
theorem d_M_couple_151 : decode c_M_couple 151 = .ok (.iinc 10 1, 3) := by decide +kernel
theorem d_M_couple_154 : decode c_M_couple 154 = .ok (.goto (-13), 3) := by decide +kernel
theorem d_M_couple_157 : decode c_M_couple 157 = .ok (.aload_n 0, 1) := by decide +kernel
theorem d_M_couple_158 : decode c_M_couple 158 = .ok (.getfield 22, 3) := by decide +kernel
theorem d_M_couple_161 : decode c_M_couple 161 = .ok (.iload 10, 2) := by decide +kernel
theorem d_M_couple_163 : decode c_M_couple 163 = .ok (.iconst 1, 1) := by decide +kernel
theorem d_M_couple_164 : decode c_M_couple 164 = .ok (.bastore, 1) := by decide +kernel
theorem d_M_couple_165 : decode c_M_couple 165 = .ok (.aload_n 0, 1) := by decide +kernel
theorem d_M_couple_166 : decode c_M_couple 166 = .ok (.getfield 16, 3) := by decide +kernel
theorem d_M_couple_169 : decode c_M_couple 169 = .ok (.iload 8, 2) := by decide +kernel
theorem d_M_couple_171 : decode c_M_couple 171 = .ok (.iload 9, 2) := by decide +kernel
theorem d_M_couple_173 : decode c_M_couple 173 = .ok (.iastore, 1) := by decide +kernel
theorem d_M_couple_174 : decode c_M_couple 174 = .ok (.aload_n 0, 1) := by decide +kernel
theorem d_M_couple_175 : decode c_M_couple 175 = .ok (.getfield 16, 3) := by decide +kernel
theorem d_M_couple_178 : decode c_M_couple 178 = .ok (.iload 9, 2) := by decide +kernel
theorem d_M_couple_180 : decode c_M_couple 180 = .ok (.iload 8, 2) := by decide +kernel
theorem d_M_couple_182 : decode c_M_couple 182 = .ok (.iastore, 1) := by decide +kernel
theorem d_M_couple_183 : decode c_M_couple 183 = .ok (.aload_n 0, 1) := by decide +kernel
theorem d_M_couple_184 : decode c_M_couple 184 = .ok (.getfield 19, 3) := by decide +kernel
theorem d_M_couple_187 : decode c_M_couple 187 = .ok (.iload 8, 2) := by decide +kernel
theorem d_M_couple_189 : decode c_M_couple 189 = .ok (.iload 10, 2) := by decide +kernel
theorem d_M_couple_191 : decode c_M_couple 191 = .ok (.iastore, 1) := by decide +kernel
theorem d_M_couple_192 : decode c_M_couple 192 = .ok (.aload_n 0, 1) := by decide +kernel
theorem d_M_couple_193 : decode c_M_couple 193 = .ok (.getfield 19, 3) := by decide +kernel
theorem d_M_couple_196 : decode c_M_couple 196 = .ok (.iload 9, 2) := by decide +kernel
theorem d_M_couple_198 : decode c_M_couple 198 = .ok (.iload 10, 2) := by decide +kernel
theorem d_M_couple_200 : decode c_M_couple 200 = .ok (.iastore, 1) := by decide +kernel
theorem d_M_couple_201 : decode c_M_couple 201 = .ok (.aload_n 0, 1) := by decide +kernel
theorem d_M_couple_202 : decode c_M_couple 202 = .ok (.dup, 1) := by decide +kernel
theorem d_M_couple_203 : decode c_M_couple 203 = .ok (.getfield 123, 3) := by decide +kernel
theorem d_M_couple_206 : decode c_M_couple 206 = .ok (.iconst 1, 1) := by decide +kernel
theorem d_M_couple_207 : decode c_M_couple 207 = .ok (.iadd, 1) := by decide +kernel
theorem d_M_couple_208 : decode c_M_couple 208 = .ok (.putfield 123, 3) := by decide +kernel
theorem d_M_couple_211 : decode c_M_couple 211 = .ok (.iload 10, 2) := by decide +kernel
theorem d_M_couple_213 : decode c_M_couple 213 = .ok (.ireturn, 1) := by decide +kernel
set_option maxRecDepth 20000 in
set_option maxHeartbeats 4000000 in
theorem m_M_couple_a {E : kx_E} {w : va_W} {ma : Nat → Nat} {F : Nat → Int32} {A : Nat → Nat → Int32} (hM : Mdl E w ma F A) {n : Nat} {X : Fx} {D : Dy} (hR : ModR n X D A) (hX : WfX n X) (hD : WfD n D) (hn : F 1 = nI n) {bi : Nat → Option Nat} (hB : BiR n X bi) {a ea b eb : Int32} (ha : carI bi a = none) : kx_S E Y_M_couple [.ref (ma 0), .int a, .int ea, .int b, .int eb] w (MX E w ma (up1 F 0 (nI 1)) A (some (.int (nI 0)))) := by
  refine kx_go (by decide) rfl rfl (Nat.le_of_ble_eq_true rfl) (kx_cc rfl (kx_cc rfl (kx_cc rfl (kx_cc rfl (kx_cc rfl kx_c0))))) (fun z => ?_)
  have hO : kx_off w w mdlN := kx_off.rf
  have h24 := hX.1
  cases hb : carI bi b with
  | none =>
    refine kx_aload_n d_M_couple_0 rfl (by first | rfl | exact kx_rf _) ?_
    refine kx_iload_n d_M_couple_1 rfl ?_
    refine kx_callV (as := [.int a]) (rest := []) d_M_couple_2 v_M_97 rfl hM.1 rfl rfl (by decide) (by decide) (Nat.le_of_ble_eq_true rfl) (by decide) (by decide) rfl (m_M_findN hM hR hX hD hn hB ha) (fun X w1 h => by cases h.1) (fun v w1 hq9 => ?_)
    obtain ⟨hv, hw9⟩ := hq9
    cases hv
    subst hw9
    refine kx_stk (st1 := [.int (-1)]) rfl ?_
    refine kx_istore d_M_couple_5 (by decide) ?_
    refine kx_aload_n d_M_couple_7 rfl (by first | rfl | exact kx_rf _) ?_
    refine kx_iload_n d_M_couple_8 rfl ?_
    refine kx_callV (as := [.int b]) (rest := []) d_M_couple_9 v_M_97 rfl hM.1 rfl rfl (by decide) (by decide) (Nat.le_of_ble_eq_true rfl) (by decide) (by decide) rfl (m_M_findN hM hR hX hD hn hB hb) (fun X w1 h => by cases h.1) (fun v w1 hq9 => ?_)
    obtain ⟨hv, hw9⟩ := hq9
    cases hv
    subst hw9
    refine kx_stk (st1 := [.int (-1)]) rfl ?_
    refine kx_istore d_M_couple_12 (by decide) ?_
    refine kx_iload d_M_couple_14 rfl ?_
    refine kx_iconst (-1) d_M_couple_16 (by decide) ?_
    refine kx_icmp_eq 45 d_M_couple_17 (by decide) (fun _ => ?_) (fun h => absurd rfl h)
    refine kx_iconst (nI 0) d_M_couple_45 (by decide) ?_
    refine kx_istore d_M_couple_46 (by decide) ?_
    refine kx_iload d_M_couple_48 rfl ?_
    refine kx_if_eq_n 62 d_M_couple_50 (by decide) (by decide) (fun _ => ?_) (fun h => absurd rfl h)
    refine kx_iconst (nI 0) d_M_couple_62 (by decide) ?_
    refine kx_istore d_M_couple_63 (by decide) ?_
    refine kx_iload d_M_couple_65 rfl ?_
    refine kx_if_eq_n 80 d_M_couple_67 (by decide) (by decide) (fun _ => ?_) (fun h => absurd rfl h)
    refine kx_iconst (nI 0) d_M_couple_80 (by decide) ?_
    refine kx_istore d_M_couple_81 (by decide) ?_
    refine kx_aload_n d_M_couple_83 rfl (by first | rfl | exact kx_rf _) ?_
    refine kx_iload d_M_couple_84 rfl ?_
    refine kx_iload d_M_couple_86 rfl ?_
    refine kx_if_eq_n 128 d_M_couple_88 (by decide) (by decide) (fun _ => ?_) (fun h => absurd rfl h)
    refine kx_iconst (nI 0) d_M_couple_128 (by decide) ?_
    refine kx_iconst (nI 1) d_M_couple_129 (by decide) ?_
    refine kx_callV (as := [.int (nI _), .int (nI _), .int (nI _)]) (rest := []) d_M_couple_130 v_M_101 rfl hM.1 rfl rfl (by decide) (by decide) (Nat.le_of_ble_eq_true rfl) (by decide) (by decide) rfl (m_M_goes hM (by decide) (by decide) (by decide)) (fun X w1 h => by cases h.1) (fun v w hq9 => ?_)
    obtain ⟨hv, hM, hO9⟩ := hq9
    cases hv
    have hO := hO.tr hO9 (fun _ h => h) (fun _ h => h)
    refine kx_stk (st1 := [.int (nI 0)]) rfl ?_
    refine kx_if_ne_n 138 d_M_couple_133 (by decide) (by decide) (fun h => absurd rfl h) (fun _ => ?_)
    refine kx_iconst (nI 0) d_M_couple_136 (by decide) ?_
    refine kx_iret d_M_couple_137 rfl (by decide) (by decide) ?_
    exact ⟨rfl, hM, hO⟩
  | some y =>
    have hy := hB.c hb
    refine kx_aload_n d_M_couple_0 rfl (by first | rfl | exact kx_rf _) ?_
    refine kx_iload_n d_M_couple_1 rfl ?_
    refine kx_callV (as := [.int a]) (rest := []) d_M_couple_2 v_M_97 rfl hM.1 rfl rfl (by decide) (by decide) (Nat.le_of_ble_eq_true rfl) (by decide) (by decide) rfl (m_M_findN hM hR hX hD hn hB ha) (fun X w1 h => by cases h.1) (fun v w1 hq9 => ?_)
    obtain ⟨hv, hw9⟩ := hq9
    cases hv
    subst hw9
    refine kx_stk (st1 := [.int (-1)]) rfl ?_
    refine kx_istore d_M_couple_5 (by decide) ?_
    refine kx_aload_n d_M_couple_7 rfl (by first | rfl | exact kx_rf _) ?_
    refine kx_iload_n d_M_couple_8 rfl ?_
    refine kx_callV (as := [.int b]) (rest := []) d_M_couple_9 v_M_97 rfl hM.1 rfl rfl (by decide) (by decide) (Nat.le_of_ble_eq_true rfl) (by decide) (by decide) rfl (m_M_findC hM hR hX hD hn hB hb) (fun X w1 h => by cases h.1) (fun v w1 hq9 => ?_)
    obtain ⟨hv, hw9⟩ := hq9
    cases hv
    subst hw9
    refine kx_stk (st1 := [.int (nI y)]) rfl ?_
    refine kx_istore d_M_couple_12 (by decide) ?_
    refine kx_iload d_M_couple_14 rfl ?_
    refine kx_iconst (-1) d_M_couple_16 (by decide) ?_
    refine kx_icmp_eq 45 d_M_couple_17 (by decide) (fun _ => ?_) (fun h => absurd rfl h)
    refine kx_iconst (nI 0) d_M_couple_45 (by decide) ?_
    refine kx_istore d_M_couple_46 (by decide) ?_
    refine kx_iload d_M_couple_48 rfl ?_
    refine kx_if_eq_n 62 d_M_couple_50 (by decide) (by decide) (fun _ => ?_) (fun h => absurd rfl h)
    refine kx_iconst (nI 0) d_M_couple_62 (by decide) ?_
    refine kx_istore d_M_couple_63 (by decide) ?_
    refine kx_iload d_M_couple_65 rfl ?_
    refine kx_if_eq_n 80 d_M_couple_67 (by decide) (by decide) (fun _ => ?_) (fun h => absurd rfl h)
    refine kx_iconst (nI 0) d_M_couple_80 (by decide) ?_
    refine kx_istore d_M_couple_81 (by decide) ?_
    refine kx_aload_n d_M_couple_83 rfl (by first | rfl | exact kx_rf _) ?_
    refine kx_iload d_M_couple_84 rfl ?_
    refine kx_iload d_M_couple_86 rfl ?_
    refine kx_if_eq_n 128 d_M_couple_88 (by decide) (by decide) (fun _ => ?_) (fun h => absurd rfl h)
    refine kx_iconst (nI 0) d_M_couple_128 (by decide) ?_
    refine kx_iconst (nI 1) d_M_couple_129 (by decide) ?_
    refine kx_callV (as := [.int (nI _), .int (nI _), .int (nI _)]) (rest := []) d_M_couple_130 v_M_101 rfl hM.1 rfl rfl (by decide) (by decide) (Nat.le_of_ble_eq_true rfl) (by decide) (by decide) rfl (m_M_goes hM (by decide) (by decide) (by decide)) (fun X w1 h => by cases h.1) (fun v w hq9 => ?_)
    obtain ⟨hv, hM, hO9⟩ := hq9
    cases hv
    have hO := hO.tr hO9 (fun _ h => h) (fun _ h => h)
    refine kx_stk (st1 := [.int (nI 0)]) rfl ?_
    refine kx_if_ne_n 138 d_M_couple_133 (by decide) (by decide) (fun h => absurd rfl h) (fun _ => ?_)
    refine kx_iconst (nI 0) d_M_couple_136 (by decide) ?_
    refine kx_iret d_M_couple_137 rfl (by decide) (by decide) ?_
    exact ⟨rfl, hM, hO⟩
set_option maxRecDepth 20000 in
set_option maxHeartbeats 4000000 in
theorem m_M_couple_b {E : kx_E} {w : va_W} {ma : Nat → Nat} {F : Nat → Int32} {A : Nat → Nat → Int32} (hM : Mdl E w ma F A) {n : Nat} {X : Fx} {D : Dy} (hR : ModR n X D A) (hX : WfX n X) (hD : WfD n D) (hn : F 1 = nI n) {bi : Nat → Option Nat} (hB : BiR n X bi) {a ea b eb : Int32} {x : Nat} (ha : carI bi a = some x) (hb : carI bi b = none) : kx_S E Y_M_couple [.ref (ma 0), .int a, .int ea, .int b, .int eb] w (MX E w ma (up1 F 0 (nI 1)) A (some (.int (nI 0)))) := by
  refine kx_go (by decide) rfl rfl (Nat.le_of_ble_eq_true rfl) (kx_cc rfl (kx_cc rfl (kx_cc rfl (kx_cc rfl (kx_cc rfl kx_c0))))) (fun z => ?_)
  have hO : kx_off w w mdlN := kx_off.rf
  have h24 := hX.1
  have hx := hB.c ha
  refine kx_aload_n d_M_couple_0 rfl (by first | rfl | exact kx_rf _) ?_
  refine kx_iload_n d_M_couple_1 rfl ?_
  refine kx_callV (as := [.int a]) (rest := []) d_M_couple_2 v_M_97 rfl hM.1 rfl rfl (by decide) (by decide) (Nat.le_of_ble_eq_true rfl) (by decide) (by decide) rfl (m_M_findC hM hR hX hD hn hB ha) (fun X w1 h => by cases h.1) (fun v w1 hq9 => ?_)
  obtain ⟨hv, hw9⟩ := hq9
  cases hv
  subst hw9
  refine kx_stk (st1 := [.int (nI x)]) rfl ?_
  refine kx_istore d_M_couple_5 (by decide) ?_
  refine kx_aload_n d_M_couple_7 rfl (by first | rfl | exact kx_rf _) ?_
  refine kx_iload_n d_M_couple_8 rfl ?_
  refine kx_callV (as := [.int b]) (rest := []) d_M_couple_9 v_M_97 rfl hM.1 rfl rfl (by decide) (by decide) (Nat.le_of_ble_eq_true rfl) (by decide) (by decide) rfl (m_M_findN hM hR hX hD hn hB hb) (fun X w1 h => by cases h.1) (fun v w1 hq9 => ?_)
  obtain ⟨hv, hw9⟩ := hq9
  cases hv
  subst hw9
  refine kx_stk (st1 := [.int (-1)]) rfl ?_
  refine kx_istore d_M_couple_12 (by decide) ?_
  refine kx_iload d_M_couple_14 rfl ?_
  refine kx_iconst (-1) d_M_couple_16 (by decide) ?_
  refine kx_icmp_eq 45 d_M_couple_17 (by decide) (fun h => absurd h (nI_m1 (by omega))) (fun _ => ?_)
  refine kx_iload d_M_couple_20 rfl ?_
  refine kx_iconst (-1) d_M_couple_22 (by decide) ?_
  refine kx_icmp_eq 45 d_M_couple_23 (by decide) (fun _ => ?_) (fun h => absurd rfl h)
  refine kx_iconst (nI 0) d_M_couple_45 (by decide) ?_
  refine kx_istore d_M_couple_46 (by decide) ?_
  refine kx_iload d_M_couple_48 rfl ?_
  refine kx_if_eq_n 62 d_M_couple_50 (by decide) (by decide) (fun _ => ?_) (fun h => absurd rfl h)
  refine kx_iconst (nI 0) d_M_couple_62 (by decide) ?_
  refine kx_istore d_M_couple_63 (by decide) ?_
  refine kx_iload d_M_couple_65 rfl ?_
  refine kx_if_eq_n 80 d_M_couple_67 (by decide) (by decide) (fun _ => ?_) (fun h => absurd rfl h)
  refine kx_iconst (nI 0) d_M_couple_80 (by decide) ?_
  refine kx_istore d_M_couple_81 (by decide) ?_
  refine kx_aload_n d_M_couple_83 rfl (by first | rfl | exact kx_rf _) ?_
  refine kx_iload d_M_couple_84 rfl ?_
  refine kx_iload d_M_couple_86 rfl ?_
  refine kx_if_eq_n 128 d_M_couple_88 (by decide) (by decide) (fun _ => ?_) (fun h => absurd rfl h)
  refine kx_iconst (nI 0) d_M_couple_128 (by decide) ?_
  refine kx_iconst (nI 1) d_M_couple_129 (by decide) ?_
  refine kx_callV (as := [.int (nI _), .int (nI _), .int (nI _)]) (rest := []) d_M_couple_130 v_M_101 rfl hM.1 rfl rfl (by decide) (by decide) (Nat.le_of_ble_eq_true rfl) (by decide) (by decide) rfl (m_M_goes hM (by decide) (by decide) (by decide)) (fun X w1 h => by cases h.1) (fun v w hq9 => ?_)
  obtain ⟨hv, hM, hO9⟩ := hq9
  cases hv
  have hO := hO.tr hO9 (fun _ h => h) (fun _ h => h)
  refine kx_stk (st1 := [.int (nI 0)]) rfl ?_
  refine kx_if_ne_n 138 d_M_couple_133 (by decide) (by decide) (fun h => absurd rfl h) (fun _ => ?_)
  refine kx_iconst (nI 0) d_M_couple_136 (by decide) ?_
  refine kx_iret d_M_couple_137 rfl (by decide) (by decide) ?_
  exact ⟨rfl, hM, hO⟩
set_option maxRecDepth 20000 in
set_option maxHeartbeats 4000000 in
theorem m_M_couple_ea {E : kx_E} {w : va_W} {ma : Nat → Nat} {F : Nat → Int32} {A : Nat → Nat → Int32} (hM : Mdl E w ma F A) {n : Nat} {X : Fx} {D : Dy} (hR : ModR n X D A) (hX : WfX n X) (hD : WfD n D) (hn : F 1 = nI n) {bi : Nat → Option Nat} (hB : BiR n X bi) {a ea b eb : Int32} {x y : Nat} (ha : carI bi a = some x) (hb : carI bi b = some y) (he : isE ea = 0) : kx_S E Y_M_couple [.ref (ma 0), .int a, .int ea, .int b, .int eb] w (MX E w ma (up1 F 0 (nI 1)) A (some (.int (nI 0)))) := by
  refine kx_go (by decide) rfl rfl (Nat.le_of_ble_eq_true rfl) (kx_cc rfl (kx_cc rfl (kx_cc rfl (kx_cc rfl (kx_cc rfl kx_c0))))) (fun z => ?_)
  have hO : kx_off w w mdlN := kx_off.rf
  have h24 := hX.1
  have hx := hB.c ha
  have hy := hB.c hb
  refine kx_aload_n d_M_couple_0 rfl (by first | rfl | exact kx_rf _) ?_
  refine kx_iload_n d_M_couple_1 rfl ?_
  refine kx_callV (as := [.int a]) (rest := []) d_M_couple_2 v_M_97 rfl hM.1 rfl rfl (by decide) (by decide) (Nat.le_of_ble_eq_true rfl) (by decide) (by decide) rfl (m_M_findC hM hR hX hD hn hB ha) (fun X w1 h => by cases h.1) (fun v w1 hq9 => ?_)
  obtain ⟨hv, hw9⟩ := hq9
  cases hv
  subst hw9
  refine kx_stk (st1 := [.int (nI x)]) rfl ?_
  refine kx_istore d_M_couple_5 (by decide) ?_
  refine kx_aload_n d_M_couple_7 rfl (by first | rfl | exact kx_rf _) ?_
  refine kx_iload_n d_M_couple_8 rfl ?_
  refine kx_callV (as := [.int b]) (rest := []) d_M_couple_9 v_M_97 rfl hM.1 rfl rfl (by decide) (by decide) (Nat.le_of_ble_eq_true rfl) (by decide) (by decide) rfl (m_M_findC hM hR hX hD hn hB hb) (fun X w1 h => by cases h.1) (fun v w1 hq9 => ?_)
  obtain ⟨hv, hw9⟩ := hq9
  cases hv
  subst hw9
  refine kx_stk (st1 := [.int (nI y)]) rfl ?_
  refine kx_istore d_M_couple_12 (by decide) ?_
  refine kx_iload d_M_couple_14 rfl ?_
  refine kx_iconst (-1) d_M_couple_16 (by decide) ?_
  refine kx_icmp_eq 45 d_M_couple_17 (by decide) (fun h => absurd h (nI_m1 (by omega))) (fun _ => ?_)
  refine kx_iload d_M_couple_20 rfl ?_
  refine kx_iconst (-1) d_M_couple_22 (by decide) ?_
  refine kx_icmp_eq 45 d_M_couple_23 (by decide) (fun h => absurd h (nI_m1 (by omega))) (fun _ => ?_)
  refine kx_iload_n d_M_couple_26 rfl ?_
  refine kx_callS (as := [.int ea]) (rest := []) d_M_couple_27 s_M_115 rfl (by decide) (by decide) (Nat.le_of_ble_eq_true rfl) (by decide) (by decide) rfl (m_M_isEnd ea) (fun X w1 h => by cases h.1) (fun v w1 hq9 => ?_)
  obtain ⟨hv, hw9⟩ := hq9
  cases hv
  subst hw9
  rw [he]
  refine kx_stk (st1 := [.int (nI 0)]) rfl ?_
  refine kx_if_eq_n 45 d_M_couple_30 (by decide) (by decide) (fun _ => ?_) (fun h => absurd rfl h)
  refine kx_iconst (nI 0) d_M_couple_45 (by decide) ?_
  refine kx_istore d_M_couple_46 (by decide) ?_
  refine kx_iload d_M_couple_48 rfl ?_
  refine kx_if_eq_n 62 d_M_couple_50 (by decide) (by decide) (fun _ => ?_) (fun h => absurd rfl h)
  refine kx_iconst (nI 0) d_M_couple_62 (by decide) ?_
  refine kx_istore d_M_couple_63 (by decide) ?_
  refine kx_iload d_M_couple_65 rfl ?_
  refine kx_if_eq_n 80 d_M_couple_67 (by decide) (by decide) (fun _ => ?_) (fun h => absurd rfl h)
  refine kx_iconst (nI 0) d_M_couple_80 (by decide) ?_
  refine kx_istore d_M_couple_81 (by decide) ?_
  refine kx_aload_n d_M_couple_83 rfl (by first | rfl | exact kx_rf _) ?_
  refine kx_iload d_M_couple_84 rfl ?_
  refine kx_iload d_M_couple_86 rfl ?_
  refine kx_if_eq_n 128 d_M_couple_88 (by decide) (by decide) (fun _ => ?_) (fun h => absurd rfl h)
  refine kx_iconst (nI 0) d_M_couple_128 (by decide) ?_
  refine kx_iconst (nI 1) d_M_couple_129 (by decide) ?_
  refine kx_callV (as := [.int (nI _), .int (nI _), .int (nI _)]) (rest := []) d_M_couple_130 v_M_101 rfl hM.1 rfl rfl (by decide) (by decide) (Nat.le_of_ble_eq_true rfl) (by decide) (by decide) rfl (m_M_goes hM (by decide) (by decide) (by decide)) (fun X w1 h => by cases h.1) (fun v w hq9 => ?_)
  obtain ⟨hv, hM, hO9⟩ := hq9
  cases hv
  have hO := hO.tr hO9 (fun _ h => h) (fun _ h => h)
  refine kx_stk (st1 := [.int (nI 0)]) rfl ?_
  refine kx_if_ne_n 138 d_M_couple_133 (by decide) (by decide) (fun h => absurd rfl h) (fun _ => ?_)
  refine kx_iconst (nI 0) d_M_couple_136 (by decide) ?_
  refine kx_iret d_M_couple_137 rfl (by decide) (by decide) ?_
  exact ⟨rfl, hM, hO⟩
set_option maxRecDepth 20000 in
set_option maxHeartbeats 4000000 in
theorem m_M_couple_eb {E : kx_E} {w : va_W} {ma : Nat → Nat} {F : Nat → Int32} {A : Nat → Nat → Int32} (hM : Mdl E w ma F A) {n : Nat} {X : Fx} {D : Dy} (hR : ModR n X D A) (hX : WfX n X) (hD : WfD n D) (hn : F 1 = nI n) {bi : Nat → Option Nat} (hB : BiR n X bi) {a ea b eb : Int32} {x y : Nat} (ha : carI bi a = some x) (hb : carI bi b = some y) (hf : isE ea = 1) (he : isE eb = 0) : kx_S E Y_M_couple [.ref (ma 0), .int a, .int ea, .int b, .int eb] w (MX E w ma (up1 F 0 (nI 1)) A (some (.int (nI 0)))) := by
  refine kx_go (by decide) rfl rfl (Nat.le_of_ble_eq_true rfl) (kx_cc rfl (kx_cc rfl (kx_cc rfl (kx_cc rfl (kx_cc rfl kx_c0))))) (fun z => ?_)
  have hO : kx_off w w mdlN := kx_off.rf
  have h24 := hX.1
  have hx := hB.c ha
  have hy := hB.c hb
  refine kx_aload_n d_M_couple_0 rfl (by first | rfl | exact kx_rf _) ?_
  refine kx_iload_n d_M_couple_1 rfl ?_
  refine kx_callV (as := [.int a]) (rest := []) d_M_couple_2 v_M_97 rfl hM.1 rfl rfl (by decide) (by decide) (Nat.le_of_ble_eq_true rfl) (by decide) (by decide) rfl (m_M_findC hM hR hX hD hn hB ha) (fun X w1 h => by cases h.1) (fun v w1 hq9 => ?_)
  obtain ⟨hv, hw9⟩ := hq9
  cases hv
  subst hw9
  refine kx_stk (st1 := [.int (nI x)]) rfl ?_
  refine kx_istore d_M_couple_5 (by decide) ?_
  refine kx_aload_n d_M_couple_7 rfl (by first | rfl | exact kx_rf _) ?_
  refine kx_iload_n d_M_couple_8 rfl ?_
  refine kx_callV (as := [.int b]) (rest := []) d_M_couple_9 v_M_97 rfl hM.1 rfl rfl (by decide) (by decide) (Nat.le_of_ble_eq_true rfl) (by decide) (by decide) rfl (m_M_findC hM hR hX hD hn hB hb) (fun X w1 h => by cases h.1) (fun v w1 hq9 => ?_)
  obtain ⟨hv, hw9⟩ := hq9
  cases hv
  subst hw9
  refine kx_stk (st1 := [.int (nI y)]) rfl ?_
  refine kx_istore d_M_couple_12 (by decide) ?_
  refine kx_iload d_M_couple_14 rfl ?_
  refine kx_iconst (-1) d_M_couple_16 (by decide) ?_
  refine kx_icmp_eq 45 d_M_couple_17 (by decide) (fun h => absurd h (nI_m1 (by omega))) (fun _ => ?_)
  refine kx_iload d_M_couple_20 rfl ?_
  refine kx_iconst (-1) d_M_couple_22 (by decide) ?_
  refine kx_icmp_eq 45 d_M_couple_23 (by decide) (fun h => absurd h (nI_m1 (by omega))) (fun _ => ?_)
  refine kx_iload_n d_M_couple_26 rfl ?_
  refine kx_callS (as := [.int ea]) (rest := []) d_M_couple_27 s_M_115 rfl (by decide) (by decide) (Nat.le_of_ble_eq_true rfl) (by decide) (by decide) rfl (m_M_isEnd ea) (fun X w1 h => by cases h.1) (fun v w1 hq9 => ?_)
  obtain ⟨hv, hw9⟩ := hq9
  cases hv
  subst hw9
  rw [hf]
  refine kx_stk (st1 := [.int (nI 1)]) rfl ?_
  refine kx_if_eq_n 45 d_M_couple_30 (by decide) (by decide) (fun h => absurd h (by decide)) (fun _ => ?_)
  refine kx_iload d_M_couple_33 rfl ?_
  refine kx_callS (as := [.int eb]) (rest := []) d_M_couple_35 s_M_115 rfl (by decide) (by decide) (Nat.le_of_ble_eq_true rfl) (by decide) (by decide) rfl (m_M_isEnd eb) (fun X w1 h => by cases h.1) (fun v w1 hq9 => ?_)
  obtain ⟨hv, hw9⟩ := hq9
  cases hv
  subst hw9
  rw [he]
  refine kx_stk (st1 := [.int (nI 0)]) rfl ?_
  refine kx_if_eq_n 45 d_M_couple_38 (by decide) (by decide) (fun _ => ?_) (fun h => absurd rfl h)
  refine kx_iconst (nI 0) d_M_couple_45 (by decide) ?_
  refine kx_istore d_M_couple_46 (by decide) ?_
  refine kx_iload d_M_couple_48 rfl ?_
  refine kx_if_eq_n 62 d_M_couple_50 (by decide) (by decide) (fun _ => ?_) (fun h => absurd rfl h)
  refine kx_iconst (nI 0) d_M_couple_62 (by decide) ?_
  refine kx_istore d_M_couple_63 (by decide) ?_
  refine kx_iload d_M_couple_65 rfl ?_
  refine kx_if_eq_n 80 d_M_couple_67 (by decide) (by decide) (fun _ => ?_) (fun h => absurd rfl h)
  refine kx_iconst (nI 0) d_M_couple_80 (by decide) ?_
  refine kx_istore d_M_couple_81 (by decide) ?_
  refine kx_aload_n d_M_couple_83 rfl (by first | rfl | exact kx_rf _) ?_
  refine kx_iload d_M_couple_84 rfl ?_
  refine kx_iload d_M_couple_86 rfl ?_
  refine kx_if_eq_n 128 d_M_couple_88 (by decide) (by decide) (fun _ => ?_) (fun h => absurd rfl h)
  refine kx_iconst (nI 0) d_M_couple_128 (by decide) ?_
  refine kx_iconst (nI 1) d_M_couple_129 (by decide) ?_
  refine kx_callV (as := [.int (nI _), .int (nI _), .int (nI _)]) (rest := []) d_M_couple_130 v_M_101 rfl hM.1 rfl rfl (by decide) (by decide) (Nat.le_of_ble_eq_true rfl) (by decide) (by decide) rfl (m_M_goes hM (by decide) (by decide) (by decide)) (fun X w1 h => by cases h.1) (fun v w hq9 => ?_)
  obtain ⟨hv, hM, hO9⟩ := hq9
  cases hv
  have hO := hO.tr hO9 (fun _ h => h) (fun _ h => h)
  refine kx_stk (st1 := [.int (nI 0)]) rfl ?_
  refine kx_if_ne_n 138 d_M_couple_133 (by decide) (by decide) (fun h => absurd rfl h) (fun _ => ?_)
  refine kx_iconst (nI 0) d_M_couple_136 (by decide) ?_
  refine kx_iret d_M_couple_137 rfl (by decide) (by decide) ?_
  exact ⟨rfl, hM, hO⟩
set_option maxRecDepth 20000 in
set_option maxHeartbeats 4000000 in
theorem m_M_couple_cou {E : kx_E} {w : va_W} {ma : Nat → Nat} {F : Nat → Int32} {A : Nat → Nat → Int32} (hM : Mdl E w ma F A) {n : Nat} {X : Fx} {D : Dy} (hR : ModR n X D A) (hX : WfX n X) (hD : WfD n D) (hn : F 1 = nI n) {bi : Nat → Option Nat} (hB : BiR n X bi) {a b : Int32} {x y i j : Nat} (ha : carI bi a = some x) (hb : carI bi b = some y) (hi : i < 2) (hj : j < 2) (hne : ¬ (xLk X (2 * x + i) = none ∧ xLk X (2 * y + j) = none)) : kx_S E Y_M_couple [.ref (ma 0), .int a, .int (nI i), .int b, .int (nI j)] w (MX E w ma (up1 F 0 (nI 2)) A (some (.int (nI 0)))) := by
  refine kx_go (by decide) rfl rfl (Nat.le_of_ble_eq_true rfl) (kx_cc rfl (kx_cc rfl (kx_cc rfl (kx_cc rfl (kx_cc rfl kx_c0))))) (fun z => ?_)
  have hO : kx_off w w mdlN := kx_off.rf
  have h24 := hX.1
  have hx := hB.c ha
  have hy := hB.c hb
  have hlp := hR.lks (2 * x + i) (by omega)
  have hlq := hR.lks (2 * y + j) (by omega)
  have e1 : A 2 (2 * x + i) = -1 → xLk X (2 * x + i) = none := fun h => (oI_n (fun q hq => by have := hX.lk (show 2 * x + i < 2 * n by omega) hq; omega)).mp (hlp ▸ h)
  have e2 : A 2 (2 * y + j) = -1 → xLk X (2 * y + j) = none := fun h => (oI_n (fun q hq => by have := hX.lk (show 2 * y + j < 2 * n by omega) hq; omega)).mp (hlq ▸ h)
  refine kx_aload_n d_M_couple_0 rfl (by first | rfl | exact kx_rf _) ?_
  refine kx_iload_n d_M_couple_1 rfl ?_
  refine kx_callV (as := [.int a]) (rest := []) d_M_couple_2 v_M_97 rfl hM.1 rfl rfl (by decide) (by decide) (Nat.le_of_ble_eq_true rfl) (by decide) (by decide) rfl (m_M_findC hM hR hX hD hn hB ha) (fun X w1 h => by cases h.1) (fun v w1 hq9 => ?_)
  obtain ⟨hv, hw9⟩ := hq9
  cases hv
  subst hw9
  refine kx_stk (st1 := [.int (nI x)]) rfl ?_
  refine kx_istore d_M_couple_5 (by decide) ?_
  refine kx_aload_n d_M_couple_7 rfl (by first | rfl | exact kx_rf _) ?_
  refine kx_iload_n d_M_couple_8 rfl ?_
  refine kx_callV (as := [.int b]) (rest := []) d_M_couple_9 v_M_97 rfl hM.1 rfl rfl (by decide) (by decide) (Nat.le_of_ble_eq_true rfl) (by decide) (by decide) rfl (m_M_findC hM hR hX hD hn hB hb) (fun X w1 h => by cases h.1) (fun v w1 hq9 => ?_)
  obtain ⟨hv, hw9⟩ := hq9
  cases hv
  subst hw9
  refine kx_stk (st1 := [.int (nI y)]) rfl ?_
  refine kx_istore d_M_couple_12 (by decide) ?_
  refine kx_iload d_M_couple_14 rfl ?_
  refine kx_iconst (-1) d_M_couple_16 (by decide) ?_
  refine kx_icmp_eq 45 d_M_couple_17 (by decide) (fun h => absurd h (nI_m1 (by omega))) (fun _ => ?_)
  refine kx_iload d_M_couple_20 rfl ?_
  refine kx_iconst (-1) d_M_couple_22 (by decide) ?_
  refine kx_icmp_eq 45 d_M_couple_23 (by decide) (fun h => absurd h (nI_m1 (by omega))) (fun _ => ?_)
  refine kx_iload_n d_M_couple_26 rfl ?_
  refine kx_callS (as := [.int (nI i)]) (rest := []) d_M_couple_27 s_M_115 rfl (by decide) (by decide) (Nat.le_of_ble_eq_true rfl) (by decide) (by decide) rfl (m_M_isEnd (nI i)) (fun X w1 h => by cases h.1) (fun v w1 hq9 => ?_)
  obtain ⟨hv, hw9⟩ := hq9
  cases hv
  subst hw9
  rw [isE_i hi]
  refine kx_stk (st1 := [.int (nI 1)]) rfl ?_
  refine kx_if_eq_n 45 d_M_couple_30 (by decide) (by decide) (fun h => absurd h (by decide)) (fun _ => ?_)
  refine kx_iload d_M_couple_33 rfl ?_
  refine kx_callS (as := [.int (nI j)]) (rest := []) d_M_couple_35 s_M_115 rfl (by decide) (by decide) (Nat.le_of_ble_eq_true rfl) (by decide) (by decide) rfl (m_M_isEnd (nI j)) (fun X w1 h => by cases h.1) (fun v w1 hq9 => ?_)
  obtain ⟨hv, hw9⟩ := hq9
  cases hv
  subst hw9
  rw [isE_i hj]
  refine kx_stk (st1 := [.int (nI 1)]) rfl ?_
  refine kx_if_eq_n 45 d_M_couple_38 (by decide) (by decide) (fun h => absurd h (by decide)) (fun _ => ?_)
  refine kx_iconst (nI 1) d_M_couple_41 (by decide) ?_
  refine kx_goto 46 d_M_couple_42 (by decide) ?_
  refine kx_istore d_M_couple_46 (by decide) ?_
  refine kx_iload d_M_couple_48 rfl ?_
  refine kx_if_eq_n 62 d_M_couple_50 (by decide) (by decide) (fun h => absurd h (by decide)) (fun _ => ?_)
  refine kx_iconst (nI 2) d_M_couple_53 (by decide) ?_
  refine kx_iload d_M_couple_54 rfl ?_
  first | refine kx_imul _ d_M_couple_56 (pk_mul _ _) ?_ | refine kx_imul _ d_M_couple_56 rfl ?_
  refine kx_iload_n d_M_couple_57 rfl ?_
  first | refine kx_iadd _ d_M_couple_58 (nI_add _ _) ?_ | refine kx_iadd _ d_M_couple_58 rfl ?_
  refine kx_goto 63 d_M_couple_59 (by decide) ?_
  refine kx_istore d_M_couple_63 (by decide) ?_
  refine kx_iload d_M_couple_65 rfl ?_
  refine kx_if_eq_n 80 d_M_couple_67 (by decide) (by decide) (fun h => absurd h (by decide)) (fun _ => ?_)
  refine kx_iconst (nI 2) d_M_couple_70 (by decide) ?_
  refine kx_iload d_M_couple_71 rfl ?_
  first | refine kx_imul _ d_M_couple_73 (pk_mul _ _) ?_ | refine kx_imul _ d_M_couple_73 rfl ?_
  refine kx_iload d_M_couple_74 rfl ?_
  first | refine kx_iadd _ d_M_couple_76 (nI_add _ _) ?_ | refine kx_iadd _ d_M_couple_76 rfl ?_
  refine kx_goto 81 d_M_couple_77 (by decide) ?_
  refine kx_istore d_M_couple_81 (by decide) ?_
  refine kx_aload_n d_M_couple_83 rfl (by first | rfl | exact kx_rf _) ?_
  refine kx_iload d_M_couple_84 rfl ?_
  refine kx_iload d_M_couple_86 rfl ?_
  refine kx_if_eq_n 128 d_M_couple_88 (by decide) (by decide) (fun h => absurd h (by decide)) (fun _ => ?_)
  refine kx_aload_n d_M_couple_91 rfl (by first | rfl | exact kx_rf _) ?_
  refine kx_get _ d_M_couple_92 f_M_16 hM.1 (by rfl) ?_
  refine kx_iload d_M_couple_95 rfl ?_
  refine kx_iald d_M_couple_97 hM.a2 (by omega) (by decide) ?_
  refine kx_iconst (-1) d_M_couple_98 (by decide) ?_
  refine kx_icmp_ne 128 d_M_couple_99 (by decide) ?_ ?_
  · intro h99
    refine kx_iconst (nI 0) d_M_couple_128 (by decide) ?_
    refine kx_iconst (nI 1) d_M_couple_129 (by decide) ?_
    refine kx_callV (as := [.int (nI _), .int (nI _), .int (nI _)]) (rest := []) d_M_couple_130 v_M_101 rfl hM.1 rfl rfl (by decide) (by decide) (Nat.le_of_ble_eq_true rfl) (by decide) (by decide) rfl (m_M_goes hM (by decide) (by decide) (by decide)) (fun X w1 h => by cases h.1) (fun v w hq9 => ?_)
    obtain ⟨hv, hM, hO9⟩ := hq9
    cases hv
    have hO := hO.tr hO9 (fun _ h => h) (fun _ h => h)
    refine kx_stk (st1 := [.int (nI 0)]) rfl ?_
    refine kx_if_ne_n 138 d_M_couple_133 (by decide) (by decide) (fun h => absurd rfl h) (fun _ => ?_)
    refine kx_iconst (nI 0) d_M_couple_136 (by decide) ?_
    refine kx_iret d_M_couple_137 rfl (by decide) (by decide) ?_
    exact ⟨rfl, hM, hO⟩
  · intro h99
    refine kx_aload_n d_M_couple_102 rfl (by first | rfl | exact kx_rf _) ?_
    refine kx_get _ d_M_couple_103 f_M_16 hM.1 (by rfl) ?_
    refine kx_iload d_M_couple_106 rfl ?_
    refine kx_iald d_M_couple_108 hM.a2 (by omega) (by decide) ?_
    refine kx_iconst (-1) d_M_couple_109 (by decide) ?_
    refine kx_icmp_ne 128 d_M_couple_110 (by decide) ?_ ?_
    · intro h110
      refine kx_iconst (nI 0) d_M_couple_128 (by decide) ?_
      refine kx_iconst (nI 1) d_M_couple_129 (by decide) ?_
      refine kx_callV (as := [.int (nI _), .int (nI _), .int (nI _)]) (rest := []) d_M_couple_130 v_M_101 rfl hM.1 rfl rfl (by decide) (by decide) (Nat.le_of_ble_eq_true rfl) (by decide) (by decide) rfl (m_M_goes hM (by decide) (by decide) (by decide)) (fun X w1 h => by cases h.1) (fun v w hq9 => ?_)
      obtain ⟨hv, hM, hO9⟩ := hq9
      cases hv
      have hO := hO.tr hO9 (fun _ h => h) (fun _ h => h)
      refine kx_stk (st1 := [.int (nI 0)]) rfl ?_
      refine kx_if_ne_n 138 d_M_couple_133 (by decide) (by decide) (fun h => absurd rfl h) (fun _ => ?_)
      refine kx_iconst (nI 0) d_M_couple_136 (by decide) ?_
      refine kx_iret d_M_couple_137 rfl (by decide) (by decide) ?_
      exact ⟨rfl, hM, hO⟩
    · intro h110
      exact absurd ⟨e1 h99, e2 h110⟩ hne
set_option maxRecDepth 20000 in
set_option maxHeartbeats 4000000 in
theorem m_M_couple_run {E : kx_E} {w : va_W} {ma : Nat → Nat} {F : Nat → Int32} {A : Nat → Nat → Int32} (hM : Mdl E w ma F A) {n : Nat} {X : Fx} {D : Dy} (hR : ModR n X D A) (hX : WfX n X) (hD : WfD n D) (hn : F 1 = nI n) {bi : Nat → Option Nat} (hB : BiR n X bi) {a b : Int32} {x y i j : Nat} (ha : carI bi a = some x) (hb : carI bi b = some y) (hi : i < 2) (hj : j < 2) (hp0 : xLk X (2 * x + i) = none) (hq0 : xLk X (2 * y + j) = none) (hY : Acy n X) (hT : ¬ rowNo y (trR X x) 0 = 0) : kx_S E Y_M_couple [.ref (ma 0), .int a, .int (nI i), .int b, .int (nI j)] w (MP E w ma (up1 F 0 (nI 2)) (fun A1 => lnO A A1) (some (.int (nI 0)))) := by
  refine kx_go (by decide) rfl rfl (Nat.le_of_ble_eq_true rfl) (kx_cc rfl (kx_cc rfl (kx_cc rfl (kx_cc rfl (kx_cc rfl kx_c0))))) (fun z => ?_)
  have hO : kx_off w w mdlN := kx_off.rf
  have h24 := hX.1
  have hx := hB.c ha
  have hy := hB.c hb
  have hlp := hR.lks (2 * x + i) (by omega)
  have hlq := hR.lks (2 * y + j) (by omega)
  refine kx_aload_n d_M_couple_0 rfl (by first | rfl | exact kx_rf _) ?_
  refine kx_iload_n d_M_couple_1 rfl ?_
  refine kx_callV (as := [.int a]) (rest := []) d_M_couple_2 v_M_97 rfl hM.1 rfl rfl (by decide) (by decide) (Nat.le_of_ble_eq_true rfl) (by decide) (by decide) rfl (m_M_findC hM hR hX hD hn hB ha) (fun X w1 h => by cases h.1) (fun v w1 hq9 => ?_)
  obtain ⟨hv, hw9⟩ := hq9
  cases hv
  subst hw9
  refine kx_stk (st1 := [.int (nI x)]) rfl ?_
  refine kx_istore d_M_couple_5 (by decide) ?_
  refine kx_aload_n d_M_couple_7 rfl (by first | rfl | exact kx_rf _) ?_
  refine kx_iload_n d_M_couple_8 rfl ?_
  refine kx_callV (as := [.int b]) (rest := []) d_M_couple_9 v_M_97 rfl hM.1 rfl rfl (by decide) (by decide) (Nat.le_of_ble_eq_true rfl) (by decide) (by decide) rfl (m_M_findC hM hR hX hD hn hB hb) (fun X w1 h => by cases h.1) (fun v w1 hq9 => ?_)
  obtain ⟨hv, hw9⟩ := hq9
  cases hv
  subst hw9
  refine kx_stk (st1 := [.int (nI y)]) rfl ?_
  refine kx_istore d_M_couple_12 (by decide) ?_
  refine kx_iload d_M_couple_14 rfl ?_
  refine kx_iconst (-1) d_M_couple_16 (by decide) ?_
  refine kx_icmp_eq 45 d_M_couple_17 (by decide) (fun h => absurd h (nI_m1 (by omega))) (fun _ => ?_)
  refine kx_iload d_M_couple_20 rfl ?_
  refine kx_iconst (-1) d_M_couple_22 (by decide) ?_
  refine kx_icmp_eq 45 d_M_couple_23 (by decide) (fun h => absurd h (nI_m1 (by omega))) (fun _ => ?_)
  refine kx_iload_n d_M_couple_26 rfl ?_
  refine kx_callS (as := [.int (nI i)]) (rest := []) d_M_couple_27 s_M_115 rfl (by decide) (by decide) (Nat.le_of_ble_eq_true rfl) (by decide) (by decide) rfl (m_M_isEnd (nI i)) (fun X w1 h => by cases h.1) (fun v w1 hq9 => ?_)
  obtain ⟨hv, hw9⟩ := hq9
  cases hv
  subst hw9
  rw [isE_i hi]
  refine kx_stk (st1 := [.int (nI 1)]) rfl ?_
  refine kx_if_eq_n 45 d_M_couple_30 (by decide) (by decide) (fun h => absurd h (by decide)) (fun _ => ?_)
  refine kx_iload d_M_couple_33 rfl ?_
  refine kx_callS (as := [.int (nI j)]) (rest := []) d_M_couple_35 s_M_115 rfl (by decide) (by decide) (Nat.le_of_ble_eq_true rfl) (by decide) (by decide) rfl (m_M_isEnd (nI j)) (fun X w1 h => by cases h.1) (fun v w1 hq9 => ?_)
  obtain ⟨hv, hw9⟩ := hq9
  cases hv
  subst hw9
  rw [isE_i hj]
  refine kx_stk (st1 := [.int (nI 1)]) rfl ?_
  refine kx_if_eq_n 45 d_M_couple_38 (by decide) (by decide) (fun h => absurd h (by decide)) (fun _ => ?_)
  refine kx_iconst (nI 1) d_M_couple_41 (by decide) ?_
  refine kx_goto 46 d_M_couple_42 (by decide) ?_
  refine kx_istore d_M_couple_46 (by decide) ?_
  refine kx_iload d_M_couple_48 rfl ?_
  refine kx_if_eq_n 62 d_M_couple_50 (by decide) (by decide) (fun h => absurd h (by decide)) (fun _ => ?_)
  refine kx_iconst (nI 2) d_M_couple_53 (by decide) ?_
  refine kx_iload d_M_couple_54 rfl ?_
  first | refine kx_imul _ d_M_couple_56 (pk_mul _ _) ?_ | refine kx_imul _ d_M_couple_56 rfl ?_
  refine kx_iload_n d_M_couple_57 rfl ?_
  first | refine kx_iadd _ d_M_couple_58 (nI_add _ _) ?_ | refine kx_iadd _ d_M_couple_58 rfl ?_
  refine kx_goto 63 d_M_couple_59 (by decide) ?_
  refine kx_istore d_M_couple_63 (by decide) ?_
  refine kx_iload d_M_couple_65 rfl ?_
  refine kx_if_eq_n 80 d_M_couple_67 (by decide) (by decide) (fun h => absurd h (by decide)) (fun _ => ?_)
  refine kx_iconst (nI 2) d_M_couple_70 (by decide) ?_
  refine kx_iload d_M_couple_71 rfl ?_
  first | refine kx_imul _ d_M_couple_73 (pk_mul _ _) ?_ | refine kx_imul _ d_M_couple_73 rfl ?_
  refine kx_iload d_M_couple_74 rfl ?_
  first | refine kx_iadd _ d_M_couple_76 (nI_add _ _) ?_ | refine kx_iadd _ d_M_couple_76 rfl ?_
  refine kx_goto 81 d_M_couple_77 (by decide) ?_
  refine kx_istore d_M_couple_81 (by decide) ?_
  refine kx_aload_n d_M_couple_83 rfl (by first | rfl | exact kx_rf _) ?_
  refine kx_iload d_M_couple_84 rfl ?_
  refine kx_iload d_M_couple_86 rfl ?_
  refine kx_if_eq_n 128 d_M_couple_88 (by decide) (by decide) (fun h => absurd h (by decide)) (fun _ => ?_)
  refine kx_aload_n d_M_couple_91 rfl (by first | rfl | exact kx_rf _) ?_
  refine kx_get _ d_M_couple_92 f_M_16 hM.1 (by rfl) ?_
  refine kx_iload d_M_couple_95 rfl ?_
  refine kx_iald d_M_couple_97 hM.a2 (by omega) (by decide) ?_
  rw [hlp, hp0]
  refine kx_iconst (-1) d_M_couple_98 (by decide) ?_
  refine kx_icmp_ne 128 d_M_couple_99 (by decide) (fun h => absurd rfl h) (fun _ => ?_)
  refine kx_aload_n d_M_couple_102 rfl (by first | rfl | exact kx_rf _) ?_
  refine kx_get _ d_M_couple_103 f_M_16 hM.1 (by rfl) ?_
  refine kx_iload d_M_couple_106 rfl ?_
  refine kx_iald d_M_couple_108 hM.a2 (by omega) (by decide) ?_
  rw [hlq, hq0]
  refine kx_iconst (-1) d_M_couple_109 (by decide) ?_
  refine kx_icmp_ne 128 d_M_couple_110 (by decide) (fun h => absurd rfl h) (fun _ => ?_)
  refine kx_aload_n d_M_couple_113 rfl (by first | rfl | exact kx_rf _) ?_
  refine kx_iload d_M_couple_114 rfl ?_
  refine kx_iload d_M_couple_116 rfl ?_
  refine kx_callV (as := [.int (nI x), .int (nI y)]) (rest := [.int (nI 1), .ref (ma 0)]) d_M_couple_118 v_M_119 rfl hM.1 rfl rfl (by decide) (by decide) (Nat.le_of_ble_eq_true rfl) (by decide) (by decide) rfl (m_M_together hM hR hX hD hn hY hx hy) (fun X w1 h => by cases h.1) (fun v w hq9 => ?_)
  obtain ⟨hv, A1, hM, hP9, hO9⟩ := hq9
  cases hv
  have hO := hO.tr hO9 (fun _ h => h) (fun _ h => h)
  rw [if_neg hT]
  refine kx_stk (st1 := [.int (nI 1), .int (nI 1), .ref (ma 0)]) rfl ?_
  refine kx_if_ne_n 128 d_M_couple_121 (by decide) (by decide) (fun _ => ?_) (fun h => absurd h (by decide))
  refine kx_iconst (nI 0) d_M_couple_128 (by decide) ?_
  refine kx_iconst (nI 1) d_M_couple_129 (by decide) ?_
  refine kx_callV (as := [.int (nI _), .int (nI _), .int (nI _)]) (rest := []) d_M_couple_130 v_M_101 rfl hM.1 rfl rfl (by decide) (by decide) (Nat.le_of_ble_eq_true rfl) (by decide) (by decide) rfl (m_M_goes hM (by decide) (by decide) (by decide)) (fun X w1 h => by cases h.1) (fun v w hq9 => ?_)
  obtain ⟨hv, hM, hO9⟩ := hq9
  cases hv
  have hO := hO.tr hO9 (fun _ h => h) (fun _ h => h)
  refine kx_stk (st1 := [.int (nI 0)]) rfl ?_
  refine kx_if_ne_n 138 d_M_couple_133 (by decide) (by decide) (fun h => absurd rfl h) (fun _ => ?_)
  refine kx_iconst (nI 0) d_M_couple_136 (by decide) ?_
  refine kx_iret d_M_couple_137 rfl (by decide) (by decide) ?_
  exact ⟨rfl, A1, hM, hP9, hO⟩
def couX (X : Fx) (p q r : Nat) : Fx := (xId X, xMk X, up1 (up1 (xLk X) p (some q)) q (some p), up1 (up1 (xNu X) p r) q r, up1 (xUs X) r 1)
theorem ModR.cou {n : Nat} {X : Fx} {D : Dy} {A : Nat → Nat → Int32} (hR : ModR n X D A) {p q r : Nat} {B : Nat → Nat → Int32} (f : ∀ j, j < 17 → j ≠ 2 → j ≠ 3 → j ≠ 4 → B j = A j) (h2 : B 2 = upd (upd (A 2) p (nI q)) q (nI p)) (h3 : B 3 = upd (upd (A 3) p (nI r)) q (nI r)) (h4 : B 4 = upd (A 4) r (nI 1)) : ModR n (couX X p q r) D B := by
  refine ⟨?_, ?_, ?_, ?_, ?_, ?_, ?_, ?_, ?_, ?_, ?_, ?_, ?_, ?_⟩
  · rw [f 0 (by decide) (by decide) (by decide) (by decide)]; exact hR.ids
  · rw [f 1 (by decide) (by decide) (by decide) (by decide)]; exact hR.mks
  · intro x hx
    show B 2 x = oI (up1 (up1 (xLk X) p (some q)) q (some p) x)
    rw [h2]
    by_cases e : x = q
    · subst e; rw [upd_s, up1_s]; rfl
    · rw [upd_n e, up1_n e]
      by_cases e2 : x = p
      · subst e2; rw [upd_s, up1_s]; rfl
      · rw [upd_n e2, up1_n e2]; exact hR.lks x hx
  · intro x hx s hs
    show B 3 x = nI (up1 (up1 (xNu X) p r) q r x)
    have hs : up1 (up1 (xLk X) p (some q)) q (some p) x = some s := hs
    rw [h3]
    by_cases e : x = q
    · subst e; rw [upd_s, up1_s]
    · rw [upd_n e, up1_n e]
      rw [up1_n e] at hs
      by_cases e2 : x = p
      · subst e2; rw [upd_s, up1_s]
      · rw [upd_n e2, up1_n e2]
        rw [up1_n e2] at hs
        exact hR.nus x hx s hs
  · intro k hk
    show B 4 k = nI (up1 (xUs X) r 1 k)
    rw [h4]
    by_cases e : k = r
    · subst e; rw [upd_s, up1_s]
    · rw [upd_n e, up1_n e]; exact hR.uss k hk
  · rw [f 5 (by decide) (by decide) (by decide) (by decide), f 6 (by decide) (by decide) (by decide) (by decide)]; exact hR.vws
  · rw [f 7 (by decide) (by decide) (by decide) (by decide)]; exact hR.whs
  · rw [f 8 (by decide) (by decide) (by decide) (by decide)]; exact hR.sis
  · rw [f 9 (by decide) (by decide) (by decide) (by decide), f 10 (by decide) (by decide) (by decide) (by decide)]; exact hR.dis
  · rw [f 11 (by decide) (by decide) (by decide) (by decide), f 12 (by decide) (by decide) (by decide) (by decide)]; exact hR.tos
  · rw [f 13 (by decide) (by decide) (by decide) (by decide)]; exact hR.ags
  · rw [f 14 (by decide) (by decide) (by decide) (by decide)]; exact hR.bys
  · rw [f 15 (by decide) (by decide) (by decide) (by decide)]; exact hR.crs
  · rw [f 16 (by decide) (by decide) (by decide) (by decide)]; exact hR.chs
set_option maxRecDepth 20000 in
set_option maxHeartbeats 4000000 in
theorem l_M_couple {E : kx_E} {w : va_W} {ma : Nat → Nat} {F : Nat → Int32} {A : Nat → Nat → Int32} (hM : Mdl E w ma F A) {us : Nat → Nat} (hu : ∀ k, k < 32 → A 4 k = nI (us k)) {p q r : Nat} (hr : r < 32) (h0 : us r = 0) (h1 : ∀ k, k < r → us k = 1) {z : kx_Z} {Q : kx_O → va_W → Prop} (hQ : kx_R E Y_M_couple z 157 [(0, .ref (ma 0)), (8, .int (nI p)), (9, .int (nI q)), (10, .int (nI r))] [] w 0 0 Q) : ∀ (m k : Nat), m + k = r → kx_R E Y_M_couple z 141 [(0, .ref (ma 0)), (8, .int (nI p)), (9, .int (nI q)), (10, .int (nI k))] [] w 0 0 Q := by
  intro m
  induction m with
  | zero =>
    intro k hk
    have hk : k = r := by omega
    subst hk
    refine kx_aload_n d_M_couple_141 rfl (by first | rfl | exact kx_rf _) ?_
    refine kx_get _ d_M_couple_142 f_M_22 hM.1 (by rfl) ?_
    refine kx_iload d_M_couple_145 rfl ?_
    refine kx_zald d_M_couple_147 hM.a4 (by omega) (by decide) ?_
    rw [hu k (by omega), h0]
    refine kx_if_eq_n 157 d_M_couple_148 (by decide) (by decide) (fun _ => ?_) (fun h => absurd rfl h)
    exact hQ
  | succ m ih =>
    intro k hk
    have h9 := h1 k (by omega)
    refine kx_aload_n d_M_couple_141 rfl (by first | rfl | exact kx_rf _) ?_
    refine kx_get _ d_M_couple_142 f_M_22 hM.1 (by rfl) ?_
    refine kx_iload d_M_couple_145 rfl ?_
    refine kx_zald d_M_couple_147 hM.a4 (by omega) (by decide) ?_
    rw [hu k (by omega), h9]
    refine kx_if_eq_n 157 d_M_couple_148 (by decide) (by decide) (fun h => absurd h (by decide)) (fun _ => ?_)
    refine kx_iinc _ d_M_couple_151 rfl (by decide) (nI_1 _) ?_
    refine kx_goto 141 d_M_couple_154 (by decide) ?_
    refine kx_loc (L1 := [(0, .ref (ma 0)), (8, .int (nI p)), (9, .int (nI q)), (10, .int (nI (k + 1)))]) ⟨rfl, rfl, rfl, rfl, trivial⟩ ?_
    exact ih (k + 1) (by omega)
set_option maxRecDepth 20000 in
set_option maxHeartbeats 4000000 in
theorem m_M_couple {E : kx_E} {w : va_W} {ma : Nat → Nat} {F : Nat → Int32} {A : Nat → Nat → Int32} (hM : Mdl E w ma F A) {n : Nat} {X : Fx} {D : Dy} (hR : ModR n X D A) (hX : WfX n X) (hD : WfD n D) (hn : F 1 = nI n) {bi : Nat → Option Nat} (hB : BiR n X bi) {a b : Int32} {x y i j : Nat} (ha : carI bi a = some x) (hb : carI bi b = some y) (hi : i < 2) (hj : j < 2) (hp0 : xLk X (2 * x + i) = none) (hq0 : xLk X (2 * y + j) = none) (hY : Acy n X) (hT : rowNo y (trR X x) 0 = 0) {r : Nat} (hr : r < 32) (h0 : xUs X r = 0) (h1 : ∀ k, k < r → xUs X k = 1) : kx_S E Y_M_couple [.ref (ma 0), .int a, .int (nI i), .int b, .int (nI j)] w (MP E w ma (up1 (up1 F 0 (nI 0)) 7 (F 7 + nI 1)) (fun A1 => ModR n (couX X (2 * x + i) (2 * y + j) r) D A1 ∧ A1 7 = A 7) (some (.int (nI r)))) := by
  refine kx_go (by decide) rfl rfl (Nat.le_of_ble_eq_true rfl) (kx_cc rfl (kx_cc rfl (kx_cc rfl (kx_cc rfl (kx_cc rfl kx_c0))))) (fun z => ?_)
  have hO : kx_off w w mdlN := kx_off.rf
  have h24 := hX.1
  have hx := hB.c ha
  have hy := hB.c hb
  have hlp := hR.lks (2 * x + i) (by omega)
  have hlq := hR.lks (2 * y + j) (by omega)
  refine kx_aload_n d_M_couple_0 rfl (by first | rfl | exact kx_rf _) ?_
  refine kx_iload_n d_M_couple_1 rfl ?_
  refine kx_callV (as := [.int a]) (rest := []) d_M_couple_2 v_M_97 rfl hM.1 rfl rfl (by decide) (by decide) (Nat.le_of_ble_eq_true rfl) (by decide) (by decide) rfl (m_M_findC hM hR hX hD hn hB ha) (fun X w1 h => by cases h.1) (fun v w1 hq9 => ?_)
  obtain ⟨hv, hw9⟩ := hq9
  cases hv
  subst hw9
  refine kx_stk (st1 := [.int (nI x)]) rfl ?_
  refine kx_istore d_M_couple_5 (by decide) ?_
  refine kx_aload_n d_M_couple_7 rfl (by first | rfl | exact kx_rf _) ?_
  refine kx_iload_n d_M_couple_8 rfl ?_
  refine kx_callV (as := [.int b]) (rest := []) d_M_couple_9 v_M_97 rfl hM.1 rfl rfl (by decide) (by decide) (Nat.le_of_ble_eq_true rfl) (by decide) (by decide) rfl (m_M_findC hM hR hX hD hn hB hb) (fun X w1 h => by cases h.1) (fun v w1 hq9 => ?_)
  obtain ⟨hv, hw9⟩ := hq9
  cases hv
  subst hw9
  refine kx_stk (st1 := [.int (nI y)]) rfl ?_
  refine kx_istore d_M_couple_12 (by decide) ?_
  refine kx_iload d_M_couple_14 rfl ?_
  refine kx_iconst (-1) d_M_couple_16 (by decide) ?_
  refine kx_icmp_eq 45 d_M_couple_17 (by decide) (fun h => absurd h (nI_m1 (by omega))) (fun _ => ?_)
  refine kx_iload d_M_couple_20 rfl ?_
  refine kx_iconst (-1) d_M_couple_22 (by decide) ?_
  refine kx_icmp_eq 45 d_M_couple_23 (by decide) (fun h => absurd h (nI_m1 (by omega))) (fun _ => ?_)
  refine kx_iload_n d_M_couple_26 rfl ?_
  refine kx_callS (as := [.int (nI i)]) (rest := []) d_M_couple_27 s_M_115 rfl (by decide) (by decide) (Nat.le_of_ble_eq_true rfl) (by decide) (by decide) rfl (m_M_isEnd (nI i)) (fun X w1 h => by cases h.1) (fun v w1 hq9 => ?_)
  obtain ⟨hv, hw9⟩ := hq9
  cases hv
  subst hw9
  rw [isE_i hi]
  refine kx_stk (st1 := [.int (nI 1)]) rfl ?_
  refine kx_if_eq_n 45 d_M_couple_30 (by decide) (by decide) (fun h => absurd h (by decide)) (fun _ => ?_)
  refine kx_iload d_M_couple_33 rfl ?_
  refine kx_callS (as := [.int (nI j)]) (rest := []) d_M_couple_35 s_M_115 rfl (by decide) (by decide) (Nat.le_of_ble_eq_true rfl) (by decide) (by decide) rfl (m_M_isEnd (nI j)) (fun X w1 h => by cases h.1) (fun v w1 hq9 => ?_)
  obtain ⟨hv, hw9⟩ := hq9
  cases hv
  subst hw9
  rw [isE_i hj]
  refine kx_stk (st1 := [.int (nI 1)]) rfl ?_
  refine kx_if_eq_n 45 d_M_couple_38 (by decide) (by decide) (fun h => absurd h (by decide)) (fun _ => ?_)
  refine kx_iconst (nI 1) d_M_couple_41 (by decide) ?_
  refine kx_goto 46 d_M_couple_42 (by decide) ?_
  refine kx_istore d_M_couple_46 (by decide) ?_
  refine kx_iload d_M_couple_48 rfl ?_
  refine kx_if_eq_n 62 d_M_couple_50 (by decide) (by decide) (fun h => absurd h (by decide)) (fun _ => ?_)
  refine kx_iconst (nI 2) d_M_couple_53 (by decide) ?_
  refine kx_iload d_M_couple_54 rfl ?_
  first | refine kx_imul _ d_M_couple_56 (pk_mul _ _) ?_ | refine kx_imul _ d_M_couple_56 rfl ?_
  refine kx_iload_n d_M_couple_57 rfl ?_
  first | refine kx_iadd _ d_M_couple_58 (nI_add _ _) ?_ | refine kx_iadd _ d_M_couple_58 rfl ?_
  refine kx_goto 63 d_M_couple_59 (by decide) ?_
  refine kx_istore d_M_couple_63 (by decide) ?_
  refine kx_iload d_M_couple_65 rfl ?_
  refine kx_if_eq_n 80 d_M_couple_67 (by decide) (by decide) (fun h => absurd h (by decide)) (fun _ => ?_)
  refine kx_iconst (nI 2) d_M_couple_70 (by decide) ?_
  refine kx_iload d_M_couple_71 rfl ?_
  first | refine kx_imul _ d_M_couple_73 (pk_mul _ _) ?_ | refine kx_imul _ d_M_couple_73 rfl ?_
  refine kx_iload d_M_couple_74 rfl ?_
  first | refine kx_iadd _ d_M_couple_76 (nI_add _ _) ?_ | refine kx_iadd _ d_M_couple_76 rfl ?_
  refine kx_goto 81 d_M_couple_77 (by decide) ?_
  refine kx_istore d_M_couple_81 (by decide) ?_
  refine kx_aload_n d_M_couple_83 rfl (by first | rfl | exact kx_rf _) ?_
  refine kx_iload d_M_couple_84 rfl ?_
  refine kx_iload d_M_couple_86 rfl ?_
  refine kx_if_eq_n 128 d_M_couple_88 (by decide) (by decide) (fun h => absurd h (by decide)) (fun _ => ?_)
  refine kx_aload_n d_M_couple_91 rfl (by first | rfl | exact kx_rf _) ?_
  refine kx_get _ d_M_couple_92 f_M_16 hM.1 (by rfl) ?_
  refine kx_iload d_M_couple_95 rfl ?_
  refine kx_iald d_M_couple_97 hM.a2 (by omega) (by decide) ?_
  rw [hlp, hp0]
  refine kx_iconst (-1) d_M_couple_98 (by decide) ?_
  refine kx_icmp_ne 128 d_M_couple_99 (by decide) (fun h => absurd rfl h) (fun _ => ?_)
  refine kx_aload_n d_M_couple_102 rfl (by first | rfl | exact kx_rf _) ?_
  refine kx_get _ d_M_couple_103 f_M_16 hM.1 (by rfl) ?_
  refine kx_iload d_M_couple_106 rfl ?_
  refine kx_iald d_M_couple_108 hM.a2 (by omega) (by decide) ?_
  rw [hlq, hq0]
  refine kx_iconst (-1) d_M_couple_109 (by decide) ?_
  refine kx_icmp_ne 128 d_M_couple_110 (by decide) (fun h => absurd rfl h) (fun _ => ?_)
  refine kx_aload_n d_M_couple_113 rfl (by first | rfl | exact kx_rf _) ?_
  refine kx_iload d_M_couple_114 rfl ?_
  refine kx_iload d_M_couple_116 rfl ?_
  refine kx_callV (as := [.int (nI x), .int (nI y)]) (rest := [.int (nI 1), .ref (ma 0)]) d_M_couple_118 v_M_119 rfl hM.1 rfl rfl (by decide) (by decide) (Nat.le_of_ble_eq_true rfl) (by decide) (by decide) rfl (m_M_together hM hR hX hD hn hY hx hy) (fun X w1 h => by cases h.1) (fun v w hq9 => ?_)
  obtain ⟨hv, A1, hM, hP9, hO9⟩ := hq9
  cases hv
  have hO := hO.tr hO9 (fun _ h => h) (fun _ h => h)
  rw [if_pos hT]
  refine kx_stk (st1 := [.int (nI 0), .int (nI 1), .ref (ma 0)]) rfl ?_
  refine kx_if_ne_n 128 d_M_couple_121 (by decide) (by decide) (fun h => absurd rfl h) (fun _ => ?_)
  refine kx_iconst (nI 1) d_M_couple_124 (by decide) ?_
  refine kx_goto 129 d_M_couple_125 (by decide) ?_
  refine kx_iconst (nI 1) d_M_couple_129 (by decide) ?_
  refine kx_callV (as := [.int (nI _), .int (nI _), .int (nI _)]) (rest := []) d_M_couple_130 v_M_101 rfl hM.1 rfl rfl (by decide) (by decide) (Nat.le_of_ble_eq_true rfl) (by decide) (by decide) rfl (m_M_goes hM (by decide) (by decide) (by decide)) (fun X w1 h => by cases h.1) (fun v w hq9 => ?_)
  obtain ⟨hv, hM, hO9⟩ := hq9
  cases hv
  have hO := hO.tr hO9 (fun _ h => h) (fun _ h => h)
  refine kx_stk (st1 := [.int (nI 1)]) rfl ?_
  refine kx_if_ne_n 138 d_M_couple_133 (by decide) (by decide) (fun _ => ?_) (fun h => absurd h (by decide))
  refine kx_iconst (nI 0) d_M_couple_138 (by decide) ?_
  refine kx_istore d_M_couple_139 (by decide) ?_
  refine kx_loc (L1 := [(0, .ref (ma 0)), (8, .int (nI (2 * x + i))), (9, .int (nI (2 * y + j))), (10, .int (nI 0))]) ⟨rfl, rfl, rfl, rfl, trivial⟩ ?_
  have hR1 := hR.ln hP9
  refine l_M_couple hM hR1.uss hr h0 h1 ?_ r 0 rfl
  refine kx_aload_n d_M_couple_157 rfl (by first | rfl | exact kx_rf _) ?_
  refine kx_get _ d_M_couple_158 f_M_22 hM.1 (by rfl) ?_
  refine kx_iload d_M_couple_161 rfl ?_
  refine kx_iconst (nI 1) d_M_couple_163 (by decide) ?_
  refine mZ_put (j := 4) d_M_couple_164 hM hO (by decide) (len := 32) rfl (by decide) (by omega) (by first | exact Or.inl rfl | exact Or.inr rfl) (fun w hM hO => ?_)
  refine kx_aload_n d_M_couple_165 rfl (by first | rfl | exact kx_rf _) ?_
  refine kx_get _ d_M_couple_166 f_M_16 hM.1 (by rfl) ?_
  refine kx_iload d_M_couple_169 rfl ?_
  refine kx_iload d_M_couple_171 rfl ?_
  refine mA_put (j := 2) d_M_couple_173 hM hO (by decide) (len := 48) rfl (by decide) (by omega) (fun w hM hO => ?_)
  refine kx_aload_n d_M_couple_174 rfl (by first | rfl | exact kx_rf _) ?_
  refine kx_get _ d_M_couple_175 f_M_16 hM.1 (by rfl) ?_
  refine kx_iload d_M_couple_178 rfl ?_
  refine kx_iload d_M_couple_180 rfl ?_
  refine mA_put (j := 2) d_M_couple_182 hM hO (by decide) (len := 48) rfl (by decide) (by omega) (fun w hM hO => ?_)
  refine kx_aload_n d_M_couple_183 rfl (by first | rfl | exact kx_rf _) ?_
  refine kx_get _ d_M_couple_184 f_M_19 hM.1 (by rfl) ?_
  refine kx_iload d_M_couple_187 rfl ?_
  refine kx_iload d_M_couple_189 rfl ?_
  refine mA_put (j := 3) d_M_couple_191 hM hO (by decide) (len := 48) rfl (by decide) (by omega) (fun w hM hO => ?_)
  refine kx_aload_n d_M_couple_192 rfl (by first | rfl | exact kx_rf _) ?_
  refine kx_get _ d_M_couple_193 f_M_19 hM.1 (by rfl) ?_
  refine kx_iload d_M_couple_196 rfl ?_
  refine kx_iload d_M_couple_198 rfl ?_
  refine mA_put (j := 3) d_M_couple_200 hM hO (by decide) (len := 48) rfl (by decide) (by omega) (fun w hM hO => ?_)
  refine kx_aload_n d_M_couple_201 rfl (by first | rfl | exact kx_rf _) ?_
  refine kx_dup d_M_couple_202 (by first | rfl | exact kx_rfc _) ?_
  refine kx_get _ d_M_couple_203 f_M_123 hM.1 (by rfl) ?_
  rw [up1_n (by decide)]
  refine kx_iconst (nI 1) d_M_couple_206 (by decide) ?_
  refine kx_iadd _ d_M_couple_207 rfl ?_
  refine mF_put7 d_M_couple_208 f_M_123 hM hO (fun w hM hO => ?_)
  refine kx_iload d_M_couple_211 rfl ?_
  refine kx_iret d_M_couple_213 rfl (by decide) (by decide) ?_
  refine ⟨rfl, _, hM, ⟨hR1.cou (fun j _ q2 q3 q4 => ?_) rfl rfl rfl, ?_⟩, hO⟩
  · rw [up1_n q3, up1_n q3, up1_n q2, up1_n q2, up1_n q4]
  · rw [up1_n (by decide), up1_n (by decide), up1_n (by decide), up1_n (by decide), up1_n (by decide), hP9 7 (by decide) (by decide)]
theorem d_M_uncouple_0 : decode c_M_uncouple 0 = .ok (.aload_n 0, 1) := by decide +kernel
theorem d_M_uncouple_1 : decode c_M_uncouple 1 = .ok (.iload_n 1, 1) := by decide +kernel
theorem d_M_uncouple_2 : decode c_M_uncouple 2 = .ok (.invokevirtual 97, 3) := by decide +kernel
theorem d_M_uncouple_5 : decode c_M_uncouple 5 = .ok (.istore_n 3, 1) := by decide +kernel
theorem d_M_uncouple_6 : decode c_M_uncouple 6 = .ok (.iload_n 3, 1) := by decide +kernel
theorem d_M_uncouple_7 : decode c_M_uncouple 7 = .ok (.iconst (-1), 1) := by decide +kernel
theorem d_M_uncouple_8 : decode c_M_uncouple 8 = .ok (.if_icmp .eq 14, 3) := by decide +kernel
theorem d_M_uncouple_11 : decode c_M_uncouple 11 = .ok (.iload_n 2, 1) := by decide +kernel
theorem d_M_uncouple_12 : decode c_M_uncouple 12 = .ok (.invokestatic 115, 3) := by decide +kernel
theorem d_M_uncouple_15 : decode c_M_uncouple 15 = .ok (.ifCond .eq 7, 3) := by decide +kernel
theorem d_M_uncouple_18 : decode c_M_uncouple 18 = .ok (.iconst 1, 1) := by decide +kernel
theorem d_M_uncouple_19 : decode c_M_uncouple 19 = .ok (.goto 4, 3) := by decide +kernel
theorem d_M_uncouple_22 : decode c_M_uncouple 22 = .ok (.iconst 0, 1) := by decide +kernel
theorem d_M_uncouple_23 : decode c_M_uncouple 23 = .ok (.istore 4, 2) := by decide +kernel
theorem d_M_uncouple_25 : decode c_M_uncouple 25 = .ok (.iload 4, 2) := by decide +kernel
theorem d_M_uncouple_27 : decode c_M_uncouple 27 = .ok (.ifCond .eq 11, 3) := by decide +kernel
theorem d_M_uncouple_30 : decode c_M_uncouple 30 = .ok (.iconst 2, 1) := by decide +kernel
theorem d_M_uncouple_31 : decode c_M_uncouple 31 = .ok (.iload_n 3, 1) := by decide +kernel
theorem d_M_uncouple_32 : decode c_M_uncouple 32 = .ok (.imul, 1) := by decide +kernel
theorem d_M_uncouple_33 : decode c_M_uncouple 33 = .ok (.iload_n 2, 1) := by decide +kernel
theorem d_M_uncouple_34 : decode c_M_uncouple 34 = .ok (.iadd, 1) := by decide +kernel
theorem d_M_uncouple_35 : decode c_M_uncouple 35 = .ok (.goto 4, 3) := by decide +kernel
theorem d_M_uncouple_38 : decode c_M_uncouple 38 = .ok (.iconst 0, 1) := by decide +kernel
theorem d_M_uncouple_39 : decode c_M_uncouple 39 = .ok (.istore 5, 2) := by decide +kernel
theorem d_M_uncouple_41 : decode c_M_uncouple 41 = .ok (.aload_n 0, 1) := by decide +kernel
theorem d_M_uncouple_42 : decode c_M_uncouple 42 = .ok (.iload 4, 2) := by decide +kernel
theorem d_M_uncouple_44 : decode c_M_uncouple 44 = .ok (.iload 4, 2) := by decide +kernel
theorem d_M_uncouple_46 : decode c_M_uncouple 46 = .ok (.ifCond .eq 18, 3) := by decide +kernel
theorem d_M_uncouple_49 : decode c_M_uncouple 49 = .ok (.aload_n 0, 1) := by decide +kernel
theorem d_M_uncouple_50 : decode c_M_uncouple 50 = .ok (.getfield 16, 3) := by decide +kernel
theorem d_M_uncouple_53 : decode c_M_uncouple 53 = .ok (.iload 5, 2) := by decide +kernel
theorem d_M_uncouple_55 : decode c_M_uncouple 55 = .ok (.iaload, 1) := by decide +kernel
theorem d_M_uncouple_56 : decode c_M_uncouple 56 = .ok (.iconst (-1), 1) := by decide +kernel
theorem d_M_uncouple_57 : decode c_M_uncouple 57 = .ok (.if_icmp .eq 7, 3) := by decide +kernel
theorem d_M_uncouple_60 : decode c_M_uncouple 60 = .ok (.iconst 1, 1) := by decide +kernel
theorem d_M_uncouple_61 : decode c_M_uncouple 61 = .ok (.goto 4, 3) := by decide +kernel
theorem d_M_uncouple_64 : decode c_M_uncouple 64 = .ok (.iconst 0, 1) := by decide +kernel
theorem d_M_uncouple_65 : decode c_M_uncouple 65 = .ok (.iconst 1, 1) := by decide +kernel
theorem d_M_uncouple_66 : decode c_M_uncouple 66 = .ok (.invokevirtual 101, 3) := by decide +kernel
theorem d_M_uncouple_69 : decode c_M_uncouple 69 = .ok (.ifCond .ne 5, 3) := by decide +kernel
theorem d_M_uncouple_72 : decode c_M_uncouple 72 = .ok (.iconst 0, 1) := by decide +kernel
theorem d_M_uncouple_73 : decode c_M_uncouple 73 = .ok (.ireturn, 1) := by decide +kernel
theorem d_M_uncouple_74 : decode c_M_uncouple 74 = .ok (.aload_n 0, 1) := by decide +kernel
theorem d_M_uncouple_75 : decode c_M_uncouple 75 = .ok (.getfield 22, 3) := by decide +kernel
theorem d_M_uncouple_78 : decode c_M_uncouple 78 = .ok (.aload_n 0, 1) := by decide +kernel
theorem d_M_uncouple_79 : decode c_M_uncouple 79 = .ok (.getfield 19, 3) := by decide +kernel
theorem d_M_uncouple_82 : decode c_M_uncouple 82 = .ok (.iload 5, 2) := by decide +kernel
theorem d_M_uncouple_84 : decode c_M_uncouple 84 = .ok (.iaload, 1) := by decide +kernel
theorem d_M_uncouple_85 : decode c_M_uncouple 85 = .ok (.iconst 0, 1) := by decide +kernel
theorem d_M_uncouple_86 : decode c_M_uncouple 86 = .ok (.bastore, 1) := by decide +kernel
theorem d_M_uncouple_87 : decode c_M_uncouple 87 = .ok (.aload_n 0, 1) := by decide +kernel
theorem d_M_uncouple_88 : decode c_M_uncouple 88 = .ok (.getfield 16, 3) := by decide +kernel
theorem d_M_uncouple_91 : decode c_M_uncouple 91 = .ok (.aload_n 0, 1) := by decide +kernel
theorem d_M_uncouple_92 : decode c_M_uncouple 92 = .ok (.getfield 16, 3) := by decide +kernel
theorem d_M_uncouple_95 : decode c_M_uncouple 95 = .ok (.iload 5, 2) := by decide +kernel
theorem d_M_uncouple_97 : decode c_M_uncouple 97 = .ok (.iaload, 1) := by decide +kernel
theorem d_M_uncouple_98 : decode c_M_uncouple 98 = .ok (.iconst (-1), 1) := by decide +kernel
theorem d_M_uncouple_99 : decode c_M_uncouple 99 = .ok (.iastore, 1) := by decide +kernel
theorem d_M_uncouple_100 : decode c_M_uncouple 100 = .ok (.aload_n 0, 1) := by decide +kernel
theorem d_M_uncouple_101 : decode c_M_uncouple 101 = .ok (.getfield 16, 3) := by decide +kernel
theorem d_M_uncouple_104 : decode c_M_uncouple 104 = .ok (.iload 5, 2) := by decide +kernel
theorem d_M_uncouple_106 : decode c_M_uncouple 106 = .ok (.iconst (-1), 1) := by decide +kernel
theorem d_M_uncouple_107 : decode c_M_uncouple 107 = .ok (.iastore, 1) := by decide +kernel
theorem d_M_uncouple_108 : decode c_M_uncouple 108 = .ok (.aload_n 0, 1) := by decide +kernel
theorem d_M_uncouple_109 : decode c_M_uncouple 109 = .ok (.dup, 1) := by decide +kernel
theorem d_M_uncouple_110 : decode c_M_uncouple 110 = .ok (.getfield 123, 3) := by decide +kernel
theorem d_M_uncouple_113 : decode c_M_uncouple 113 = .ok (.iconst 1, 1) := by decide +kernel
theorem d_M_uncouple_114 : decode c_M_uncouple 114 = .ok (.isub, 1) := by decide +kernel
theorem d_M_uncouple_115 : decode c_M_uncouple 115 = .ok (.putfield 123, 3) := by decide +kernel
theorem d_M_uncouple_118 : decode c_M_uncouple 118 = .ok (.aload_n 0, 1) := by decide +kernel
theorem d_M_uncouple_119 : decode c_M_uncouple 119 = .ok (.getfield 19, 3) := by decide +kernel
theorem d_M_uncouple_122 : decode c_M_uncouple 122 = .ok (.iload 5, 2) := by decide +kernel
theorem d_M_uncouple_124 : decode c_M_uncouple 124 = .ok (.iaload, 1) := by decide +kernel
theorem d_M_uncouple_125 : decode c_M_uncouple 125 = .ok (.ireturn, 1) := by decide +kernel
set_option maxRecDepth 20000 in
set_option maxHeartbeats 4000000 in
theorem m_M_uncouple_no {E : kx_E} {w : va_W} {ma : Nat → Nat} {F : Nat → Int32} {A : Nat → Nat → Int32} (hM : Mdl E w ma F A) {n : Nat} {X : Fx} {D : Dy} (hR : ModR n X D A) (hX : WfX n X) (hD : WfD n D) (hn : F 1 = nI n) {bi : Nat → Option Nat} (hB : BiR n X bi) {car e : Int32} (hc0 : carI bi car = none) : kx_S E Y_M_uncouple [.ref (ma 0), .int car, .int e] w (MX E w ma (up1 F 0 (nI 1)) A (some (.int (nI 0)))) := by
  refine kx_go (by decide) rfl rfl (Nat.le_of_ble_eq_true rfl) (kx_cc rfl (kx_cc rfl (kx_cc rfl kx_c0))) (fun z => ?_)
  have hO : kx_off w w mdlN := kx_off.rf
  have h24 := hX.1
  refine kx_aload_n d_M_uncouple_0 rfl (by first | rfl | exact kx_rf _) ?_
  refine kx_iload_n d_M_uncouple_1 rfl ?_
  refine kx_callV (as := [.int car]) (rest := []) d_M_uncouple_2 v_M_97 rfl hM.1 rfl rfl (by decide) (by decide) (Nat.le_of_ble_eq_true rfl) (by decide) (by decide) rfl (m_M_findN hM hR hX hD hn hB hc0) (fun X w1 h => by cases h.1) (fun v w1 hq9 => ?_)
  obtain ⟨hv, hw9⟩ := hq9
  cases hv
  subst hw9
  refine kx_stk (st1 := [.int (-1)]) rfl ?_
  refine kx_istore_n d_M_uncouple_5 (by decide) ?_
  refine kx_iload_n d_M_uncouple_6 rfl ?_
  refine kx_iconst (-1) d_M_uncouple_7 (by decide) ?_
  refine kx_icmp_eq 22 d_M_uncouple_8 (by decide) (fun _ => ?_) (fun h => absurd rfl h)
  refine kx_iconst (nI 0) d_M_uncouple_22 (by decide) ?_
  refine kx_istore d_M_uncouple_23 (by decide) ?_
  refine kx_iload d_M_uncouple_25 rfl ?_
  refine kx_if_eq_n 38 d_M_uncouple_27 (by decide) (by decide) (fun _ => ?_) (fun h => absurd rfl h)
  refine kx_iconst (nI 0) d_M_uncouple_38 (by decide) ?_
  refine kx_istore d_M_uncouple_39 (by decide) ?_
  refine kx_aload_n d_M_uncouple_41 rfl (by first | rfl | exact kx_rf _) ?_
  refine kx_iload d_M_uncouple_42 rfl ?_
  refine kx_iload d_M_uncouple_44 rfl ?_
  refine kx_if_eq_n 64 d_M_uncouple_46 (by decide) (by decide) (fun _ => ?_) (fun h => absurd rfl h)
  refine kx_iconst (nI 0) d_M_uncouple_64 (by decide) ?_
  refine kx_iconst (nI 1) d_M_uncouple_65 (by decide) ?_
  refine kx_callV (as := [.int (nI _), .int (nI _), .int (nI _)]) (rest := []) d_M_uncouple_66 v_M_101 rfl hM.1 rfl rfl (by decide) (by decide) (Nat.le_of_ble_eq_true rfl) (by decide) (by decide) rfl (m_M_goes hM (by decide) (by decide) (by decide)) (fun X w1 h => by cases h.1) (fun v w hq9 => ?_)
  obtain ⟨hv, hM, hO9⟩ := hq9
  cases hv
  have hO := hO.tr hO9 (fun _ h => h) (fun _ h => h)
  refine kx_stk (st1 := [.int (nI 0)]) rfl ?_
  refine kx_if_ne_n 74 d_M_uncouple_69 (by decide) (by decide) (fun h => absurd rfl h) (fun _ => ?_)
  refine kx_iconst (nI 0) d_M_uncouple_72 (by decide) ?_
  refine kx_iret d_M_uncouple_73 rfl (by decide) (by decide) ?_
  exact ⟨rfl, hM, hO⟩
set_option maxRecDepth 20000 in
set_option maxHeartbeats 4000000 in
theorem m_M_uncouple_ne {E : kx_E} {w : va_W} {ma : Nat → Nat} {F : Nat → Int32} {A : Nat → Nat → Int32} (hM : Mdl E w ma F A) {n : Nat} {X : Fx} {D : Dy} (hR : ModR n X D A) (hX : WfX n X) (hD : WfD n D) (hn : F 1 = nI n) {bi : Nat → Option Nat} (hB : BiR n X bi) {car e : Int32} {c : Nat} (hc0 : carI bi car = some c) (he : isE e = 0) : kx_S E Y_M_uncouple [.ref (ma 0), .int car, .int e] w (MX E w ma (up1 F 0 (nI 1)) A (some (.int (nI 0)))) := by
  refine kx_go (by decide) rfl rfl (Nat.le_of_ble_eq_true rfl) (kx_cc rfl (kx_cc rfl (kx_cc rfl kx_c0))) (fun z => ?_)
  have hO : kx_off w w mdlN := kx_off.rf
  have h24 := hX.1
  have hc := hB.c hc0
  refine kx_aload_n d_M_uncouple_0 rfl (by first | rfl | exact kx_rf _) ?_
  refine kx_iload_n d_M_uncouple_1 rfl ?_
  refine kx_callV (as := [.int car]) (rest := []) d_M_uncouple_2 v_M_97 rfl hM.1 rfl rfl (by decide) (by decide) (Nat.le_of_ble_eq_true rfl) (by decide) (by decide) rfl (m_M_findC hM hR hX hD hn hB hc0) (fun X w1 h => by cases h.1) (fun v w1 hq9 => ?_)
  obtain ⟨hv, hw9⟩ := hq9
  cases hv
  subst hw9
  refine kx_stk (st1 := [.int (nI c)]) rfl ?_
  refine kx_istore_n d_M_uncouple_5 (by decide) ?_
  refine kx_iload_n d_M_uncouple_6 rfl ?_
  refine kx_iconst (-1) d_M_uncouple_7 (by decide) ?_
  refine kx_icmp_eq 22 d_M_uncouple_8 (by decide) (fun h => absurd h (nI_m1 (by omega))) (fun _ => ?_)
  refine kx_iload_n d_M_uncouple_11 rfl ?_
  refine kx_callS (as := [.int e]) (rest := []) d_M_uncouple_12 s_M_115 rfl (by decide) (by decide) (Nat.le_of_ble_eq_true rfl) (by decide) (by decide) rfl (m_M_isEnd e) (fun X w1 h => by cases h.1) (fun v w1 hq9 => ?_)
  obtain ⟨hv, hw9⟩ := hq9
  cases hv
  subst hw9
  rw [he]
  refine kx_stk (st1 := [.int (nI 0)]) rfl ?_
  refine kx_if_eq_n 22 d_M_uncouple_15 (by decide) (by decide) (fun _ => ?_) (fun h => absurd rfl h)
  refine kx_iconst (nI 0) d_M_uncouple_22 (by decide) ?_
  refine kx_istore d_M_uncouple_23 (by decide) ?_
  refine kx_iload d_M_uncouple_25 rfl ?_
  refine kx_if_eq_n 38 d_M_uncouple_27 (by decide) (by decide) (fun _ => ?_) (fun h => absurd rfl h)
  refine kx_iconst (nI 0) d_M_uncouple_38 (by decide) ?_
  refine kx_istore d_M_uncouple_39 (by decide) ?_
  refine kx_aload_n d_M_uncouple_41 rfl (by first | rfl | exact kx_rf _) ?_
  refine kx_iload d_M_uncouple_42 rfl ?_
  refine kx_iload d_M_uncouple_44 rfl ?_
  refine kx_if_eq_n 64 d_M_uncouple_46 (by decide) (by decide) (fun _ => ?_) (fun h => absurd rfl h)
  refine kx_iconst (nI 0) d_M_uncouple_64 (by decide) ?_
  refine kx_iconst (nI 1) d_M_uncouple_65 (by decide) ?_
  refine kx_callV (as := [.int (nI _), .int (nI _), .int (nI _)]) (rest := []) d_M_uncouple_66 v_M_101 rfl hM.1 rfl rfl (by decide) (by decide) (Nat.le_of_ble_eq_true rfl) (by decide) (by decide) rfl (m_M_goes hM (by decide) (by decide) (by decide)) (fun X w1 h => by cases h.1) (fun v w hq9 => ?_)
  obtain ⟨hv, hM, hO9⟩ := hq9
  cases hv
  have hO := hO.tr hO9 (fun _ h => h) (fun _ h => h)
  refine kx_stk (st1 := [.int (nI 0)]) rfl ?_
  refine kx_if_ne_n 74 d_M_uncouple_69 (by decide) (by decide) (fun h => absurd rfl h) (fun _ => ?_)
  refine kx_iconst (nI 0) d_M_uncouple_72 (by decide) ?_
  refine kx_iret d_M_uncouple_73 rfl (by decide) (by decide) ?_
  exact ⟨rfl, hM, hO⟩
set_option maxRecDepth 20000 in
set_option maxHeartbeats 4000000 in
theorem m_M_uncouple_fre {E : kx_E} {w : va_W} {ma : Nat → Nat} {F : Nat → Int32} {A : Nat → Nat → Int32} (hM : Mdl E w ma F A) {n : Nat} {X : Fx} {D : Dy} (hR : ModR n X D A) (hX : WfX n X) (hD : WfD n D) (hn : F 1 = nI n) {bi : Nat → Option Nat} (hB : BiR n X bi) {car : Int32} {c i : Nat} (hc0 : carI bi car = some c) (hi : i < 2) (hp0 : xLk X (2 * c + i) = none) : kx_S E Y_M_uncouple [.ref (ma 0), .int car, .int (nI i)] w (MX E w ma (up1 F 0 (nI 2)) A (some (.int (nI 0)))) := by
  refine kx_go (by decide) rfl rfl (Nat.le_of_ble_eq_true rfl) (kx_cc rfl (kx_cc rfl (kx_cc rfl kx_c0))) (fun z => ?_)
  have hO : kx_off w w mdlN := kx_off.rf
  have h24 := hX.1
  have hc := hB.c hc0
  refine kx_aload_n d_M_uncouple_0 rfl (by first | rfl | exact kx_rf _) ?_
  refine kx_iload_n d_M_uncouple_1 rfl ?_
  refine kx_callV (as := [.int car]) (rest := []) d_M_uncouple_2 v_M_97 rfl hM.1 rfl rfl (by decide) (by decide) (Nat.le_of_ble_eq_true rfl) (by decide) (by decide) rfl (m_M_findC hM hR hX hD hn hB hc0) (fun X w1 h => by cases h.1) (fun v w1 hq9 => ?_)
  obtain ⟨hv, hw9⟩ := hq9
  cases hv
  subst hw9
  refine kx_stk (st1 := [.int (nI c)]) rfl ?_
  refine kx_istore_n d_M_uncouple_5 (by decide) ?_
  refine kx_iload_n d_M_uncouple_6 rfl ?_
  refine kx_iconst (-1) d_M_uncouple_7 (by decide) ?_
  refine kx_icmp_eq 22 d_M_uncouple_8 (by decide) (fun h => absurd h (nI_m1 (by omega))) (fun _ => ?_)
  refine kx_iload_n d_M_uncouple_11 rfl ?_
  refine kx_callS (as := [.int (nI i)]) (rest := []) d_M_uncouple_12 s_M_115 rfl (by decide) (by decide) (Nat.le_of_ble_eq_true rfl) (by decide) (by decide) rfl (m_M_isEnd (nI i)) (fun X w1 h => by cases h.1) (fun v w1 hq9 => ?_)
  obtain ⟨hv, hw9⟩ := hq9
  cases hv
  subst hw9
  rw [isE_i hi]
  refine kx_stk (st1 := [.int (nI 1)]) rfl ?_
  refine kx_if_eq_n 22 d_M_uncouple_15 (by decide) (by decide) (fun h => absurd h (by decide)) (fun _ => ?_)
  refine kx_iconst (nI 1) d_M_uncouple_18 (by decide) ?_
  refine kx_goto 23 d_M_uncouple_19 (by decide) ?_
  refine kx_istore d_M_uncouple_23 (by decide) ?_
  refine kx_iload d_M_uncouple_25 rfl ?_
  refine kx_if_eq_n 38 d_M_uncouple_27 (by decide) (by decide) (fun h => absurd h (by decide)) (fun _ => ?_)
  refine kx_iconst (nI 2) d_M_uncouple_30 (by decide) ?_
  refine kx_iload_n d_M_uncouple_31 rfl ?_
  first | refine kx_imul _ d_M_uncouple_32 (pk_mul _ _) ?_ | refine kx_imul _ d_M_uncouple_32 rfl ?_
  refine kx_iload_n d_M_uncouple_33 rfl ?_
  first | refine kx_iadd _ d_M_uncouple_34 (nI_add _ _) ?_ | refine kx_iadd _ d_M_uncouple_34 rfl ?_
  refine kx_goto 39 d_M_uncouple_35 (by decide) ?_
  refine kx_istore d_M_uncouple_39 (by decide) ?_
  refine kx_aload_n d_M_uncouple_41 rfl (by first | rfl | exact kx_rf _) ?_
  refine kx_iload d_M_uncouple_42 rfl ?_
  refine kx_iload d_M_uncouple_44 rfl ?_
  refine kx_if_eq_n 64 d_M_uncouple_46 (by decide) (by decide) (fun h => absurd h (by decide)) (fun _ => ?_)
  refine kx_aload_n d_M_uncouple_49 rfl (by first | rfl | exact kx_rf _) ?_
  refine kx_get _ d_M_uncouple_50 f_M_16 hM.1 (by rfl) ?_
  refine kx_iload d_M_uncouple_53 rfl ?_
  refine kx_iald d_M_uncouple_55 hM.a2 (by omega) (by decide) ?_
  rw [hR.lks _ (by omega), hp0]
  refine kx_iconst (-1) d_M_uncouple_56 (by decide) ?_
  refine kx_icmp_eq 64 d_M_uncouple_57 (by decide) (fun _ => ?_) (fun h => absurd rfl h)
  refine kx_iconst (nI 0) d_M_uncouple_64 (by decide) ?_
  refine kx_iconst (nI 1) d_M_uncouple_65 (by decide) ?_
  refine kx_callV (as := [.int (nI _), .int (nI _), .int (nI _)]) (rest := []) d_M_uncouple_66 v_M_101 rfl hM.1 rfl rfl (by decide) (by decide) (Nat.le_of_ble_eq_true rfl) (by decide) (by decide) rfl (m_M_goes hM (by decide) (by decide) (by decide)) (fun X w1 h => by cases h.1) (fun v w hq9 => ?_)
  obtain ⟨hv, hM, hO9⟩ := hq9
  cases hv
  have hO := hO.tr hO9 (fun _ h => h) (fun _ h => h)
  refine kx_stk (st1 := [.int (nI 0)]) rfl ?_
  refine kx_if_ne_n 74 d_M_uncouple_69 (by decide) (by decide) (fun h => absurd rfl h) (fun _ => ?_)
  refine kx_iconst (nI 0) d_M_uncouple_72 (by decide) ?_
  refine kx_iret d_M_uncouple_73 rfl (by decide) (by decide) ?_
  exact ⟨rfl, hM, hO⟩
def uncX (X : Fx) (p q : Nat) : Fx := (xId X, xMk X, up1 (up1 (xLk X) q none) p none, xNu X, up1 (xUs X) (xNu X p) 0)
theorem ModR.unc {n : Nat} {X : Fx} {D : Dy} {A : Nat → Nat → Int32} (hR : ModR n X D A) {p q : Nat} {B : Nat → Nat → Int32} (f : ∀ j, j < 17 → j ≠ 2 → j ≠ 4 → B j = A j) (h2 : B 2 = upd (upd (A 2) q (-1)) p (-1)) (h4 : B 4 = upd (A 4) (xNu X p) (nI 0)) : ModR n (uncX X p q) D B := by
  refine ⟨?_, ?_, ?_, ?_, ?_, ?_, ?_, ?_, ?_, ?_, ?_, ?_, ?_, ?_⟩
  · rw [f 0 (by decide) (by decide) (by decide)]; exact hR.ids
  · rw [f 1 (by decide) (by decide) (by decide)]; exact hR.mks
  · intro x hx
    show B 2 x = oI (up1 (up1 (xLk X) q none) p none x)
    rw [h2]
    by_cases e : x = p
    · subst e; rw [upd_s, up1_s]; rfl
    · rw [upd_n e, up1_n e]
      by_cases e2 : x = q
      · subst e2; rw [upd_s, up1_s]; rfl
      · rw [upd_n e2, up1_n e2]; exact hR.lks x hx
  · intro x hx s hs
    show B 3 x = nI (xNu X x)
    have hs : up1 (up1 (xLk X) q none) p none x = some s := hs
    rw [f 3 (by decide) (by decide) (by decide)]
    by_cases e : x = p
    · subst e; rw [up1_s] at hs; cases hs
    · rw [up1_n e] at hs
      by_cases e2 : x = q
      · subst e2; rw [up1_s] at hs; cases hs
      · rw [up1_n e2] at hs; exact hR.nus x hx s hs
  · intro k hk
    show B 4 k = nI (up1 (xUs X) (xNu X p) 0 k)
    rw [h4]
    by_cases e : k = xNu X p
    · subst e; rw [upd_s, up1_s]
    · rw [upd_n e, up1_n e]; exact hR.uss k hk
  · rw [f 5 (by decide) (by decide) (by decide), f 6 (by decide) (by decide) (by decide)]; exact hR.vws
  · rw [f 7 (by decide) (by decide) (by decide)]; exact hR.whs
  · rw [f 8 (by decide) (by decide) (by decide)]; exact hR.sis
  · rw [f 9 (by decide) (by decide) (by decide), f 10 (by decide) (by decide) (by decide)]; exact hR.dis
  · rw [f 11 (by decide) (by decide) (by decide), f 12 (by decide) (by decide) (by decide)]; exact hR.tos
  · rw [f 13 (by decide) (by decide) (by decide)]; exact hR.ags
  · rw [f 14 (by decide) (by decide) (by decide)]; exact hR.bys
  · rw [f 15 (by decide) (by decide) (by decide)]; exact hR.crs
  · rw [f 16 (by decide) (by decide) (by decide)]; exact hR.chs
set_option maxRecDepth 20000 in
set_option maxHeartbeats 4000000 in
theorem m_M_uncouple {E : kx_E} {w : va_W} {ma : Nat → Nat} {F : Nat → Int32} {A : Nat → Nat → Int32} (hM : Mdl E w ma F A) {n : Nat} {X : Fx} {D : Dy} (hR : ModR n X D A) (hX : WfX n X) (hD : WfD n D) (hn : F 1 = nI n) {bi : Nat → Option Nat} (hB : BiR n X bi) {car : Int32} {c i q : Nat} (hc0 : carI bi car = some c) (hi : i < 2) (hk : xLk X (2 * c + i) = some q) : kx_S E Y_M_uncouple [.ref (ma 0), .int car, .int (nI i)] w (MP E w ma (up1 (up1 F 0 (nI 0)) 7 (F 7 - nI 1)) (fun A1 => ModR n (uncX X (2 * c + i) q) D A1 ∧ A1 7 = A 7) (some (.int (nI (xNu X (2 * c + i)))))) := by
  refine kx_go (by decide) rfl rfl (Nat.le_of_ble_eq_true rfl) (kx_cc rfl (kx_cc rfl (kx_cc rfl kx_c0))) (fun z => ?_)
  have hO : kx_off w w mdlN := kx_off.rf
  have h24 := hX.1
  have hc := hB.c hc0
  have hp9 : 2 * c + i < 2 * n := by omega
  have hq9 := hX.2.2.2.2.1 (2 * c + i) q hp9 hk
  have hq1 := hq9.1
  have hq2 := hq9.2.2.2.1
  have hl : A 2 (2 * c + i) = nI q := by rw [hR.lks _ hp9, hk]; rfl
  have hu : A 3 (2 * c + i) = nI (xNu X (2 * c + i)) := hR.nus _ hp9 q hk
  refine kx_aload_n d_M_uncouple_0 rfl (by first | rfl | exact kx_rf _) ?_
  refine kx_iload_n d_M_uncouple_1 rfl ?_
  refine kx_callV (as := [.int car]) (rest := []) d_M_uncouple_2 v_M_97 rfl hM.1 rfl rfl (by decide) (by decide) (Nat.le_of_ble_eq_true rfl) (by decide) (by decide) rfl (m_M_findC hM hR hX hD hn hB hc0) (fun X w1 h => by cases h.1) (fun v w1 hq9 => ?_)
  obtain ⟨hv, hw9⟩ := hq9
  cases hv
  subst hw9
  refine kx_stk (st1 := [.int (nI c)]) rfl ?_
  refine kx_istore_n d_M_uncouple_5 (by decide) ?_
  refine kx_iload_n d_M_uncouple_6 rfl ?_
  refine kx_iconst (-1) d_M_uncouple_7 (by decide) ?_
  refine kx_icmp_eq 22 d_M_uncouple_8 (by decide) (fun h => absurd h (nI_m1 (by omega))) (fun _ => ?_)
  refine kx_iload_n d_M_uncouple_11 rfl ?_
  refine kx_callS (as := [.int (nI i)]) (rest := []) d_M_uncouple_12 s_M_115 rfl (by decide) (by decide) (Nat.le_of_ble_eq_true rfl) (by decide) (by decide) rfl (m_M_isEnd (nI i)) (fun X w1 h => by cases h.1) (fun v w1 hq9 => ?_)
  obtain ⟨hv, hw9⟩ := hq9
  cases hv
  subst hw9
  rw [isE_i hi]
  refine kx_stk (st1 := [.int (nI 1)]) rfl ?_
  refine kx_if_eq_n 22 d_M_uncouple_15 (by decide) (by decide) (fun h => absurd h (by decide)) (fun _ => ?_)
  refine kx_iconst (nI 1) d_M_uncouple_18 (by decide) ?_
  refine kx_goto 23 d_M_uncouple_19 (by decide) ?_
  refine kx_istore d_M_uncouple_23 (by decide) ?_
  refine kx_iload d_M_uncouple_25 rfl ?_
  refine kx_if_eq_n 38 d_M_uncouple_27 (by decide) (by decide) (fun h => absurd h (by decide)) (fun _ => ?_)
  refine kx_iconst (nI 2) d_M_uncouple_30 (by decide) ?_
  refine kx_iload_n d_M_uncouple_31 rfl ?_
  first | refine kx_imul _ d_M_uncouple_32 (pk_mul _ _) ?_ | refine kx_imul _ d_M_uncouple_32 rfl ?_
  refine kx_iload_n d_M_uncouple_33 rfl ?_
  first | refine kx_iadd _ d_M_uncouple_34 (nI_add _ _) ?_ | refine kx_iadd _ d_M_uncouple_34 rfl ?_
  refine kx_goto 39 d_M_uncouple_35 (by decide) ?_
  refine kx_istore d_M_uncouple_39 (by decide) ?_
  refine kx_aload_n d_M_uncouple_41 rfl (by first | rfl | exact kx_rf _) ?_
  refine kx_iload d_M_uncouple_42 rfl ?_
  refine kx_iload d_M_uncouple_44 rfl ?_
  refine kx_if_eq_n 64 d_M_uncouple_46 (by decide) (by decide) (fun h => absurd h (by decide)) (fun _ => ?_)
  refine kx_aload_n d_M_uncouple_49 rfl (by first | rfl | exact kx_rf _) ?_
  refine kx_get _ d_M_uncouple_50 f_M_16 hM.1 (by rfl) ?_
  refine kx_iload d_M_uncouple_53 rfl ?_
  refine kx_iald d_M_uncouple_55 hM.a2 (by omega) (by decide) ?_
  rw [hl]
  refine kx_iconst (-1) d_M_uncouple_56 (by decide) ?_
  refine kx_icmp_eq 64 d_M_uncouple_57 (by decide) (fun h => absurd h (nI_m1 (by omega))) (fun _ => ?_)
  refine kx_iconst (nI 1) d_M_uncouple_60 (by decide) ?_
  refine kx_goto 65 d_M_uncouple_61 (by decide) ?_
  refine kx_iconst (nI 1) d_M_uncouple_65 (by decide) ?_
  refine kx_callV (as := [.int (nI _), .int (nI _), .int (nI _)]) (rest := []) d_M_uncouple_66 v_M_101 rfl hM.1 rfl rfl (by decide) (by decide) (Nat.le_of_ble_eq_true rfl) (by decide) (by decide) rfl (m_M_goes hM (by decide) (by decide) (by decide)) (fun X w1 h => by cases h.1) (fun v w hq9 => ?_)
  obtain ⟨hv, hM, hO9⟩ := hq9
  cases hv
  have hO := hO.tr hO9 (fun _ h => h) (fun _ h => h)
  refine kx_stk (st1 := [.int (nI 1)]) rfl ?_
  refine kx_if_ne_n 74 d_M_uncouple_69 (by decide) (by decide) (fun _ => ?_) (fun h => absurd h (by decide))
  refine kx_aload_n d_M_uncouple_74 rfl (by first | rfl | exact kx_rf _) ?_
  refine kx_get _ d_M_uncouple_75 f_M_22 hM.1 (by rfl) ?_
  refine kx_aload_n d_M_uncouple_78 rfl (by first | rfl | exact kx_rf _) ?_
  refine kx_get _ d_M_uncouple_79 f_M_19 hM.1 (by rfl) ?_
  refine kx_iload d_M_uncouple_82 rfl ?_
  refine kx_iald d_M_uncouple_84 hM.a3 (by omega) (by decide) ?_
  rw [hu]
  refine kx_iconst (nI 0) d_M_uncouple_85 (by decide) ?_
  refine mZ_put (j := 4) d_M_uncouple_86 hM hO (by decide) (len := 32) rfl (by decide) (by omega) (by first | exact Or.inl rfl | exact Or.inr rfl) (fun w hM hO => ?_)
  refine kx_aload_n d_M_uncouple_87 rfl (by first | rfl | exact kx_rf _) ?_
  refine kx_get _ d_M_uncouple_88 f_M_16 hM.1 (by rfl) ?_
  refine kx_aload_n d_M_uncouple_91 rfl (by first | rfl | exact kx_rf _) ?_
  refine kx_get _ d_M_uncouple_92 f_M_16 hM.1 (by rfl) ?_
  refine kx_iload d_M_uncouple_95 rfl ?_
  refine kx_iald d_M_uncouple_97 hM.a2 (by omega) (by decide) ?_
  rw [up1_n (by decide), hl]
  refine kx_iconst (-1) d_M_uncouple_98 (by decide) ?_
  refine mA_put (j := 2) d_M_uncouple_99 hM hO (by decide) (len := 48) rfl (by decide) (by omega) (fun w hM hO => ?_)
  refine kx_aload_n d_M_uncouple_100 rfl (by first | rfl | exact kx_rf _) ?_
  refine kx_get _ d_M_uncouple_101 f_M_16 hM.1 (by rfl) ?_
  refine kx_iload d_M_uncouple_104 rfl ?_
  refine kx_iconst (-1) d_M_uncouple_106 (by decide) ?_
  refine mA_put (j := 2) d_M_uncouple_107 hM hO (by decide) (len := 48) rfl (by decide) (by omega) (fun w hM hO => ?_)
  refine kx_aload_n d_M_uncouple_108 rfl (by first | rfl | exact kx_rf _) ?_
  refine kx_dup d_M_uncouple_109 (by first | rfl | exact kx_rfc _) ?_
  refine kx_get _ d_M_uncouple_110 f_M_123 hM.1 (by rfl) ?_
  rw [up1_n (by decide)]
  refine kx_iconst (nI 1) d_M_uncouple_113 (by decide) ?_
  refine kx_isub _ d_M_uncouple_114 rfl ?_
  refine mF_put7 d_M_uncouple_115 f_M_123 hM hO (fun w hM hO => ?_)
  refine kx_aload_n d_M_uncouple_118 rfl (by first | rfl | exact kx_rf _) ?_
  refine kx_get _ d_M_uncouple_119 f_M_19 hM.1 (by rfl) ?_
  refine kx_iload d_M_uncouple_122 rfl ?_
  refine kx_iald d_M_uncouple_124 hM.a3 (by omega) (by decide) ?_
  rw [up1_n (by decide), up1_n (by decide), up1_n (by decide), hu]
  refine kx_iret d_M_uncouple_125 rfl (by decide) (by decide) ?_
  refine ⟨rfl, _, hM, ⟨hR.unc (fun j _ q2 q4 => ?_) rfl rfl, ?_⟩, hO⟩
  · rw [up1_n q2, up1_n q2, up1_n q4]
  · rw [up1_n (by decide), up1_n (by decide), up1_n (by decide)]
