/-! The reference: about, order, settled, count -/
theorem d_M_about_0 : decode c_M_about 0 = .ok (.aload_n 0, 1) := by decide +kernel
theorem d_M_about_1 : decode c_M_about 1 = .ok (.iload_n 1, 1) := by decide +kernel
theorem d_M_about_2 : decode c_M_about 2 = .ok (.invokevirtual 97, 3) := by decide +kernel
theorem d_M_about_5 : decode c_M_about 5 = .ok (.istore_n 3, 1) := by decide +kernel
theorem d_M_about_6 : decode c_M_about 6 = .ok (.aload_n 0, 1) := by decide +kernel
theorem d_M_about_7 : decode c_M_about 7 = .ok (.iload_n 3, 1) := by decide +kernel
theorem d_M_about_8 : decode c_M_about 8 = .ok (.iconst (-1), 1) := by decide +kernel
theorem d_M_about_9 : decode c_M_about 9 = .ok (.if_icmp .eq 7, 3) := by decide +kernel
theorem d_M_about_12 : decode c_M_about 12 = .ok (.iconst 1, 1) := by decide +kernel
theorem d_M_about_13 : decode c_M_about 13 = .ok (.goto 4, 3) := by decide +kernel
theorem d_M_about_16 : decode c_M_about 16 = .ok (.iconst 0, 1) := by decide +kernel
theorem d_M_about_17 : decode c_M_about 17 = .ok (.iload_n 2, 1) := by decide +kernel
theorem d_M_about_18 : decode c_M_about 18 = .ok (.ifCond .lt 13, 3) := by decide +kernel
theorem d_M_about_21 : decode c_M_about 21 = .ok (.iload_n 2, 1) := by decide +kernel
theorem d_M_about_22 : decode c_M_about 22 = .ok (.bipush 11, 2) := by decide +kernel
theorem d_M_about_24 : decode c_M_about 24 = .ok (.if_icmp .gt 7, 3) := by decide +kernel
theorem d_M_about_27 : decode c_M_about 27 = .ok (.iconst 1, 1) := by decide +kernel
theorem d_M_about_28 : decode c_M_about 28 = .ok (.goto 4, 3) := by decide +kernel
theorem d_M_about_31 : decode c_M_about 31 = .ok (.iconst 0, 1) := by decide +kernel
theorem d_M_about_32 : decode c_M_about 32 = .ok (.iconst 1, 1) := by decide +kernel
theorem d_M_about_33 : decode c_M_about 33 = .ok (.invokevirtual 101, 3) := by decide +kernel
theorem d_M_about_36 : decode c_M_about 36 = .ok (.ifCond .ne 5, 3) := by decide +kernel
theorem d_M_about_39 : decode c_M_about 39 = .ok (.iconst 0, 1) := by decide +kernel
theorem d_M_about_40 : decode c_M_about 40 = .ok (.ireturn, 1) := by decide +kernel
theorem d_M_about_41 : decode c_M_about 41 = .ok (.aload_n 0, 1) := by decide +kernel
theorem d_M_about_42 : decode c_M_about 42 = .ok (.iload_n 3, 1) := by decide +kernel
theorem d_M_about_43 : decode c_M_about 43 = .ok (.iload_n 3, 1) := by decide +kernel
theorem d_M_about_44 : decode c_M_about 44 = .ok (.invokevirtual 135, 3) := by decide +kernel
theorem d_M_about_47 : decode c_M_about 47 = .ok (.istore 4, 2) := by decide +kernel
theorem d_M_about_49 : decode c_M_about 49 = .ok (.iload_n 2, 1) := by decide +kernel
theorem d_M_about_50 : decode c_M_about 50 = .ok (.tableswitch 151 0 9 #[54, 60, 65, 90, 97, 104, 111, 120, 131, 140], 54) := by decide +kernel
theorem d_M_about_104 : decode c_M_about 104 = .ok (.aload_n 0, 1) := by decide +kernel
theorem d_M_about_105 : decode c_M_about 105 = .ok (.iload_n 3, 1) := by decide +kernel
theorem d_M_about_106 : decode c_M_about 106 = .ok (.invokevirtual 161, 3) := by decide +kernel
theorem d_M_about_109 : decode c_M_about 109 = .ok (.ireturn, 1) := by decide +kernel
theorem d_M_about_110 : decode c_M_about 110 = .ok (.iload 4, 2) := by decide +kernel
theorem d_M_about_112 : decode c_M_about 112 = .ok (.iconst 1, 1) := by decide +kernel
theorem d_M_about_113 : decode c_M_about 113 = .ok (.iadd, 1) := by decide +kernel
theorem d_M_about_114 : decode c_M_about 114 = .ok (.ireturn, 1) := by decide +kernel
theorem d_M_about_115 : decode c_M_about 115 = .ok (.iload 4, 2) := by decide +kernel
theorem d_M_about_117 : decode c_M_about 117 = .ok (.iconst (-1), 1) := by decide +kernel
theorem d_M_about_118 : decode c_M_about 118 = .ok (.if_icmp .ne 7, 3) := by decide +kernel
theorem d_M_about_121 : decode c_M_about 121 = .ok (.iconst 0, 1) := by decide +kernel
theorem d_M_about_122 : decode c_M_about 122 = .ok (.goto 17, 3) := by decide +kernel
theorem d_M_about_125 : decode c_M_about 125 = .ok (.aload_n 0, 1) := by decide +kernel
theorem d_M_about_126 : decode c_M_about 126 = .ok (.getfield 38, 3) := by decide +kernel
theorem d_M_about_129 : decode c_M_about 129 = .ok (.bipush 24, 2) := by decide +kernel
theorem d_M_about_131 : decode c_M_about 131 = .ok (.iload_n 3, 1) := by decide +kernel
theorem d_M_about_132 : decode c_M_about 132 = .ok (.imul, 1) := by decide +kernel
theorem d_M_about_133 : decode c_M_about 133 = .ok (.iload 4, 2) := by decide +kernel
theorem d_M_about_135 : decode c_M_about 135 = .ok (.iadd, 1) := by decide +kernel
theorem d_M_about_136 : decode c_M_about 136 = .ok (.iaload, 1) := by decide +kernel
theorem d_M_about_137 : decode c_M_about 137 = .ok (.iconst 1, 1) := by decide +kernel
theorem d_M_about_138 : decode c_M_about 138 = .ok (.iand, 1) := by decide +kernel
theorem d_M_about_139 : decode c_M_about 139 = .ok (.ireturn, 1) := by decide +kernel
theorem d_M_about_140 : decode c_M_about 140 = .ok (.aload_n 0, 1) := by decide +kernel
theorem d_M_about_141 : decode c_M_about 141 = .ok (.getfield 41, 3) := by decide +kernel
theorem d_M_about_144 : decode c_M_about 144 = .ok (.iload_n 3, 1) := by decide +kernel
theorem d_M_about_145 : decode c_M_about 145 = .ok (.iaload, 1) := by decide +kernel
theorem d_M_about_146 : decode c_M_about 146 = .ok (.ireturn, 1) := by decide +kernel
theorem d_M_about_147 : decode c_M_about 147 = .ok (.aload_n 0, 1) := by decide +kernel
theorem d_M_about_148 : decode c_M_about 148 = .ok (.getfield 56, 3) := by decide +kernel
theorem d_M_about_151 : decode c_M_about 151 = .ok (.iload_n 3, 1) := by decide +kernel
theorem d_M_about_152 : decode c_M_about 152 = .ok (.iaload, 1) := by decide +kernel
theorem d_M_about_153 : decode c_M_about 153 = .ok (.ireturn, 1) := by decide +kernel
theorem d_M_about_154 : decode c_M_about 154 = .ok (.aload_n 0, 1) := by decide +kernel
theorem d_M_about_155 : decode c_M_about 155 = .ok (.getfield 59, 3) := by decide +kernel
theorem d_M_about_158 : decode c_M_about 158 = .ok (.iload_n 3, 1) := by decide +kernel
theorem d_M_about_159 : decode c_M_about 159 = .ok (.iaload, 1) := by decide +kernel
theorem d_M_about_160 : decode c_M_about 160 = .ok (.ireturn, 1) := by decide +kernel
theorem d_M_about_161 : decode c_M_about 161 = .ok (.aload_n 0, 1) := by decide +kernel
theorem d_M_about_162 : decode c_M_about 162 = .ok (.getfield 35, 3) := by decide +kernel
theorem d_M_about_165 : decode c_M_about 165 = .ok (.iconst 2, 1) := by decide +kernel
theorem d_M_about_166 : decode c_M_about 166 = .ok (.iload_n 3, 1) := by decide +kernel
theorem d_M_about_167 : decode c_M_about 167 = .ok (.imul, 1) := by decide +kernel
theorem d_M_about_168 : decode c_M_about 168 = .ok (.iaload, 1) := by decide +kernel
theorem d_M_about_169 : decode c_M_about 169 = .ok (.ireturn, 1) := by decide +kernel
theorem d_M_about_170 : decode c_M_about 170 = .ok (.aload_n 0, 1) := by decide +kernel
theorem d_M_about_171 : decode c_M_about 171 = .ok (.getfield 35, 3) := by decide +kernel
theorem d_M_about_174 : decode c_M_about 174 = .ok (.iconst 2, 1) := by decide +kernel
theorem d_M_about_175 : decode c_M_about 175 = .ok (.iload_n 3, 1) := by decide +kernel
theorem d_M_about_176 : decode c_M_about 176 = .ok (.imul, 1) := by decide +kernel
theorem d_M_about_177 : decode c_M_about 177 = .ok (.iconst 1, 1) := by decide +kernel
theorem d_M_about_178 : decode c_M_about 178 = .ok (.iadd, 1) := by decide +kernel
theorem d_M_about_179 : decode c_M_about 179 = .ok (.iaload, 1) := by decide +kernel
theorem d_M_about_180 : decode c_M_about 180 = .ok (.ireturn, 1) := by decide +kernel
theorem d_M_about_181 : decode c_M_about 181 = .ok (.aload_n 0, 1) := by decide +kernel
theorem d_M_about_182 : decode c_M_about 182 = .ok (.getfield 29, 3) := by decide +kernel
theorem d_M_about_185 : decode c_M_about 185 = .ok (.iconst 2, 1) := by decide +kernel
theorem d_M_about_186 : decode c_M_about 186 = .ok (.iload_n 3, 1) := by decide +kernel
theorem d_M_about_187 : decode c_M_about 187 = .ok (.imul, 1) := by decide +kernel
theorem d_M_about_188 : decode c_M_about 188 = .ok (.iaload, 1) := by decide +kernel
theorem d_M_about_189 : decode c_M_about 189 = .ok (.ireturn, 1) := by decide +kernel
theorem d_M_about_190 : decode c_M_about 190 = .ok (.aload_n 0, 1) := by decide +kernel
theorem d_M_about_191 : decode c_M_about 191 = .ok (.getfield 29, 3) := by decide +kernel
theorem d_M_about_194 : decode c_M_about 194 = .ok (.iconst 2, 1) := by decide +kernel
theorem d_M_about_195 : decode c_M_about 195 = .ok (.iload_n 3, 1) := by decide +kernel
theorem d_M_about_196 : decode c_M_about 196 = .ok (.imul, 1) := by decide +kernel
theorem d_M_about_197 : decode c_M_about 197 = .ok (.iconst 1, 1) := by decide +kernel
theorem d_M_about_198 : decode c_M_about 198 = .ok (.iadd, 1) := by decide +kernel
theorem d_M_about_199 : decode c_M_about 199 = .ok (.iaload, 1) := by decide +kernel
theorem d_M_about_200 : decode c_M_about 200 = .ok (.ireturn, 1) := by decide +kernel
theorem d_M_about_201 : decode c_M_about 201 = .ok (.aload_n 0, 1) := by decide +kernel
theorem d_M_about_202 : decode c_M_about 202 = .ok (.getfield 32, 3) := by decide +kernel
theorem d_M_about_205 : decode c_M_about 205 = .ok (.iconst 2, 1) := by decide +kernel
theorem d_M_about_206 : decode c_M_about 206 = .ok (.iload_n 3, 1) := by decide +kernel
theorem d_M_about_207 : decode c_M_about 207 = .ok (.imul, 1) := by decide +kernel
theorem d_M_about_208 : decode c_M_about 208 = .ok (.iload_n 2, 1) := by decide +kernel
theorem d_M_about_209 : decode c_M_about 209 = .ok (.iadd, 1) := by decide +kernel
theorem d_M_about_210 : decode c_M_about 210 = .ok (.bipush 10, 2) := by decide +kernel
theorem d_M_about_212 : decode c_M_about 212 = .ok (.isub, 1) := by decide +kernel
theorem d_M_about_213 : decode c_M_about 213 = .ok (.baload, 1) := by decide +kernel
theorem d_M_about_214 : decode c_M_about 214 = .ok (.ifCond .eq 7, 3) := by decide +kernel
theorem d_M_about_217 : decode c_M_about 217 = .ok (.iconst 1, 1) := by decide +kernel
theorem d_M_about_218 : decode c_M_about 218 = .ok (.goto 4, 3) := by decide +kernel
theorem d_M_about_221 : decode c_M_about 221 = .ok (.iconst 0, 1) := by decide +kernel
theorem d_M_about_222 : decode c_M_about 222 = .ok (.ireturn, 1) := by decide +kernel
set_option maxRecDepth 20000 in
set_option maxHeartbeats 4000000 in
theorem m_M_about_no {E : kx_E} {w : va_W} {ma : Nat → Nat} {F : Nat → Int32} {A : Nat → Nat → Int32} (hM : Mdl E w ma F A) {n : Nat} {X : Fx} {D : Dy} (hR : ModR n X D A) (hX : WfX n X) (hD : WfD n D) (hn : F 1 = nI n) {bi : Nat → Option Nat} (hB : BiR n X bi) {car v : Int32} (hc0 : carI bi car = none) : kx_S E Y_M_about [.ref (ma 0), .int car, .int v] w (MX E w ma (up1 F 0 (nI 1)) A (some (.int (nI 0)))) := by
  refine kx_go (by decide) rfl rfl (Nat.le_of_ble_eq_true rfl) (kx_cc rfl (kx_cc rfl (kx_cc rfl kx_c0))) (fun z => ?_)
  have hO : kx_off w w mdlN := kx_off.rf
  have h24 := hX.1
  refine kx_aload_n d_M_about_0 rfl (by first | rfl | exact kx_rf _) ?_
  refine kx_iload_n d_M_about_1 rfl ?_
  refine kx_callV (as := [.int car]) (rest := []) d_M_about_2 v_M_97 rfl hM.1 rfl rfl (by decide) (by decide) (Nat.le_of_ble_eq_true rfl) (by decide) (by decide) rfl (m_M_findN hM hR hX hD hn hB hc0) (fun X w1 h => by cases h.1) (fun v w1 hq9 => ?_)
  obtain ⟨hv, hw9⟩ := hq9
  cases hv
  subst hw9
  refine kx_stk (st1 := [.int (-1)]) rfl ?_
  refine kx_istore_n d_M_about_5 (by decide) ?_
  refine kx_aload_n d_M_about_6 rfl (by first | rfl | exact kx_rf _) ?_
  refine kx_iload_n d_M_about_7 rfl ?_
  refine kx_iconst (-1) d_M_about_8 (by decide) ?_
  refine kx_icmp_eq 16 d_M_about_9 (by decide) (fun _ => ?_) (fun h => absurd rfl h)
  refine kx_iconst (nI 0) d_M_about_16 (by decide) ?_
  refine kx_iload_n d_M_about_17 rfl ?_
  refine kx_if_lt 31 d_M_about_18 (by decide) ?_ ?_
  · intro h18
    refine kx_iconst (nI 0) d_M_about_31 (by decide) ?_
    refine kx_iconst (nI 1) d_M_about_32 (by decide) ?_
    refine kx_callV (as := [.int (nI _), .int (nI _), .int (nI _)]) (rest := []) d_M_about_33 v_M_101 rfl hM.1 rfl rfl (by decide) (by decide) (Nat.le_of_ble_eq_true rfl) (by decide) (by decide) rfl (m_M_goes hM (by decide) (by decide) (by decide)) (fun X w1 h => by cases h.1) (fun v w hq9 => ?_)
    obtain ⟨hv, hM, hO9⟩ := hq9
    cases hv
    have hO := hO.tr hO9 (fun _ h => h) (fun _ h => h)
    refine kx_stk (st1 := [.int (nI 0)]) rfl ?_
    refine kx_if_ne_n 41 d_M_about_36 (by decide) (by decide) (fun h => absurd rfl h) (fun _ => ?_)
    refine kx_iconst (nI 0) d_M_about_39 (by decide) ?_
    refine kx_iret d_M_about_40 rfl (by decide) (by decide) ?_
    exact ⟨rfl, hM, hO⟩
  · intro h18
    refine kx_iload_n d_M_about_21 rfl ?_
    refine kx_bipush (nI 11) d_M_about_22 (by decide) ?_
    refine kx_icmp_gt 31 d_M_about_24 (by decide) ?_ ?_
    · intro h24
      refine kx_iconst (nI 0) d_M_about_31 (by decide) ?_
      refine kx_iconst (nI 1) d_M_about_32 (by decide) ?_
      refine kx_callV (as := [.int (nI _), .int (nI _), .int (nI _)]) (rest := []) d_M_about_33 v_M_101 rfl hM.1 rfl rfl (by decide) (by decide) (Nat.le_of_ble_eq_true rfl) (by decide) (by decide) rfl (m_M_goes hM (by decide) (by decide) (by decide)) (fun X w1 h => by cases h.1) (fun v w hq9 => ?_)
      obtain ⟨hv, hM, hO9⟩ := hq9
      cases hv
      have hO := hO.tr hO9 (fun _ h => h) (fun _ h => h)
      refine kx_stk (st1 := [.int (nI 0)]) rfl ?_
      refine kx_if_ne_n 41 d_M_about_36 (by decide) (by decide) (fun h => absurd rfl h) (fun _ => ?_)
      refine kx_iconst (nI 0) d_M_about_39 (by decide) ?_
      refine kx_iret d_M_about_40 rfl (by decide) (by decide) ?_
      exact ⟨rfl, hM, hO⟩
    · intro h24
      refine kx_iconst (nI 1) d_M_about_27 (by decide) ?_
      refine kx_goto 32 d_M_about_28 (by decide) ?_
      refine kx_iconst (nI 1) d_M_about_32 (by decide) ?_
      refine kx_callV (as := [.int (nI _), .int (nI _), .int (nI _)]) (rest := []) d_M_about_33 v_M_101 rfl hM.1 rfl rfl (by decide) (by decide) (Nat.le_of_ble_eq_true rfl) (by decide) (by decide) rfl (m_M_goes hM (by decide) (by decide) (by decide)) (fun X w1 h => by cases h.1) (fun v w hq9 => ?_)
      obtain ⟨hv, hM, hO9⟩ := hq9
      cases hv
      have hO := hO.tr hO9 (fun _ h => h) (fun _ h => h)
      refine kx_stk (st1 := [.int (nI 0)]) rfl ?_
      refine kx_if_ne_n 41 d_M_about_36 (by decide) (by decide) (fun h => absurd rfl h) (fun _ => ?_)
      refine kx_iconst (nI 0) d_M_about_39 (by decide) ?_
      refine kx_iret d_M_about_40 rfl (by decide) (by decide) ?_
      exact ⟨rfl, hM, hO⟩
set_option maxRecDepth 20000 in
set_option maxHeartbeats 4000000 in
theorem m_M_about_bad {E : kx_E} {w : va_W} {ma : Nat → Nat} {F : Nat → Int32} {A : Nat → Nat → Int32} (hM : Mdl E w ma F A) {n : Nat} {X : Fx} {D : Dy} (hR : ModR n X D A) (hX : WfX n X) (hD : WfD n D) (hn : F 1 = nI n) {bi : Nat → Option Nat} (hB : BiR n X bi) {car v : Int32} {c : Nat} (hc0 : carI bi car = some c) (hv : v < 0 ∨ nI 11 < v) : kx_S E Y_M_about [.ref (ma 0), .int car, .int v] w (MX E w ma (up1 F 0 (nI 2)) A (some (.int (nI 0)))) := by
  refine kx_go (by decide) rfl rfl (Nat.le_of_ble_eq_true rfl) (kx_cc rfl (kx_cc rfl (kx_cc rfl kx_c0))) (fun z => ?_)
  have hO : kx_off w w mdlN := kx_off.rf
  have h24 := hX.1
  have hc := hB.c hc0
  refine kx_aload_n d_M_about_0 rfl (by first | rfl | exact kx_rf _) ?_
  refine kx_iload_n d_M_about_1 rfl ?_
  refine kx_callV (as := [.int car]) (rest := []) d_M_about_2 v_M_97 rfl hM.1 rfl rfl (by decide) (by decide) (Nat.le_of_ble_eq_true rfl) (by decide) (by decide) rfl (m_M_findC hM hR hX hD hn hB hc0) (fun X w1 h => by cases h.1) (fun v w1 hq9 => ?_)
  obtain ⟨hv, hw9⟩ := hq9
  cases hv
  subst hw9
  refine kx_stk (st1 := [.int (nI c)]) rfl ?_
  refine kx_istore_n d_M_about_5 (by decide) ?_
  refine kx_aload_n d_M_about_6 rfl (by first | rfl | exact kx_rf _) ?_
  refine kx_iload_n d_M_about_7 rfl ?_
  refine kx_iconst (-1) d_M_about_8 (by decide) ?_
  refine kx_icmp_eq 16 d_M_about_9 (by decide) (fun h => absurd h (nI_m1 (by omega))) (fun _ => ?_)
  refine kx_iconst (nI 1) d_M_about_12 (by decide) ?_
  refine kx_goto 17 d_M_about_13 (by decide) ?_
  refine kx_iload_n d_M_about_17 rfl ?_
  refine kx_if_lt 31 d_M_about_18 (by decide) ?_ ?_
  · intro h18
    refine kx_iconst (nI 0) d_M_about_31 (by decide) ?_
    refine kx_iconst (nI 1) d_M_about_32 (by decide) ?_
    refine kx_callV (as := [.int (nI _), .int (nI _), .int (nI _)]) (rest := []) d_M_about_33 v_M_101 rfl hM.1 rfl rfl (by decide) (by decide) (Nat.le_of_ble_eq_true rfl) (by decide) (by decide) rfl (m_M_goes hM (by decide) (by decide) (by decide)) (fun X w1 h => by cases h.1) (fun v w hq9 => ?_)
    obtain ⟨hv, hM, hO9⟩ := hq9
    cases hv
    have hO := hO.tr hO9 (fun _ h => h) (fun _ h => h)
    refine kx_stk (st1 := [.int (nI 0)]) rfl ?_
    refine kx_if_ne_n 41 d_M_about_36 (by decide) (by decide) (fun h => absurd rfl h) (fun _ => ?_)
    refine kx_iconst (nI 0) d_M_about_39 (by decide) ?_
    refine kx_iret d_M_about_40 rfl (by decide) (by decide) ?_
    exact ⟨rfl, hM, hO⟩
  · intro h18
    refine kx_iload_n d_M_about_21 rfl ?_
    refine kx_bipush (nI 11) d_M_about_22 (by decide) ?_
    refine kx_icmp_gt 31 d_M_about_24 (by decide) ?_ ?_
    · intro h24
      refine kx_iconst (nI 0) d_M_about_31 (by decide) ?_
      refine kx_iconst (nI 1) d_M_about_32 (by decide) ?_
      refine kx_callV (as := [.int (nI _), .int (nI _), .int (nI _)]) (rest := []) d_M_about_33 v_M_101 rfl hM.1 rfl rfl (by decide) (by decide) (Nat.le_of_ble_eq_true rfl) (by decide) (by decide) rfl (m_M_goes hM (by decide) (by decide) (by decide)) (fun X w1 h => by cases h.1) (fun v w hq9 => ?_)
      obtain ⟨hv, hM, hO9⟩ := hq9
      cases hv
      have hO := hO.tr hO9 (fun _ h => h) (fun _ h => h)
      refine kx_stk (st1 := [.int (nI 0)]) rfl ?_
      refine kx_if_ne_n 41 d_M_about_36 (by decide) (by decide) (fun h => absurd rfl h) (fun _ => ?_)
      refine kx_iconst (nI 0) d_M_about_39 (by decide) ?_
      refine kx_iret d_M_about_40 rfl (by decide) (by decide) ?_
      exact ⟨rfl, hM, hO⟩
    · intro h24
      exact absurd hv (by rintro (h | h); exact h18 h; exact h24 h)
def flM (D : Dy) (c : Nat) : Int32 := if rowNo c (dDi D c) 0 = 0 then nI 0 else nI ((dDi D c).getD (rowNo c (dDi D c) 0 - 1) 0 % 2)
def facM (D : Dy) (c k : Nat) : Int32 :=
  if k = 0 then nI (staM D c) else if k = 1 then nI (rowNo c (dDi D c) 0) else if k = 2 then flM D c else if k = 3 then nI (dDi D c).length else if k = 4 then dCr D c else if k = 5 then dCh D c
  else if k = 6 then nI (dSi D (2 * c)) else if k = 7 then nI (dSi D (2 * c + 1)) else if k = 8 then nI (dVw D (2 * c)).length else if k = 9 then nI (dVw D (2 * c + 1)).length else if k = 10 then nI (dWh D (2 * c)) else nI (dWh D (2 * c + 1))
set_option maxRecDepth 20000 in
set_option maxHeartbeats 4000000 in
theorem m_M_about_0 {E : kx_E} {w : va_W} {ma : Nat → Nat} {F : Nat → Int32} {A : Nat → Nat → Int32} (hM : Mdl E w ma F A) {n : Nat} {X : Fx} {D : Dy} (hR : ModR n X D A) (hX : WfX n X) (hD : WfD n D) (hn : F 1 = nI n) {bi : Nat → Option Nat} (hB : BiR n X bi) {car : Int32} {c : Nat} (hc0 : carI bi car = some c) : kx_S E Y_M_about [.ref (ma 0), .int car, .int (nI 0)] w (MX E w ma (up1 F 0 (nI 0)) A (some (.int (facM D c 0)))) := by
  refine kx_go (by decide) rfl rfl (Nat.le_of_ble_eq_true rfl) (kx_cc rfl (kx_cc rfl (kx_cc rfl kx_c0))) (fun z => ?_)
  have hO : kx_off w w mdlN := kx_off.rf
  have h24 := hX.1
  have hc := hB.c hc0
  have hd := hR.dis c hc
  have bd := (hD.2.2 c hc).1
  have bd24 := bd.1
  refine kx_aload_n d_M_about_0 rfl (by first | rfl | exact kx_rf _) ?_
  refine kx_iload_n d_M_about_1 rfl ?_
  refine kx_callV (as := [.int car]) (rest := []) d_M_about_2 v_M_97 rfl hM.1 rfl rfl (by decide) (by decide) (Nat.le_of_ble_eq_true rfl) (by decide) (by decide) rfl (m_M_findC hM hR hX hD hn hB hc0) (fun X w1 h => by cases h.1) (fun v w1 hq9 => ?_)
  obtain ⟨hv, hw9⟩ := hq9
  cases hv
  subst hw9
  refine kx_stk (st1 := [.int (nI c)]) rfl ?_
  refine kx_istore_n d_M_about_5 (by decide) ?_
  refine kx_aload_n d_M_about_6 rfl (by first | rfl | exact kx_rf _) ?_
  refine kx_iload_n d_M_about_7 rfl ?_
  refine kx_iconst (-1) d_M_about_8 (by decide) ?_
  refine kx_icmp_eq 16 d_M_about_9 (by decide) (fun h => absurd h (nI_m1 (by omega))) (fun _ => ?_)
  refine kx_iconst (nI 1) d_M_about_12 (by decide) ?_
  refine kx_goto 17 d_M_about_13 (by decide) ?_
  refine kx_iload_n d_M_about_17 rfl ?_
  refine kx_if_lt_n 31 d_M_about_18 (by decide) (by decide) ?_
  refine kx_iload_n d_M_about_21 rfl ?_
  refine kx_bipush (nI 11) d_M_about_22 (by decide) ?_
  first | refine kx_icmp_gt_n 31 d_M_about_24 (by decide) (by omega) (by omega) ?_ ?_ | refine kx_icmp_gt 31 d_M_about_24 (by decide) ?_ ?_
  · intro h24
    exact absurd h24 (by decide)
  · intro h24
    refine kx_iconst (nI 1) d_M_about_27 (by decide) ?_
    refine kx_goto 32 d_M_about_28 (by decide) ?_
    refine kx_iconst (nI 1) d_M_about_32 (by decide) ?_
    refine kx_callV (as := [.int (nI _), .int (nI _), .int (nI _)]) (rest := []) d_M_about_33 v_M_101 rfl hM.1 rfl rfl (by decide) (by decide) (Nat.le_of_ble_eq_true rfl) (by decide) (by decide) rfl (m_M_goes hM (by decide) (by decide) (by decide)) (fun X w1 h => by cases h.1) (fun v w hq9 => ?_)
    obtain ⟨hv, hM, hO9⟩ := hq9
    cases hv
    have hO := hO.tr hO9 (fun _ h => h) (fun _ h => h)
    refine kx_stk (st1 := [.int (nI 1)]) rfl ?_
    refine kx_if_ne_n 41 d_M_about_36 (by decide) (by decide) (fun _ => ?_) (fun h => absurd h (by decide))
    refine kx_aload_n d_M_about_41 rfl (by first | rfl | exact kx_rf _) ?_
    refine kx_iload_n d_M_about_42 rfl ?_
    refine kx_iload_n d_M_about_43 rfl ?_
    refine kx_callV (as := [.int (nI c), .int (nI c)]) (rest := []) d_M_about_44 v_M_135 rfl hM.1 rfl rfl (by decide) (by decide) (Nat.le_of_ble_eq_true rfl) (by decide) (by decide) rfl (m_M_place hM (by omega) (by omega) hd bd24 (fun v hv => by have := bd.2 v hv; omega)) (fun X w1 h => by cases h.1) (fun v w1 hq9 => ?_)
    obtain ⟨hv, hw9⟩ := hq9
    cases hv
    subst hw9
    refine kx_stk (st1 := [.int (plI c (dDi D c))]) rfl ?_
    refine kx_istore d_M_about_47 (by decide) ?_
    refine kx_iload_n d_M_about_49 rfl ?_
    refine kx_tabIn (off := 54) 104 d_M_about_50 (by decide) (by decide) (by decide) (by decide) ?_
    refine kx_aload_n d_M_about_104 rfl (by first | rfl | exact kx_rf _) ?_
    refine kx_iload_n d_M_about_105 rfl ?_
    refine kx_callV (as := [.int (nI c)]) (rest := []) d_M_about_106 v_M_161 rfl hM.1 rfl rfl (by decide) (by decide) (Nat.le_of_ble_eq_true rfl) (by decide) (by decide) rfl (m_M_stateOf hM hR hX hD (by rw [up1_n (by decide)]; exact hn) hc) (fun X w1 h => by cases h.1) (fun v w1 hq9 => ?_)
    obtain ⟨hv, hw9⟩ := hq9
    cases hv
    subst hw9
    refine kx_stk (st1 := [.int (nI (staM D c))]) rfl ?_
    refine kx_iret d_M_about_109 rfl (by decide) (by decide) ?_
    exact ⟨rfl, hM, hO⟩
set_option maxRecDepth 20000 in
set_option maxHeartbeats 4000000 in
theorem m_M_about_1 {E : kx_E} {w : va_W} {ma : Nat → Nat} {F : Nat → Int32} {A : Nat → Nat → Int32} (hM : Mdl E w ma F A) {n : Nat} {X : Fx} {D : Dy} (hR : ModR n X D A) (hX : WfX n X) (hD : WfD n D) (hn : F 1 = nI n) {bi : Nat → Option Nat} (hB : BiR n X bi) {car : Int32} {c : Nat} (hc0 : carI bi car = some c) : kx_S E Y_M_about [.ref (ma 0), .int car, .int (nI 1)] w (MX E w ma (up1 F 0 (nI 0)) A (some (.int (facM D c 1)))) := by
  refine kx_go (by decide) rfl rfl (Nat.le_of_ble_eq_true rfl) (kx_cc rfl (kx_cc rfl (kx_cc rfl kx_c0))) (fun z => ?_)
  have hO : kx_off w w mdlN := kx_off.rf
  have h24 := hX.1
  have hc := hB.c hc0
  have hd := hR.dis c hc
  have bd := (hD.2.2 c hc).1
  have bd24 := bd.1
  refine kx_aload_n d_M_about_0 rfl (by first | rfl | exact kx_rf _) ?_
  refine kx_iload_n d_M_about_1 rfl ?_
  refine kx_callV (as := [.int car]) (rest := []) d_M_about_2 v_M_97 rfl hM.1 rfl rfl (by decide) (by decide) (Nat.le_of_ble_eq_true rfl) (by decide) (by decide) rfl (m_M_findC hM hR hX hD hn hB hc0) (fun X w1 h => by cases h.1) (fun v w1 hq9 => ?_)
  obtain ⟨hv, hw9⟩ := hq9
  cases hv
  subst hw9
  refine kx_stk (st1 := [.int (nI c)]) rfl ?_
  refine kx_istore_n d_M_about_5 (by decide) ?_
  refine kx_aload_n d_M_about_6 rfl (by first | rfl | exact kx_rf _) ?_
  refine kx_iload_n d_M_about_7 rfl ?_
  refine kx_iconst (-1) d_M_about_8 (by decide) ?_
  refine kx_icmp_eq 16 d_M_about_9 (by decide) (fun h => absurd h (nI_m1 (by omega))) (fun _ => ?_)
  refine kx_iconst (nI 1) d_M_about_12 (by decide) ?_
  refine kx_goto 17 d_M_about_13 (by decide) ?_
  refine kx_iload_n d_M_about_17 rfl ?_
  refine kx_if_lt_n 31 d_M_about_18 (by decide) (by decide) ?_
  refine kx_iload_n d_M_about_21 rfl ?_
  refine kx_bipush (nI 11) d_M_about_22 (by decide) ?_
  first | refine kx_icmp_gt_n 31 d_M_about_24 (by decide) (by omega) (by omega) ?_ ?_ | refine kx_icmp_gt 31 d_M_about_24 (by decide) ?_ ?_
  · intro h24
    exact absurd h24 (by decide)
  · intro h24
    refine kx_iconst (nI 1) d_M_about_27 (by decide) ?_
    refine kx_goto 32 d_M_about_28 (by decide) ?_
    refine kx_iconst (nI 1) d_M_about_32 (by decide) ?_
    refine kx_callV (as := [.int (nI _), .int (nI _), .int (nI _)]) (rest := []) d_M_about_33 v_M_101 rfl hM.1 rfl rfl (by decide) (by decide) (Nat.le_of_ble_eq_true rfl) (by decide) (by decide) rfl (m_M_goes hM (by decide) (by decide) (by decide)) (fun X w1 h => by cases h.1) (fun v w hq9 => ?_)
    obtain ⟨hv, hM, hO9⟩ := hq9
    cases hv
    have hO := hO.tr hO9 (fun _ h => h) (fun _ h => h)
    refine kx_stk (st1 := [.int (nI 1)]) rfl ?_
    refine kx_if_ne_n 41 d_M_about_36 (by decide) (by decide) (fun _ => ?_) (fun h => absurd h (by decide))
    refine kx_aload_n d_M_about_41 rfl (by first | rfl | exact kx_rf _) ?_
    refine kx_iload_n d_M_about_42 rfl ?_
    refine kx_iload_n d_M_about_43 rfl ?_
    refine kx_callV (as := [.int (nI c), .int (nI c)]) (rest := []) d_M_about_44 v_M_135 rfl hM.1 rfl rfl (by decide) (by decide) (Nat.le_of_ble_eq_true rfl) (by decide) (by decide) rfl (m_M_place hM (by omega) (by omega) hd bd24 (fun v hv => by have := bd.2 v hv; omega)) (fun X w1 h => by cases h.1) (fun v w1 hq9 => ?_)
    obtain ⟨hv, hw9⟩ := hq9
    cases hv
    subst hw9
    refine kx_stk (st1 := [.int (plI c (dDi D c))]) rfl ?_
    refine kx_istore d_M_about_47 (by decide) ?_
    refine kx_iload_n d_M_about_49 rfl ?_
    refine kx_tabIn (off := 60) 110 d_M_about_50 (by decide) (by decide) (by decide) (by decide) ?_
    refine kx_iload d_M_about_110 rfl ?_
    refine kx_iconst (nI 1) d_M_about_112 (by decide) ?_
    refine kx_iadd _ d_M_about_113 (plI_1 c (dDi D c) bd24) ?_
    refine kx_iret d_M_about_114 rfl (by decide) (by decide) ?_
    exact ⟨rfl, hM, hO⟩
set_option maxRecDepth 20000 in
set_option maxHeartbeats 4000000 in
theorem m_M_about_2 {E : kx_E} {w : va_W} {ma : Nat → Nat} {F : Nat → Int32} {A : Nat → Nat → Int32} (hM : Mdl E w ma F A) {n : Nat} {X : Fx} {D : Dy} (hR : ModR n X D A) (hX : WfX n X) (hD : WfD n D) (hn : F 1 = nI n) {bi : Nat → Option Nat} (hB : BiR n X bi) {car : Int32} {c : Nat} (hc0 : carI bi car = some c) : kx_S E Y_M_about [.ref (ma 0), .int car, .int (nI 2)] w (MX E w ma (up1 F 0 (nI 0)) A (some (.int (facM D c 2)))) := by
  refine kx_go (by decide) rfl rfl (Nat.le_of_ble_eq_true rfl) (kx_cc rfl (kx_cc rfl (kx_cc rfl kx_c0))) (fun z => ?_)
  have hO : kx_off w w mdlN := kx_off.rf
  have h24 := hX.1
  have hc := hB.c hc0
  have hd := hR.dis c hc
  have bd := (hD.2.2 c hc).1
  have bd24 := bd.1
  have hle := rowNo_le c (dDi D c) 0
  have hpl : plI c (dDi D c) = -1 ↔ rowNo c (dDi D c) 0 = 0 := by
    unfold plI
    by_cases e : rowNo c (dDi D c) 0 = 0
    · rw [if_pos e]; exact ⟨fun _ => e, fun _ => rfl⟩
    · rw [if_neg e]; exact ⟨fun q => absurd q (nI_m1 (by omega)), fun q => absurd q e⟩
  refine kx_aload_n d_M_about_0 rfl (by first | rfl | exact kx_rf _) ?_
  refine kx_iload_n d_M_about_1 rfl ?_
  refine kx_callV (as := [.int car]) (rest := []) d_M_about_2 v_M_97 rfl hM.1 rfl rfl (by decide) (by decide) (Nat.le_of_ble_eq_true rfl) (by decide) (by decide) rfl (m_M_findC hM hR hX hD hn hB hc0) (fun X w1 h => by cases h.1) (fun v w1 hq9 => ?_)
  obtain ⟨hv, hw9⟩ := hq9
  cases hv
  subst hw9
  refine kx_stk (st1 := [.int (nI c)]) rfl ?_
  refine kx_istore_n d_M_about_5 (by decide) ?_
  refine kx_aload_n d_M_about_6 rfl (by first | rfl | exact kx_rf _) ?_
  refine kx_iload_n d_M_about_7 rfl ?_
  refine kx_iconst (-1) d_M_about_8 (by decide) ?_
  refine kx_icmp_eq 16 d_M_about_9 (by decide) (fun h => absurd h (nI_m1 (by omega))) (fun _ => ?_)
  refine kx_iconst (nI 1) d_M_about_12 (by decide) ?_
  refine kx_goto 17 d_M_about_13 (by decide) ?_
  refine kx_iload_n d_M_about_17 rfl ?_
  refine kx_if_lt_n 31 d_M_about_18 (by decide) (by decide) ?_
  refine kx_iload_n d_M_about_21 rfl ?_
  refine kx_bipush (nI 11) d_M_about_22 (by decide) ?_
  first | refine kx_icmp_gt_n 31 d_M_about_24 (by decide) (by omega) (by omega) ?_ ?_ | refine kx_icmp_gt 31 d_M_about_24 (by decide) ?_ ?_
  · intro h24
    exact absurd h24 (by decide)
  · intro h24
    refine kx_iconst (nI 1) d_M_about_27 (by decide) ?_
    refine kx_goto 32 d_M_about_28 (by decide) ?_
    refine kx_iconst (nI 1) d_M_about_32 (by decide) ?_
    refine kx_callV (as := [.int (nI _), .int (nI _), .int (nI _)]) (rest := []) d_M_about_33 v_M_101 rfl hM.1 rfl rfl (by decide) (by decide) (Nat.le_of_ble_eq_true rfl) (by decide) (by decide) rfl (m_M_goes hM (by decide) (by decide) (by decide)) (fun X w1 h => by cases h.1) (fun v w hq9 => ?_)
    obtain ⟨hv, hM, hO9⟩ := hq9
    cases hv
    have hO := hO.tr hO9 (fun _ h => h) (fun _ h => h)
    refine kx_stk (st1 := [.int (nI 1)]) rfl ?_
    refine kx_if_ne_n 41 d_M_about_36 (by decide) (by decide) (fun _ => ?_) (fun h => absurd h (by decide))
    refine kx_aload_n d_M_about_41 rfl (by first | rfl | exact kx_rf _) ?_
    refine kx_iload_n d_M_about_42 rfl ?_
    refine kx_iload_n d_M_about_43 rfl ?_
    refine kx_callV (as := [.int (nI c), .int (nI c)]) (rest := []) d_M_about_44 v_M_135 rfl hM.1 rfl rfl (by decide) (by decide) (Nat.le_of_ble_eq_true rfl) (by decide) (by decide) rfl (m_M_place hM (by omega) (by omega) hd bd24 (fun v hv => by have := bd.2 v hv; omega)) (fun X w1 h => by cases h.1) (fun v w1 hq9 => ?_)
    obtain ⟨hv, hw9⟩ := hq9
    cases hv
    subst hw9
    refine kx_stk (st1 := [.int (plI c (dDi D c))]) rfl ?_
    refine kx_istore d_M_about_47 (by decide) ?_
    refine kx_iload_n d_M_about_49 rfl ?_
    refine kx_tabIn (off := 65) 115 d_M_about_50 (by decide) (by decide) (by decide) (by decide) ?_
    refine kx_iload d_M_about_115 rfl ?_
    refine kx_iconst (-1) d_M_about_117 (by decide) ?_
    refine kx_icmp_ne 125 d_M_about_118 (by decide) ?_ ?_
    · intro h118
      have e9 : ¬ rowNo c (dDi D c) 0 = 0 := fun q => h118 (hpl.mpr q)
      have e8 : plI c (dDi D c) = nI (rowNo c (dDi D c) 0 - 1) := if_neg e9
      rw [e8]
      have hb := bd.get (k := rowNo c (dDi D c) 0 - 1) (by omega)
      refine kx_aload_n d_M_about_125 rfl (by first | rfl | exact kx_rf _) ?_
      refine kx_get _ d_M_about_126 f_M_38 hM.1 (by rfl) ?_
      refine kx_bipush (nI 24) d_M_about_129 (by decide) ?_
      refine kx_iload_n d_M_about_131 rfl ?_
      first | refine kx_imul _ d_M_about_132 (pk_mul _ _) ?_ | refine kx_imul _ d_M_about_132 rfl ?_
      refine kx_iload d_M_about_133 rfl ?_
      first | refine kx_iadd _ d_M_about_135 (nI_add _ _) ?_ | refine kx_iadd _ d_M_about_135 rfl ?_
      refine kx_iald d_M_about_136 hM.a9 (by omega) (by decide) ?_
      rw [hd.2 _ (by omega)]
      refine kx_iconst (nI 1) d_M_about_137 (by decide) ?_
      refine kx_iand _ d_M_about_138 (kx_and1 (by omega)) ?_
      refine kx_iret d_M_about_139 rfl (by decide) (by decide) ?_
      have e7 : facM D c 2 = flM D c := rfl
      rw [e7]
      unfold flM
      first
        | (rw [if_neg e9]; exact ⟨rfl, hM, hO⟩)
        | (rw [if_pos e9]; exact ⟨rfl, hM, hO⟩)
    · intro h118
      have e9 : rowNo c (dDi D c) 0 = 0 := hpl.mp h118
      refine kx_iconst (nI 0) d_M_about_121 (by decide) ?_
      refine kx_goto 139 d_M_about_122 (by decide) ?_
      refine kx_iret d_M_about_139 rfl (by decide) (by decide) ?_
      have e7 : facM D c 2 = flM D c := rfl
      rw [e7]
      unfold flM
      first
        | (rw [if_neg e9]; exact ⟨rfl, hM, hO⟩)
        | (rw [if_pos e9]; exact ⟨rfl, hM, hO⟩)
set_option maxRecDepth 20000 in
set_option maxHeartbeats 4000000 in
theorem m_M_about_3 {E : kx_E} {w : va_W} {ma : Nat → Nat} {F : Nat → Int32} {A : Nat → Nat → Int32} (hM : Mdl E w ma F A) {n : Nat} {X : Fx} {D : Dy} (hR : ModR n X D A) (hX : WfX n X) (hD : WfD n D) (hn : F 1 = nI n) {bi : Nat → Option Nat} (hB : BiR n X bi) {car : Int32} {c : Nat} (hc0 : carI bi car = some c) : kx_S E Y_M_about [.ref (ma 0), .int car, .int (nI 3)] w (MX E w ma (up1 F 0 (nI 0)) A (some (.int (facM D c 3)))) := by
  refine kx_go (by decide) rfl rfl (Nat.le_of_ble_eq_true rfl) (kx_cc rfl (kx_cc rfl (kx_cc rfl kx_c0))) (fun z => ?_)
  have hO : kx_off w w mdlN := kx_off.rf
  have h24 := hX.1
  have hc := hB.c hc0
  have hd := hR.dis c hc
  have bd := (hD.2.2 c hc).1
  have bd24 := bd.1
  refine kx_aload_n d_M_about_0 rfl (by first | rfl | exact kx_rf _) ?_
  refine kx_iload_n d_M_about_1 rfl ?_
  refine kx_callV (as := [.int car]) (rest := []) d_M_about_2 v_M_97 rfl hM.1 rfl rfl (by decide) (by decide) (Nat.le_of_ble_eq_true rfl) (by decide) (by decide) rfl (m_M_findC hM hR hX hD hn hB hc0) (fun X w1 h => by cases h.1) (fun v w1 hq9 => ?_)
  obtain ⟨hv, hw9⟩ := hq9
  cases hv
  subst hw9
  refine kx_stk (st1 := [.int (nI c)]) rfl ?_
  refine kx_istore_n d_M_about_5 (by decide) ?_
  refine kx_aload_n d_M_about_6 rfl (by first | rfl | exact kx_rf _) ?_
  refine kx_iload_n d_M_about_7 rfl ?_
  refine kx_iconst (-1) d_M_about_8 (by decide) ?_
  refine kx_icmp_eq 16 d_M_about_9 (by decide) (fun h => absurd h (nI_m1 (by omega))) (fun _ => ?_)
  refine kx_iconst (nI 1) d_M_about_12 (by decide) ?_
  refine kx_goto 17 d_M_about_13 (by decide) ?_
  refine kx_iload_n d_M_about_17 rfl ?_
  refine kx_if_lt_n 31 d_M_about_18 (by decide) (by decide) ?_
  refine kx_iload_n d_M_about_21 rfl ?_
  refine kx_bipush (nI 11) d_M_about_22 (by decide) ?_
  first | refine kx_icmp_gt_n 31 d_M_about_24 (by decide) (by omega) (by omega) ?_ ?_ | refine kx_icmp_gt 31 d_M_about_24 (by decide) ?_ ?_
  · intro h24
    exact absurd h24 (by decide)
  · intro h24
    refine kx_iconst (nI 1) d_M_about_27 (by decide) ?_
    refine kx_goto 32 d_M_about_28 (by decide) ?_
    refine kx_iconst (nI 1) d_M_about_32 (by decide) ?_
    refine kx_callV (as := [.int (nI _), .int (nI _), .int (nI _)]) (rest := []) d_M_about_33 v_M_101 rfl hM.1 rfl rfl (by decide) (by decide) (Nat.le_of_ble_eq_true rfl) (by decide) (by decide) rfl (m_M_goes hM (by decide) (by decide) (by decide)) (fun X w1 h => by cases h.1) (fun v w hq9 => ?_)
    obtain ⟨hv, hM, hO9⟩ := hq9
    cases hv
    have hO := hO.tr hO9 (fun _ h => h) (fun _ h => h)
    refine kx_stk (st1 := [.int (nI 1)]) rfl ?_
    refine kx_if_ne_n 41 d_M_about_36 (by decide) (by decide) (fun _ => ?_) (fun h => absurd h (by decide))
    refine kx_aload_n d_M_about_41 rfl (by first | rfl | exact kx_rf _) ?_
    refine kx_iload_n d_M_about_42 rfl ?_
    refine kx_iload_n d_M_about_43 rfl ?_
    refine kx_callV (as := [.int (nI c), .int (nI c)]) (rest := []) d_M_about_44 v_M_135 rfl hM.1 rfl rfl (by decide) (by decide) (Nat.le_of_ble_eq_true rfl) (by decide) (by decide) rfl (m_M_place hM (by omega) (by omega) hd bd24 (fun v hv => by have := bd.2 v hv; omega)) (fun X w1 h => by cases h.1) (fun v w1 hq9 => ?_)
    obtain ⟨hv, hw9⟩ := hq9
    cases hv
    subst hw9
    refine kx_stk (st1 := [.int (plI c (dDi D c))]) rfl ?_
    refine kx_istore d_M_about_47 (by decide) ?_
    refine kx_iload_n d_M_about_49 rfl ?_
    refine kx_tabIn (off := 90) 140 d_M_about_50 (by decide) (by decide) (by decide) (by decide) ?_
    refine kx_aload_n d_M_about_140 rfl (by first | rfl | exact kx_rf _) ?_
    refine kx_get _ d_M_about_141 f_M_41 hM.1 (by rfl) ?_
    refine kx_iload_n d_M_about_144 rfl ?_
    refine kx_iald d_M_about_145 hM.a10 (by omega) (by decide) ?_
    rw [hd.1]
    refine kx_iret d_M_about_146 rfl (by decide) (by decide) ?_
    exact ⟨rfl, hM, hO⟩
set_option maxRecDepth 20000 in
set_option maxHeartbeats 4000000 in
theorem m_M_about_4 {E : kx_E} {w : va_W} {ma : Nat → Nat} {F : Nat → Int32} {A : Nat → Nat → Int32} (hM : Mdl E w ma F A) {n : Nat} {X : Fx} {D : Dy} (hR : ModR n X D A) (hX : WfX n X) (hD : WfD n D) (hn : F 1 = nI n) {bi : Nat → Option Nat} (hB : BiR n X bi) {car : Int32} {c : Nat} (hc0 : carI bi car = some c) : kx_S E Y_M_about [.ref (ma 0), .int car, .int (nI 4)] w (MX E w ma (up1 F 0 (nI 0)) A (some (.int (facM D c 4)))) := by
  refine kx_go (by decide) rfl rfl (Nat.le_of_ble_eq_true rfl) (kx_cc rfl (kx_cc rfl (kx_cc rfl kx_c0))) (fun z => ?_)
  have hO : kx_off w w mdlN := kx_off.rf
  have h24 := hX.1
  have hc := hB.c hc0
  have hd := hR.dis c hc
  have bd := (hD.2.2 c hc).1
  have bd24 := bd.1
  refine kx_aload_n d_M_about_0 rfl (by first | rfl | exact kx_rf _) ?_
  refine kx_iload_n d_M_about_1 rfl ?_
  refine kx_callV (as := [.int car]) (rest := []) d_M_about_2 v_M_97 rfl hM.1 rfl rfl (by decide) (by decide) (Nat.le_of_ble_eq_true rfl) (by decide) (by decide) rfl (m_M_findC hM hR hX hD hn hB hc0) (fun X w1 h => by cases h.1) (fun v w1 hq9 => ?_)
  obtain ⟨hv, hw9⟩ := hq9
  cases hv
  subst hw9
  refine kx_stk (st1 := [.int (nI c)]) rfl ?_
  refine kx_istore_n d_M_about_5 (by decide) ?_
  refine kx_aload_n d_M_about_6 rfl (by first | rfl | exact kx_rf _) ?_
  refine kx_iload_n d_M_about_7 rfl ?_
  refine kx_iconst (-1) d_M_about_8 (by decide) ?_
  refine kx_icmp_eq 16 d_M_about_9 (by decide) (fun h => absurd h (nI_m1 (by omega))) (fun _ => ?_)
  refine kx_iconst (nI 1) d_M_about_12 (by decide) ?_
  refine kx_goto 17 d_M_about_13 (by decide) ?_
  refine kx_iload_n d_M_about_17 rfl ?_
  refine kx_if_lt_n 31 d_M_about_18 (by decide) (by decide) ?_
  refine kx_iload_n d_M_about_21 rfl ?_
  refine kx_bipush (nI 11) d_M_about_22 (by decide) ?_
  first | refine kx_icmp_gt_n 31 d_M_about_24 (by decide) (by omega) (by omega) ?_ ?_ | refine kx_icmp_gt 31 d_M_about_24 (by decide) ?_ ?_
  · intro h24
    exact absurd h24 (by decide)
  · intro h24
    refine kx_iconst (nI 1) d_M_about_27 (by decide) ?_
    refine kx_goto 32 d_M_about_28 (by decide) ?_
    refine kx_iconst (nI 1) d_M_about_32 (by decide) ?_
    refine kx_callV (as := [.int (nI _), .int (nI _), .int (nI _)]) (rest := []) d_M_about_33 v_M_101 rfl hM.1 rfl rfl (by decide) (by decide) (Nat.le_of_ble_eq_true rfl) (by decide) (by decide) rfl (m_M_goes hM (by decide) (by decide) (by decide)) (fun X w1 h => by cases h.1) (fun v w hq9 => ?_)
    obtain ⟨hv, hM, hO9⟩ := hq9
    cases hv
    have hO := hO.tr hO9 (fun _ h => h) (fun _ h => h)
    refine kx_stk (st1 := [.int (nI 1)]) rfl ?_
    refine kx_if_ne_n 41 d_M_about_36 (by decide) (by decide) (fun _ => ?_) (fun h => absurd h (by decide))
    refine kx_aload_n d_M_about_41 rfl (by first | rfl | exact kx_rf _) ?_
    refine kx_iload_n d_M_about_42 rfl ?_
    refine kx_iload_n d_M_about_43 rfl ?_
    refine kx_callV (as := [.int (nI c), .int (nI c)]) (rest := []) d_M_about_44 v_M_135 rfl hM.1 rfl rfl (by decide) (by decide) (Nat.le_of_ble_eq_true rfl) (by decide) (by decide) rfl (m_M_place hM (by omega) (by omega) hd bd24 (fun v hv => by have := bd.2 v hv; omega)) (fun X w1 h => by cases h.1) (fun v w1 hq9 => ?_)
    obtain ⟨hv, hw9⟩ := hq9
    cases hv
    subst hw9
    refine kx_stk (st1 := [.int (plI c (dDi D c))]) rfl ?_
    refine kx_istore d_M_about_47 (by decide) ?_
    refine kx_iload_n d_M_about_49 rfl ?_
    refine kx_tabIn (off := 97) 147 d_M_about_50 (by decide) (by decide) (by decide) (by decide) ?_
    refine kx_aload_n d_M_about_147 rfl (by first | rfl | exact kx_rf _) ?_
    refine kx_get _ d_M_about_148 f_M_56 hM.1 (by rfl) ?_
    refine kx_iload_n d_M_about_151 rfl ?_
    refine kx_iald d_M_about_152 hM.a15 (by omega) (by decide) ?_
    rw [hR.crs c hc]
    refine kx_iret d_M_about_153 rfl (by decide) (by decide) ?_
    exact ⟨rfl, hM, hO⟩
set_option maxRecDepth 20000 in
set_option maxHeartbeats 4000000 in
theorem m_M_about_5 {E : kx_E} {w : va_W} {ma : Nat → Nat} {F : Nat → Int32} {A : Nat → Nat → Int32} (hM : Mdl E w ma F A) {n : Nat} {X : Fx} {D : Dy} (hR : ModR n X D A) (hX : WfX n X) (hD : WfD n D) (hn : F 1 = nI n) {bi : Nat → Option Nat} (hB : BiR n X bi) {car : Int32} {c : Nat} (hc0 : carI bi car = some c) : kx_S E Y_M_about [.ref (ma 0), .int car, .int (nI 5)] w (MX E w ma (up1 F 0 (nI 0)) A (some (.int (facM D c 5)))) := by
  refine kx_go (by decide) rfl rfl (Nat.le_of_ble_eq_true rfl) (kx_cc rfl (kx_cc rfl (kx_cc rfl kx_c0))) (fun z => ?_)
  have hO : kx_off w w mdlN := kx_off.rf
  have h24 := hX.1
  have hc := hB.c hc0
  have hd := hR.dis c hc
  have bd := (hD.2.2 c hc).1
  have bd24 := bd.1
  refine kx_aload_n d_M_about_0 rfl (by first | rfl | exact kx_rf _) ?_
  refine kx_iload_n d_M_about_1 rfl ?_
  refine kx_callV (as := [.int car]) (rest := []) d_M_about_2 v_M_97 rfl hM.1 rfl rfl (by decide) (by decide) (Nat.le_of_ble_eq_true rfl) (by decide) (by decide) rfl (m_M_findC hM hR hX hD hn hB hc0) (fun X w1 h => by cases h.1) (fun v w1 hq9 => ?_)
  obtain ⟨hv, hw9⟩ := hq9
  cases hv
  subst hw9
  refine kx_stk (st1 := [.int (nI c)]) rfl ?_
  refine kx_istore_n d_M_about_5 (by decide) ?_
  refine kx_aload_n d_M_about_6 rfl (by first | rfl | exact kx_rf _) ?_
  refine kx_iload_n d_M_about_7 rfl ?_
  refine kx_iconst (-1) d_M_about_8 (by decide) ?_
  refine kx_icmp_eq 16 d_M_about_9 (by decide) (fun h => absurd h (nI_m1 (by omega))) (fun _ => ?_)
  refine kx_iconst (nI 1) d_M_about_12 (by decide) ?_
  refine kx_goto 17 d_M_about_13 (by decide) ?_
  refine kx_iload_n d_M_about_17 rfl ?_
  refine kx_if_lt_n 31 d_M_about_18 (by decide) (by decide) ?_
  refine kx_iload_n d_M_about_21 rfl ?_
  refine kx_bipush (nI 11) d_M_about_22 (by decide) ?_
  first | refine kx_icmp_gt_n 31 d_M_about_24 (by decide) (by omega) (by omega) ?_ ?_ | refine kx_icmp_gt 31 d_M_about_24 (by decide) ?_ ?_
  · intro h24
    exact absurd h24 (by decide)
  · intro h24
    refine kx_iconst (nI 1) d_M_about_27 (by decide) ?_
    refine kx_goto 32 d_M_about_28 (by decide) ?_
    refine kx_iconst (nI 1) d_M_about_32 (by decide) ?_
    refine kx_callV (as := [.int (nI _), .int (nI _), .int (nI _)]) (rest := []) d_M_about_33 v_M_101 rfl hM.1 rfl rfl (by decide) (by decide) (Nat.le_of_ble_eq_true rfl) (by decide) (by decide) rfl (m_M_goes hM (by decide) (by decide) (by decide)) (fun X w1 h => by cases h.1) (fun v w hq9 => ?_)
    obtain ⟨hv, hM, hO9⟩ := hq9
    cases hv
    have hO := hO.tr hO9 (fun _ h => h) (fun _ h => h)
    refine kx_stk (st1 := [.int (nI 1)]) rfl ?_
    refine kx_if_ne_n 41 d_M_about_36 (by decide) (by decide) (fun _ => ?_) (fun h => absurd h (by decide))
    refine kx_aload_n d_M_about_41 rfl (by first | rfl | exact kx_rf _) ?_
    refine kx_iload_n d_M_about_42 rfl ?_
    refine kx_iload_n d_M_about_43 rfl ?_
    refine kx_callV (as := [.int (nI c), .int (nI c)]) (rest := []) d_M_about_44 v_M_135 rfl hM.1 rfl rfl (by decide) (by decide) (Nat.le_of_ble_eq_true rfl) (by decide) (by decide) rfl (m_M_place hM (by omega) (by omega) hd bd24 (fun v hv => by have := bd.2 v hv; omega)) (fun X w1 h => by cases h.1) (fun v w1 hq9 => ?_)
    obtain ⟨hv, hw9⟩ := hq9
    cases hv
    subst hw9
    refine kx_stk (st1 := [.int (plI c (dDi D c))]) rfl ?_
    refine kx_istore d_M_about_47 (by decide) ?_
    refine kx_iload_n d_M_about_49 rfl ?_
    refine kx_tabIn (off := 104) 154 d_M_about_50 (by decide) (by decide) (by decide) (by decide) ?_
    refine kx_aload_n d_M_about_154 rfl (by first | rfl | exact kx_rf _) ?_
    refine kx_get _ d_M_about_155 f_M_59 hM.1 (by rfl) ?_
    refine kx_iload_n d_M_about_158 rfl ?_
    refine kx_iald d_M_about_159 hM.a16 (by omega) (by decide) ?_
    rw [hR.chs c hc]
    refine kx_iret d_M_about_160 rfl (by decide) (by decide) ?_
    exact ⟨rfl, hM, hO⟩
set_option maxRecDepth 20000 in
set_option maxHeartbeats 4000000 in
theorem m_M_about_6 {E : kx_E} {w : va_W} {ma : Nat → Nat} {F : Nat → Int32} {A : Nat → Nat → Int32} (hM : Mdl E w ma F A) {n : Nat} {X : Fx} {D : Dy} (hR : ModR n X D A) (hX : WfX n X) (hD : WfD n D) (hn : F 1 = nI n) {bi : Nat → Option Nat} (hB : BiR n X bi) {car : Int32} {c : Nat} (hc0 : carI bi car = some c) : kx_S E Y_M_about [.ref (ma 0), .int car, .int (nI 6)] w (MX E w ma (up1 F 0 (nI 0)) A (some (.int (facM D c 6)))) := by
  refine kx_go (by decide) rfl rfl (Nat.le_of_ble_eq_true rfl) (kx_cc rfl (kx_cc rfl (kx_cc rfl kx_c0))) (fun z => ?_)
  have hO : kx_off w w mdlN := kx_off.rf
  have h24 := hX.1
  have hc := hB.c hc0
  have hd := hR.dis c hc
  have bd := (hD.2.2 c hc).1
  have bd24 := bd.1
  refine kx_aload_n d_M_about_0 rfl (by first | rfl | exact kx_rf _) ?_
  refine kx_iload_n d_M_about_1 rfl ?_
  refine kx_callV (as := [.int car]) (rest := []) d_M_about_2 v_M_97 rfl hM.1 rfl rfl (by decide) (by decide) (Nat.le_of_ble_eq_true rfl) (by decide) (by decide) rfl (m_M_findC hM hR hX hD hn hB hc0) (fun X w1 h => by cases h.1) (fun v w1 hq9 => ?_)
  obtain ⟨hv, hw9⟩ := hq9
  cases hv
  subst hw9
  refine kx_stk (st1 := [.int (nI c)]) rfl ?_
  refine kx_istore_n d_M_about_5 (by decide) ?_
  refine kx_aload_n d_M_about_6 rfl (by first | rfl | exact kx_rf _) ?_
  refine kx_iload_n d_M_about_7 rfl ?_
  refine kx_iconst (-1) d_M_about_8 (by decide) ?_
  refine kx_icmp_eq 16 d_M_about_9 (by decide) (fun h => absurd h (nI_m1 (by omega))) (fun _ => ?_)
  refine kx_iconst (nI 1) d_M_about_12 (by decide) ?_
  refine kx_goto 17 d_M_about_13 (by decide) ?_
  refine kx_iload_n d_M_about_17 rfl ?_
  refine kx_if_lt_n 31 d_M_about_18 (by decide) (by decide) ?_
  refine kx_iload_n d_M_about_21 rfl ?_
  refine kx_bipush (nI 11) d_M_about_22 (by decide) ?_
  first | refine kx_icmp_gt_n 31 d_M_about_24 (by decide) (by omega) (by omega) ?_ ?_ | refine kx_icmp_gt 31 d_M_about_24 (by decide) ?_ ?_
  · intro h24
    exact absurd h24 (by decide)
  · intro h24
    refine kx_iconst (nI 1) d_M_about_27 (by decide) ?_
    refine kx_goto 32 d_M_about_28 (by decide) ?_
    refine kx_iconst (nI 1) d_M_about_32 (by decide) ?_
    refine kx_callV (as := [.int (nI _), .int (nI _), .int (nI _)]) (rest := []) d_M_about_33 v_M_101 rfl hM.1 rfl rfl (by decide) (by decide) (Nat.le_of_ble_eq_true rfl) (by decide) (by decide) rfl (m_M_goes hM (by decide) (by decide) (by decide)) (fun X w1 h => by cases h.1) (fun v w hq9 => ?_)
    obtain ⟨hv, hM, hO9⟩ := hq9
    cases hv
    have hO := hO.tr hO9 (fun _ h => h) (fun _ h => h)
    refine kx_stk (st1 := [.int (nI 1)]) rfl ?_
    refine kx_if_ne_n 41 d_M_about_36 (by decide) (by decide) (fun _ => ?_) (fun h => absurd h (by decide))
    refine kx_aload_n d_M_about_41 rfl (by first | rfl | exact kx_rf _) ?_
    refine kx_iload_n d_M_about_42 rfl ?_
    refine kx_iload_n d_M_about_43 rfl ?_
    refine kx_callV (as := [.int (nI c), .int (nI c)]) (rest := []) d_M_about_44 v_M_135 rfl hM.1 rfl rfl (by decide) (by decide) (Nat.le_of_ble_eq_true rfl) (by decide) (by decide) rfl (m_M_place hM (by omega) (by omega) hd bd24 (fun v hv => by have := bd.2 v hv; omega)) (fun X w1 h => by cases h.1) (fun v w1 hq9 => ?_)
    obtain ⟨hv, hw9⟩ := hq9
    cases hv
    subst hw9
    refine kx_stk (st1 := [.int (plI c (dDi D c))]) rfl ?_
    refine kx_istore d_M_about_47 (by decide) ?_
    refine kx_iload_n d_M_about_49 rfl ?_
    refine kx_tabIn (off := 111) 161 d_M_about_50 (by decide) (by decide) (by decide) (by decide) ?_
    refine kx_aload_n d_M_about_161 rfl (by first | rfl | exact kx_rf _) ?_
    refine kx_get _ d_M_about_162 f_M_35 hM.1 (by rfl) ?_
    refine kx_iconst (nI 2) d_M_about_165 (by decide) ?_
    refine kx_iload_n d_M_about_166 rfl ?_
    first | refine kx_imul _ d_M_about_167 (pk_mul _ _) ?_ | refine kx_imul _ d_M_about_167 rfl ?_
    refine kx_iald d_M_about_168 hM.a8 (by omega) (by decide) ?_
    rw [hR.sis _ (by omega)]
    refine kx_iret d_M_about_169 rfl (by decide) (by decide) ?_
    exact ⟨rfl, hM, hO⟩
set_option maxRecDepth 20000 in
set_option maxHeartbeats 4000000 in
theorem m_M_about_7 {E : kx_E} {w : va_W} {ma : Nat → Nat} {F : Nat → Int32} {A : Nat → Nat → Int32} (hM : Mdl E w ma F A) {n : Nat} {X : Fx} {D : Dy} (hR : ModR n X D A) (hX : WfX n X) (hD : WfD n D) (hn : F 1 = nI n) {bi : Nat → Option Nat} (hB : BiR n X bi) {car : Int32} {c : Nat} (hc0 : carI bi car = some c) : kx_S E Y_M_about [.ref (ma 0), .int car, .int (nI 7)] w (MX E w ma (up1 F 0 (nI 0)) A (some (.int (facM D c 7)))) := by
  refine kx_go (by decide) rfl rfl (Nat.le_of_ble_eq_true rfl) (kx_cc rfl (kx_cc rfl (kx_cc rfl kx_c0))) (fun z => ?_)
  have hO : kx_off w w mdlN := kx_off.rf
  have h24 := hX.1
  have hc := hB.c hc0
  have hd := hR.dis c hc
  have bd := (hD.2.2 c hc).1
  have bd24 := bd.1
  refine kx_aload_n d_M_about_0 rfl (by first | rfl | exact kx_rf _) ?_
  refine kx_iload_n d_M_about_1 rfl ?_
  refine kx_callV (as := [.int car]) (rest := []) d_M_about_2 v_M_97 rfl hM.1 rfl rfl (by decide) (by decide) (Nat.le_of_ble_eq_true rfl) (by decide) (by decide) rfl (m_M_findC hM hR hX hD hn hB hc0) (fun X w1 h => by cases h.1) (fun v w1 hq9 => ?_)
  obtain ⟨hv, hw9⟩ := hq9
  cases hv
  subst hw9
  refine kx_stk (st1 := [.int (nI c)]) rfl ?_
  refine kx_istore_n d_M_about_5 (by decide) ?_
  refine kx_aload_n d_M_about_6 rfl (by first | rfl | exact kx_rf _) ?_
  refine kx_iload_n d_M_about_7 rfl ?_
  refine kx_iconst (-1) d_M_about_8 (by decide) ?_
  refine kx_icmp_eq 16 d_M_about_9 (by decide) (fun h => absurd h (nI_m1 (by omega))) (fun _ => ?_)
  refine kx_iconst (nI 1) d_M_about_12 (by decide) ?_
  refine kx_goto 17 d_M_about_13 (by decide) ?_
  refine kx_iload_n d_M_about_17 rfl ?_
  refine kx_if_lt_n 31 d_M_about_18 (by decide) (by decide) ?_
  refine kx_iload_n d_M_about_21 rfl ?_
  refine kx_bipush (nI 11) d_M_about_22 (by decide) ?_
  first | refine kx_icmp_gt_n 31 d_M_about_24 (by decide) (by omega) (by omega) ?_ ?_ | refine kx_icmp_gt 31 d_M_about_24 (by decide) ?_ ?_
  · intro h24
    exact absurd h24 (by decide)
  · intro h24
    refine kx_iconst (nI 1) d_M_about_27 (by decide) ?_
    refine kx_goto 32 d_M_about_28 (by decide) ?_
    refine kx_iconst (nI 1) d_M_about_32 (by decide) ?_
    refine kx_callV (as := [.int (nI _), .int (nI _), .int (nI _)]) (rest := []) d_M_about_33 v_M_101 rfl hM.1 rfl rfl (by decide) (by decide) (Nat.le_of_ble_eq_true rfl) (by decide) (by decide) rfl (m_M_goes hM (by decide) (by decide) (by decide)) (fun X w1 h => by cases h.1) (fun v w hq9 => ?_)
    obtain ⟨hv, hM, hO9⟩ := hq9
    cases hv
    have hO := hO.tr hO9 (fun _ h => h) (fun _ h => h)
    refine kx_stk (st1 := [.int (nI 1)]) rfl ?_
    refine kx_if_ne_n 41 d_M_about_36 (by decide) (by decide) (fun _ => ?_) (fun h => absurd h (by decide))
    refine kx_aload_n d_M_about_41 rfl (by first | rfl | exact kx_rf _) ?_
    refine kx_iload_n d_M_about_42 rfl ?_
    refine kx_iload_n d_M_about_43 rfl ?_
    refine kx_callV (as := [.int (nI c), .int (nI c)]) (rest := []) d_M_about_44 v_M_135 rfl hM.1 rfl rfl (by decide) (by decide) (Nat.le_of_ble_eq_true rfl) (by decide) (by decide) rfl (m_M_place hM (by omega) (by omega) hd bd24 (fun v hv => by have := bd.2 v hv; omega)) (fun X w1 h => by cases h.1) (fun v w1 hq9 => ?_)
    obtain ⟨hv, hw9⟩ := hq9
    cases hv
    subst hw9
    refine kx_stk (st1 := [.int (plI c (dDi D c))]) rfl ?_
    refine kx_istore d_M_about_47 (by decide) ?_
    refine kx_iload_n d_M_about_49 rfl ?_
    refine kx_tabIn (off := 120) 170 d_M_about_50 (by decide) (by decide) (by decide) (by decide) ?_
    refine kx_aload_n d_M_about_170 rfl (by first | rfl | exact kx_rf _) ?_
    refine kx_get _ d_M_about_171 f_M_35 hM.1 (by rfl) ?_
    refine kx_iconst (nI 2) d_M_about_174 (by decide) ?_
    refine kx_iload_n d_M_about_175 rfl ?_
    first | refine kx_imul _ d_M_about_176 (pk_mul _ _) ?_ | refine kx_imul _ d_M_about_176 rfl ?_
    refine kx_iconst (nI 1) d_M_about_177 (by decide) ?_
    first | refine kx_iadd _ d_M_about_178 (nI_add _ _) ?_ | refine kx_iadd _ d_M_about_178 rfl ?_
    refine kx_iald d_M_about_179 hM.a8 (by omega) (by decide) ?_
    rw [hR.sis _ (by omega)]
    refine kx_iret d_M_about_180 rfl (by decide) (by decide) ?_
    exact ⟨rfl, hM, hO⟩
set_option maxRecDepth 20000 in
set_option maxHeartbeats 4000000 in
theorem m_M_about_8 {E : kx_E} {w : va_W} {ma : Nat → Nat} {F : Nat → Int32} {A : Nat → Nat → Int32} (hM : Mdl E w ma F A) {n : Nat} {X : Fx} {D : Dy} (hR : ModR n X D A) (hX : WfX n X) (hD : WfD n D) (hn : F 1 = nI n) {bi : Nat → Option Nat} (hB : BiR n X bi) {car : Int32} {c : Nat} (hc0 : carI bi car = some c) : kx_S E Y_M_about [.ref (ma 0), .int car, .int (nI 8)] w (MX E w ma (up1 F 0 (nI 0)) A (some (.int (facM D c 8)))) := by
  refine kx_go (by decide) rfl rfl (Nat.le_of_ble_eq_true rfl) (kx_cc rfl (kx_cc rfl (kx_cc rfl kx_c0))) (fun z => ?_)
  have hO : kx_off w w mdlN := kx_off.rf
  have h24 := hX.1
  have hc := hB.c hc0
  have hd := hR.dis c hc
  have bd := (hD.2.2 c hc).1
  have bd24 := bd.1
  refine kx_aload_n d_M_about_0 rfl (by first | rfl | exact kx_rf _) ?_
  refine kx_iload_n d_M_about_1 rfl ?_
  refine kx_callV (as := [.int car]) (rest := []) d_M_about_2 v_M_97 rfl hM.1 rfl rfl (by decide) (by decide) (Nat.le_of_ble_eq_true rfl) (by decide) (by decide) rfl (m_M_findC hM hR hX hD hn hB hc0) (fun X w1 h => by cases h.1) (fun v w1 hq9 => ?_)
  obtain ⟨hv, hw9⟩ := hq9
  cases hv
  subst hw9
  refine kx_stk (st1 := [.int (nI c)]) rfl ?_
  refine kx_istore_n d_M_about_5 (by decide) ?_
  refine kx_aload_n d_M_about_6 rfl (by first | rfl | exact kx_rf _) ?_
  refine kx_iload_n d_M_about_7 rfl ?_
  refine kx_iconst (-1) d_M_about_8 (by decide) ?_
  refine kx_icmp_eq 16 d_M_about_9 (by decide) (fun h => absurd h (nI_m1 (by omega))) (fun _ => ?_)
  refine kx_iconst (nI 1) d_M_about_12 (by decide) ?_
  refine kx_goto 17 d_M_about_13 (by decide) ?_
  refine kx_iload_n d_M_about_17 rfl ?_
  refine kx_if_lt_n 31 d_M_about_18 (by decide) (by decide) ?_
  refine kx_iload_n d_M_about_21 rfl ?_
  refine kx_bipush (nI 11) d_M_about_22 (by decide) ?_
  first | refine kx_icmp_gt_n 31 d_M_about_24 (by decide) (by omega) (by omega) ?_ ?_ | refine kx_icmp_gt 31 d_M_about_24 (by decide) ?_ ?_
  · intro h24
    exact absurd h24 (by decide)
  · intro h24
    refine kx_iconst (nI 1) d_M_about_27 (by decide) ?_
    refine kx_goto 32 d_M_about_28 (by decide) ?_
    refine kx_iconst (nI 1) d_M_about_32 (by decide) ?_
    refine kx_callV (as := [.int (nI _), .int (nI _), .int (nI _)]) (rest := []) d_M_about_33 v_M_101 rfl hM.1 rfl rfl (by decide) (by decide) (Nat.le_of_ble_eq_true rfl) (by decide) (by decide) rfl (m_M_goes hM (by decide) (by decide) (by decide)) (fun X w1 h => by cases h.1) (fun v w hq9 => ?_)
    obtain ⟨hv, hM, hO9⟩ := hq9
    cases hv
    have hO := hO.tr hO9 (fun _ h => h) (fun _ h => h)
    refine kx_stk (st1 := [.int (nI 1)]) rfl ?_
    refine kx_if_ne_n 41 d_M_about_36 (by decide) (by decide) (fun _ => ?_) (fun h => absurd h (by decide))
    refine kx_aload_n d_M_about_41 rfl (by first | rfl | exact kx_rf _) ?_
    refine kx_iload_n d_M_about_42 rfl ?_
    refine kx_iload_n d_M_about_43 rfl ?_
    refine kx_callV (as := [.int (nI c), .int (nI c)]) (rest := []) d_M_about_44 v_M_135 rfl hM.1 rfl rfl (by decide) (by decide) (Nat.le_of_ble_eq_true rfl) (by decide) (by decide) rfl (m_M_place hM (by omega) (by omega) hd bd24 (fun v hv => by have := bd.2 v hv; omega)) (fun X w1 h => by cases h.1) (fun v w1 hq9 => ?_)
    obtain ⟨hv, hw9⟩ := hq9
    cases hv
    subst hw9
    refine kx_stk (st1 := [.int (plI c (dDi D c))]) rfl ?_
    refine kx_istore d_M_about_47 (by decide) ?_
    refine kx_iload_n d_M_about_49 rfl ?_
    refine kx_tabIn (off := 131) 181 d_M_about_50 (by decide) (by decide) (by decide) (by decide) ?_
    refine kx_aload_n d_M_about_181 rfl (by first | rfl | exact kx_rf _) ?_
    refine kx_get _ d_M_about_182 f_M_29 hM.1 (by rfl) ?_
    refine kx_iconst (nI 2) d_M_about_185 (by decide) ?_
    refine kx_iload_n d_M_about_186 rfl ?_
    first | refine kx_imul _ d_M_about_187 (pk_mul _ _) ?_ | refine kx_imul _ d_M_about_187 rfl ?_
    refine kx_iald d_M_about_188 hM.a6 (by omega) (by decide) ?_
    rw [(hR.vws _ (by omega)).1]
    refine kx_iret d_M_about_189 rfl (by decide) (by decide) ?_
    exact ⟨rfl, hM, hO⟩
set_option maxRecDepth 20000 in
set_option maxHeartbeats 4000000 in
theorem m_M_about_9 {E : kx_E} {w : va_W} {ma : Nat → Nat} {F : Nat → Int32} {A : Nat → Nat → Int32} (hM : Mdl E w ma F A) {n : Nat} {X : Fx} {D : Dy} (hR : ModR n X D A) (hX : WfX n X) (hD : WfD n D) (hn : F 1 = nI n) {bi : Nat → Option Nat} (hB : BiR n X bi) {car : Int32} {c : Nat} (hc0 : carI bi car = some c) : kx_S E Y_M_about [.ref (ma 0), .int car, .int (nI 9)] w (MX E w ma (up1 F 0 (nI 0)) A (some (.int (facM D c 9)))) := by
  refine kx_go (by decide) rfl rfl (Nat.le_of_ble_eq_true rfl) (kx_cc rfl (kx_cc rfl (kx_cc rfl kx_c0))) (fun z => ?_)
  have hO : kx_off w w mdlN := kx_off.rf
  have h24 := hX.1
  have hc := hB.c hc0
  have hd := hR.dis c hc
  have bd := (hD.2.2 c hc).1
  have bd24 := bd.1
  refine kx_aload_n d_M_about_0 rfl (by first | rfl | exact kx_rf _) ?_
  refine kx_iload_n d_M_about_1 rfl ?_
  refine kx_callV (as := [.int car]) (rest := []) d_M_about_2 v_M_97 rfl hM.1 rfl rfl (by decide) (by decide) (Nat.le_of_ble_eq_true rfl) (by decide) (by decide) rfl (m_M_findC hM hR hX hD hn hB hc0) (fun X w1 h => by cases h.1) (fun v w1 hq9 => ?_)
  obtain ⟨hv, hw9⟩ := hq9
  cases hv
  subst hw9
  refine kx_stk (st1 := [.int (nI c)]) rfl ?_
  refine kx_istore_n d_M_about_5 (by decide) ?_
  refine kx_aload_n d_M_about_6 rfl (by first | rfl | exact kx_rf _) ?_
  refine kx_iload_n d_M_about_7 rfl ?_
  refine kx_iconst (-1) d_M_about_8 (by decide) ?_
  refine kx_icmp_eq 16 d_M_about_9 (by decide) (fun h => absurd h (nI_m1 (by omega))) (fun _ => ?_)
  refine kx_iconst (nI 1) d_M_about_12 (by decide) ?_
  refine kx_goto 17 d_M_about_13 (by decide) ?_
  refine kx_iload_n d_M_about_17 rfl ?_
  refine kx_if_lt_n 31 d_M_about_18 (by decide) (by decide) ?_
  refine kx_iload_n d_M_about_21 rfl ?_
  refine kx_bipush (nI 11) d_M_about_22 (by decide) ?_
  first | refine kx_icmp_gt_n 31 d_M_about_24 (by decide) (by omega) (by omega) ?_ ?_ | refine kx_icmp_gt 31 d_M_about_24 (by decide) ?_ ?_
  · intro h24
    exact absurd h24 (by decide)
  · intro h24
    refine kx_iconst (nI 1) d_M_about_27 (by decide) ?_
    refine kx_goto 32 d_M_about_28 (by decide) ?_
    refine kx_iconst (nI 1) d_M_about_32 (by decide) ?_
    refine kx_callV (as := [.int (nI _), .int (nI _), .int (nI _)]) (rest := []) d_M_about_33 v_M_101 rfl hM.1 rfl rfl (by decide) (by decide) (Nat.le_of_ble_eq_true rfl) (by decide) (by decide) rfl (m_M_goes hM (by decide) (by decide) (by decide)) (fun X w1 h => by cases h.1) (fun v w hq9 => ?_)
    obtain ⟨hv, hM, hO9⟩ := hq9
    cases hv
    have hO := hO.tr hO9 (fun _ h => h) (fun _ h => h)
    refine kx_stk (st1 := [.int (nI 1)]) rfl ?_
    refine kx_if_ne_n 41 d_M_about_36 (by decide) (by decide) (fun _ => ?_) (fun h => absurd h (by decide))
    refine kx_aload_n d_M_about_41 rfl (by first | rfl | exact kx_rf _) ?_
    refine kx_iload_n d_M_about_42 rfl ?_
    refine kx_iload_n d_M_about_43 rfl ?_
    refine kx_callV (as := [.int (nI c), .int (nI c)]) (rest := []) d_M_about_44 v_M_135 rfl hM.1 rfl rfl (by decide) (by decide) (Nat.le_of_ble_eq_true rfl) (by decide) (by decide) rfl (m_M_place hM (by omega) (by omega) hd bd24 (fun v hv => by have := bd.2 v hv; omega)) (fun X w1 h => by cases h.1) (fun v w1 hq9 => ?_)
    obtain ⟨hv, hw9⟩ := hq9
    cases hv
    subst hw9
    refine kx_stk (st1 := [.int (plI c (dDi D c))]) rfl ?_
    refine kx_istore d_M_about_47 (by decide) ?_
    refine kx_iload_n d_M_about_49 rfl ?_
    refine kx_tabIn (off := 140) 190 d_M_about_50 (by decide) (by decide) (by decide) (by decide) ?_
    refine kx_aload_n d_M_about_190 rfl (by first | rfl | exact kx_rf _) ?_
    refine kx_get _ d_M_about_191 f_M_29 hM.1 (by rfl) ?_
    refine kx_iconst (nI 2) d_M_about_194 (by decide) ?_
    refine kx_iload_n d_M_about_195 rfl ?_
    first | refine kx_imul _ d_M_about_196 (pk_mul _ _) ?_ | refine kx_imul _ d_M_about_196 rfl ?_
    refine kx_iconst (nI 1) d_M_about_197 (by decide) ?_
    first | refine kx_iadd _ d_M_about_198 (nI_add _ _) ?_ | refine kx_iadd _ d_M_about_198 rfl ?_
    refine kx_iald d_M_about_199 hM.a6 (by omega) (by decide) ?_
    rw [(hR.vws _ (by omega)).1]
    refine kx_iret d_M_about_200 rfl (by decide) (by decide) ?_
    exact ⟨rfl, hM, hO⟩
set_option maxRecDepth 20000 in
set_option maxHeartbeats 4000000 in
theorem m_M_about_10 {E : kx_E} {w : va_W} {ma : Nat → Nat} {F : Nat → Int32} {A : Nat → Nat → Int32} (hM : Mdl E w ma F A) {n : Nat} {X : Fx} {D : Dy} (hR : ModR n X D A) (hX : WfX n X) (hD : WfD n D) (hn : F 1 = nI n) {bi : Nat → Option Nat} (hB : BiR n X bi) {car : Int32} {c : Nat} (hc0 : carI bi car = some c) : kx_S E Y_M_about [.ref (ma 0), .int car, .int (nI 10)] w (MX E w ma (up1 F 0 (nI 0)) A (some (.int (facM D c 10)))) := by
  refine kx_go (by decide) rfl rfl (Nat.le_of_ble_eq_true rfl) (kx_cc rfl (kx_cc rfl (kx_cc rfl kx_c0))) (fun z => ?_)
  have hO : kx_off w w mdlN := kx_off.rf
  have h24 := hX.1
  have hc := hB.c hc0
  have hd := hR.dis c hc
  have bd := (hD.2.2 c hc).1
  have bd24 := bd.1
  have hw := hR.whs (2 * c + 0) (by omega)
  have bw := (hD.1 (2 * c + 0) (by omega)).2.1
  refine kx_aload_n d_M_about_0 rfl (by first | rfl | exact kx_rf _) ?_
  refine kx_iload_n d_M_about_1 rfl ?_
  refine kx_callV (as := [.int car]) (rest := []) d_M_about_2 v_M_97 rfl hM.1 rfl rfl (by decide) (by decide) (Nat.le_of_ble_eq_true rfl) (by decide) (by decide) rfl (m_M_findC hM hR hX hD hn hB hc0) (fun X w1 h => by cases h.1) (fun v w1 hq9 => ?_)
  obtain ⟨hv, hw9⟩ := hq9
  cases hv
  subst hw9
  refine kx_stk (st1 := [.int (nI c)]) rfl ?_
  refine kx_istore_n d_M_about_5 (by decide) ?_
  refine kx_aload_n d_M_about_6 rfl (by first | rfl | exact kx_rf _) ?_
  refine kx_iload_n d_M_about_7 rfl ?_
  refine kx_iconst (-1) d_M_about_8 (by decide) ?_
  refine kx_icmp_eq 16 d_M_about_9 (by decide) (fun h => absurd h (nI_m1 (by omega))) (fun _ => ?_)
  refine kx_iconst (nI 1) d_M_about_12 (by decide) ?_
  refine kx_goto 17 d_M_about_13 (by decide) ?_
  refine kx_iload_n d_M_about_17 rfl ?_
  refine kx_if_lt_n 31 d_M_about_18 (by decide) (by decide) ?_
  refine kx_iload_n d_M_about_21 rfl ?_
  refine kx_bipush (nI 11) d_M_about_22 (by decide) ?_
  first | refine kx_icmp_gt_n 31 d_M_about_24 (by decide) (by omega) (by omega) ?_ ?_ | refine kx_icmp_gt 31 d_M_about_24 (by decide) ?_ ?_
  · intro h24
    exact absurd h24 (by decide)
  · intro h24
    refine kx_iconst (nI 1) d_M_about_27 (by decide) ?_
    refine kx_goto 32 d_M_about_28 (by decide) ?_
    refine kx_iconst (nI 1) d_M_about_32 (by decide) ?_
    refine kx_callV (as := [.int (nI _), .int (nI _), .int (nI _)]) (rest := []) d_M_about_33 v_M_101 rfl hM.1 rfl rfl (by decide) (by decide) (Nat.le_of_ble_eq_true rfl) (by decide) (by decide) rfl (m_M_goes hM (by decide) (by decide) (by decide)) (fun X w1 h => by cases h.1) (fun v w hq9 => ?_)
    obtain ⟨hv, hM, hO9⟩ := hq9
    cases hv
    have hO := hO.tr hO9 (fun _ h => h) (fun _ h => h)
    refine kx_stk (st1 := [.int (nI 1)]) rfl ?_
    refine kx_if_ne_n 41 d_M_about_36 (by decide) (by decide) (fun _ => ?_) (fun h => absurd h (by decide))
    refine kx_aload_n d_M_about_41 rfl (by first | rfl | exact kx_rf _) ?_
    refine kx_iload_n d_M_about_42 rfl ?_
    refine kx_iload_n d_M_about_43 rfl ?_
    refine kx_callV (as := [.int (nI c), .int (nI c)]) (rest := []) d_M_about_44 v_M_135 rfl hM.1 rfl rfl (by decide) (by decide) (Nat.le_of_ble_eq_true rfl) (by decide) (by decide) rfl (m_M_place hM (by omega) (by omega) hd bd24 (fun v hv => by have := bd.2 v hv; omega)) (fun X w1 h => by cases h.1) (fun v w1 hq9 => ?_)
    obtain ⟨hv, hw9⟩ := hq9
    cases hv
    subst hw9
    refine kx_stk (st1 := [.int (plI c (dDi D c))]) rfl ?_
    refine kx_istore d_M_about_47 (by decide) ?_
    refine kx_iload_n d_M_about_49 rfl ?_
    refine kx_tabOut 201 d_M_about_50 (by decide) (by decide) ?_
    refine kx_aload_n d_M_about_201 rfl (by first | rfl | exact kx_rf _) ?_
    refine kx_get _ d_M_about_202 f_M_32 hM.1 (by rfl) ?_
    refine kx_iconst (nI 2) d_M_about_205 (by decide) ?_
    refine kx_iload_n d_M_about_206 rfl ?_
    first | refine kx_imul _ d_M_about_207 (pk_mul _ _) ?_ | refine kx_imul _ d_M_about_207 rfl ?_
    refine kx_iload_n d_M_about_208 rfl ?_
    first | refine kx_iadd _ d_M_about_209 (nI_add _ _) ?_ | refine kx_iadd _ d_M_about_209 rfl ?_
    refine kx_bipush (nI 10) d_M_about_210 (by decide) ?_
    refine kx_isub _ d_M_about_212 (pk_sub (by omega)) ?_
    refine kx_zald d_M_about_213 hM.a7 (by omega) (by decide) ?_
    rw [show 2 * c + 10 - 10 = 2 * c + 0 by omega, hw]
    first | refine kx_if_eq_n 221 d_M_about_214 (by decide) (by omega) ?_ ?_ | refine kx_if_eq 221 d_M_about_214 (by decide) ?_ ?_
    · intro h214
      refine kx_iconst (nI 0) d_M_about_221 (by decide) ?_
      refine kx_iret d_M_about_222 rfl (by decide) (by decide) ?_
      have e7 : facM D c 10 = nI (dWh D (2 * c + 0)) := rfl
      rw [e7]
      first
        | (rw [show dWh D (2 * c + 0) = 0 by omega]; exact ⟨rfl, hM, hO⟩)
        | (rw [show dWh D (2 * c + 0) = 1 by omega]; exact ⟨rfl, hM, hO⟩)
    · intro h214
      refine kx_iconst (nI 1) d_M_about_217 (by decide) ?_
      refine kx_goto 222 d_M_about_218 (by decide) ?_
      refine kx_iret d_M_about_222 rfl (by decide) (by decide) ?_
      have e7 : facM D c 10 = nI (dWh D (2 * c + 0)) := rfl
      rw [e7]
      first
        | (rw [show dWh D (2 * c + 0) = 0 by omega]; exact ⟨rfl, hM, hO⟩)
        | (rw [show dWh D (2 * c + 0) = 1 by omega]; exact ⟨rfl, hM, hO⟩)
set_option maxRecDepth 20000 in
set_option maxHeartbeats 4000000 in
theorem m_M_about_11 {E : kx_E} {w : va_W} {ma : Nat → Nat} {F : Nat → Int32} {A : Nat → Nat → Int32} (hM : Mdl E w ma F A) {n : Nat} {X : Fx} {D : Dy} (hR : ModR n X D A) (hX : WfX n X) (hD : WfD n D) (hn : F 1 = nI n) {bi : Nat → Option Nat} (hB : BiR n X bi) {car : Int32} {c : Nat} (hc0 : carI bi car = some c) : kx_S E Y_M_about [.ref (ma 0), .int car, .int (nI 11)] w (MX E w ma (up1 F 0 (nI 0)) A (some (.int (facM D c 11)))) := by
  refine kx_go (by decide) rfl rfl (Nat.le_of_ble_eq_true rfl) (kx_cc rfl (kx_cc rfl (kx_cc rfl kx_c0))) (fun z => ?_)
  have hO : kx_off w w mdlN := kx_off.rf
  have h24 := hX.1
  have hc := hB.c hc0
  have hd := hR.dis c hc
  have bd := (hD.2.2 c hc).1
  have bd24 := bd.1
  have hw := hR.whs (2 * c + 1) (by omega)
  have bw := (hD.1 (2 * c + 1) (by omega)).2.1
  refine kx_aload_n d_M_about_0 rfl (by first | rfl | exact kx_rf _) ?_
  refine kx_iload_n d_M_about_1 rfl ?_
  refine kx_callV (as := [.int car]) (rest := []) d_M_about_2 v_M_97 rfl hM.1 rfl rfl (by decide) (by decide) (Nat.le_of_ble_eq_true rfl) (by decide) (by decide) rfl (m_M_findC hM hR hX hD hn hB hc0) (fun X w1 h => by cases h.1) (fun v w1 hq9 => ?_)
  obtain ⟨hv, hw9⟩ := hq9
  cases hv
  subst hw9
  refine kx_stk (st1 := [.int (nI c)]) rfl ?_
  refine kx_istore_n d_M_about_5 (by decide) ?_
  refine kx_aload_n d_M_about_6 rfl (by first | rfl | exact kx_rf _) ?_
  refine kx_iload_n d_M_about_7 rfl ?_
  refine kx_iconst (-1) d_M_about_8 (by decide) ?_
  refine kx_icmp_eq 16 d_M_about_9 (by decide) (fun h => absurd h (nI_m1 (by omega))) (fun _ => ?_)
  refine kx_iconst (nI 1) d_M_about_12 (by decide) ?_
  refine kx_goto 17 d_M_about_13 (by decide) ?_
  refine kx_iload_n d_M_about_17 rfl ?_
  refine kx_if_lt_n 31 d_M_about_18 (by decide) (by decide) ?_
  refine kx_iload_n d_M_about_21 rfl ?_
  refine kx_bipush (nI 11) d_M_about_22 (by decide) ?_
  first | refine kx_icmp_gt_n 31 d_M_about_24 (by decide) (by omega) (by omega) ?_ ?_ | refine kx_icmp_gt 31 d_M_about_24 (by decide) ?_ ?_
  · intro h24
    exact absurd h24 (by decide)
  · intro h24
    refine kx_iconst (nI 1) d_M_about_27 (by decide) ?_
    refine kx_goto 32 d_M_about_28 (by decide) ?_
    refine kx_iconst (nI 1) d_M_about_32 (by decide) ?_
    refine kx_callV (as := [.int (nI _), .int (nI _), .int (nI _)]) (rest := []) d_M_about_33 v_M_101 rfl hM.1 rfl rfl (by decide) (by decide) (Nat.le_of_ble_eq_true rfl) (by decide) (by decide) rfl (m_M_goes hM (by decide) (by decide) (by decide)) (fun X w1 h => by cases h.1) (fun v w hq9 => ?_)
    obtain ⟨hv, hM, hO9⟩ := hq9
    cases hv
    have hO := hO.tr hO9 (fun _ h => h) (fun _ h => h)
    refine kx_stk (st1 := [.int (nI 1)]) rfl ?_
    refine kx_if_ne_n 41 d_M_about_36 (by decide) (by decide) (fun _ => ?_) (fun h => absurd h (by decide))
    refine kx_aload_n d_M_about_41 rfl (by first | rfl | exact kx_rf _) ?_
    refine kx_iload_n d_M_about_42 rfl ?_
    refine kx_iload_n d_M_about_43 rfl ?_
    refine kx_callV (as := [.int (nI c), .int (nI c)]) (rest := []) d_M_about_44 v_M_135 rfl hM.1 rfl rfl (by decide) (by decide) (Nat.le_of_ble_eq_true rfl) (by decide) (by decide) rfl (m_M_place hM (by omega) (by omega) hd bd24 (fun v hv => by have := bd.2 v hv; omega)) (fun X w1 h => by cases h.1) (fun v w1 hq9 => ?_)
    obtain ⟨hv, hw9⟩ := hq9
    cases hv
    subst hw9
    refine kx_stk (st1 := [.int (plI c (dDi D c))]) rfl ?_
    refine kx_istore d_M_about_47 (by decide) ?_
    refine kx_iload_n d_M_about_49 rfl ?_
    refine kx_tabOut 201 d_M_about_50 (by decide) (by decide) ?_
    refine kx_aload_n d_M_about_201 rfl (by first | rfl | exact kx_rf _) ?_
    refine kx_get _ d_M_about_202 f_M_32 hM.1 (by rfl) ?_
    refine kx_iconst (nI 2) d_M_about_205 (by decide) ?_
    refine kx_iload_n d_M_about_206 rfl ?_
    first | refine kx_imul _ d_M_about_207 (pk_mul _ _) ?_ | refine kx_imul _ d_M_about_207 rfl ?_
    refine kx_iload_n d_M_about_208 rfl ?_
    first | refine kx_iadd _ d_M_about_209 (nI_add _ _) ?_ | refine kx_iadd _ d_M_about_209 rfl ?_
    refine kx_bipush (nI 10) d_M_about_210 (by decide) ?_
    refine kx_isub _ d_M_about_212 (pk_sub (by omega)) ?_
    refine kx_zald d_M_about_213 hM.a7 (by omega) (by decide) ?_
    rw [show 2 * c + 11 - 10 = 2 * c + 1 by omega, hw]
    first | refine kx_if_eq_n 221 d_M_about_214 (by decide) (by omega) ?_ ?_ | refine kx_if_eq 221 d_M_about_214 (by decide) ?_ ?_
    · intro h214
      refine kx_iconst (nI 0) d_M_about_221 (by decide) ?_
      refine kx_iret d_M_about_222 rfl (by decide) (by decide) ?_
      have e7 : facM D c 11 = nI (dWh D (2 * c + 1)) := rfl
      rw [e7]
      first
        | (rw [show dWh D (2 * c + 1) = 0 by omega]; exact ⟨rfl, hM, hO⟩)
        | (rw [show dWh D (2 * c + 1) = 1 by omega]; exact ⟨rfl, hM, hO⟩)
    · intro h214
      refine kx_iconst (nI 1) d_M_about_217 (by decide) ?_
      refine kx_goto 222 d_M_about_218 (by decide) ?_
      refine kx_iret d_M_about_222 rfl (by decide) (by decide) ?_
      have e7 : facM D c 11 = nI (dWh D (2 * c + 1)) := rfl
      rw [e7]
      first
        | (rw [show dWh D (2 * c + 1) = 0 by omega]; exact ⟨rfl, hM, hO⟩)
        | (rw [show dWh D (2 * c + 1) = 1 by omega]; exact ⟨rfl, hM, hO⟩)
theorem m_M_about {E : kx_E} {w : va_W} {ma : Nat → Nat} {F : Nat → Int32} {A : Nat → Nat → Int32} (hM : Mdl E w ma F A) {n : Nat} {X : Fx} {D : Dy} (hR : ModR n X D A) (hX : WfX n X) (hD : WfD n D) (hn : F 1 = nI n) {bi : Nat → Option Nat} (hB : BiR n X bi) {car : Int32} {c k : Nat} (hc0 : carI bi car = some c) (hk : k < 12) : kx_S E Y_M_about [.ref (ma 0), .int car, .int (nI k)] w (MX E w ma (up1 F 0 (nI 0)) A (some (.int (facM D c k)))) := by
  have h : k = 0 ∨ k = 1 ∨ k = 2 ∨ k = 3 ∨ k = 4 ∨ k = 5 ∨ k = 6 ∨ k = 7 ∨ k = 8 ∨ k = 9 ∨ k = 10 ∨ k = 11 := by omega
  rcases h with rfl | rfl | rfl | rfl | rfl | rfl | rfl | rfl | rfl | rfl | rfl | rfl
  · exact m_M_about_0 hM hR hX hD hn hB hc0
  · exact m_M_about_1 hM hR hX hD hn hB hc0
  · exact m_M_about_2 hM hR hX hD hn hB hc0
  · exact m_M_about_3 hM hR hX hD hn hB hc0
  · exact m_M_about_4 hM hR hX hD hn hB hc0
  · exact m_M_about_5 hM hR hX hD hn hB hc0
  · exact m_M_about_6 hM hR hX hD hn hB hc0
  · exact m_M_about_7 hM hR hX hD hn hB hc0
  · exact m_M_about_8 hM hR hX hD hn hB hc0
  · exact m_M_about_9 hM hR hX hD hn hB hc0
  · exact m_M_about_10 hM hR hX hD hn hB hc0
  · exact m_M_about_11 hM hR hX hD hn hB hc0
theorem d_M_order_0 : decode c_M_order 0 = .ok (.aload_n 0, 1) := by decide +kernel
theorem d_M_order_1 : decode c_M_order 1 = .ok (.iload_n 1, 1) := by decide +kernel
theorem d_M_order_2 : decode c_M_order 2 = .ok (.invokevirtual 97, 3) := by decide +kernel
theorem d_M_order_5 : decode c_M_order 5 = .ok (.istore_n 3, 1) := by decide +kernel
theorem d_M_order_6 : decode c_M_order 6 = .ok (.aload_n 0, 1) := by decide +kernel
theorem d_M_order_7 : decode c_M_order 7 = .ok (.iload_n 3, 1) := by decide +kernel
theorem d_M_order_8 : decode c_M_order 8 = .ok (.iconst (-1), 1) := by decide +kernel
theorem d_M_order_9 : decode c_M_order 9 = .ok (.if_icmp .eq 7, 3) := by decide +kernel
theorem d_M_order_12 : decode c_M_order 12 = .ok (.iconst 1, 1) := by decide +kernel
theorem d_M_order_13 : decode c_M_order 13 = .ok (.goto 4, 3) := by decide +kernel
theorem d_M_order_16 : decode c_M_order 16 = .ok (.iconst 0, 1) := by decide +kernel
theorem d_M_order_17 : decode c_M_order 17 = .ok (.iconst 1, 1) := by decide +kernel
theorem d_M_order_18 : decode c_M_order 18 = .ok (.iconst 1, 1) := by decide +kernel
theorem d_M_order_19 : decode c_M_order 19 = .ok (.invokevirtual 101, 3) := by decide +kernel
theorem d_M_order_22 : decode c_M_order 22 = .ok (.ifCond .ne 5, 3) := by decide +kernel
theorem d_M_order_25 : decode c_M_order 25 = .ok (.iconst 0, 1) := by decide +kernel
theorem d_M_order_26 : decode c_M_order 26 = .ok (.ireturn, 1) := by decide +kernel
theorem d_M_order_27 : decode c_M_order 27 = .ok (.aload_n 0, 1) := by decide +kernel
theorem d_M_order_28 : decode c_M_order 28 = .ok (.iload_n 3, 1) := by decide +kernel
theorem d_M_order_29 : decode c_M_order 29 = .ok (.invokevirtual 112, 3) := by decide +kernel
theorem d_M_order_32 : decode c_M_order 32 = .ok (.istore 4, 2) := by decide +kernel
theorem d_M_order_34 : decode c_M_order 34 = .ok (.iload_n 2, 1) := by decide +kernel
theorem d_M_order_35 : decode c_M_order 35 = .ok (.iconst 1, 1) := by decide +kernel
theorem d_M_order_36 : decode c_M_order 36 = .ok (.if_icmp .lt 9, 3) := by decide +kernel
theorem d_M_order_39 : decode c_M_order 39 = .ok (.iload_n 2, 1) := by decide +kernel
theorem d_M_order_40 : decode c_M_order 40 = .ok (.iload 4, 2) := by decide +kernel
theorem d_M_order_42 : decode c_M_order 42 = .ok (.if_icmp .le 7, 3) := by decide +kernel
theorem d_M_order_45 : decode c_M_order 45 = .ok (.iconst (-1), 1) := by decide +kernel
theorem d_M_order_46 : decode c_M_order 46 = .ok (.goto 18, 3) := by decide +kernel
theorem d_M_order_49 : decode c_M_order 49 = .ok (.aload_n 0, 1) := by decide +kernel
theorem d_M_order_50 : decode c_M_order 50 = .ok (.getfield 7, 3) := by decide +kernel
theorem d_M_order_53 : decode c_M_order 53 = .ok (.aload_n 0, 1) := by decide +kernel
theorem d_M_order_54 : decode c_M_order 54 = .ok (.getfield 86, 3) := by decide +kernel
theorem d_M_order_57 : decode c_M_order 57 = .ok (.iload_n 2, 1) := by decide +kernel
theorem d_M_order_58 : decode c_M_order 58 = .ok (.iconst 1, 1) := by decide +kernel
theorem d_M_order_59 : decode c_M_order 59 = .ok (.isub, 1) := by decide +kernel
theorem d_M_order_60 : decode c_M_order 60 = .ok (.iaload, 1) := by decide +kernel
theorem d_M_order_61 : decode c_M_order 61 = .ok (.iconst 2, 1) := by decide +kernel
theorem d_M_order_62 : decode c_M_order 62 = .ok (.idiv, 1) := by decide +kernel
theorem d_M_order_63 : decode c_M_order 63 = .ok (.iaload, 1) := by decide +kernel
theorem d_M_order_64 : decode c_M_order 64 = .ok (.ireturn, 1) := by decide +kernel
set_option maxRecDepth 20000 in
set_option maxHeartbeats 4000000 in
theorem m_M_order_no {E : kx_E} {w : va_W} {ma : Nat → Nat} {F : Nat → Int32} {A : Nat → Nat → Int32} (hM : Mdl E w ma F A) {n : Nat} {X : Fx} {D : Dy} (hR : ModR n X D A) (hX : WfX n X) (hD : WfD n D) (hn : F 1 = nI n) {bi : Nat → Option Nat} (hB : BiR n X bi) {car v : Int32} (hc0 : carI bi car = none) : kx_S E Y_M_order [.ref (ma 0), .int car, .int v] w (MX E w ma (up1 F 0 (nI 1)) A (some (.int (nI 0)))) := by
  refine kx_go (by decide) rfl rfl (Nat.le_of_ble_eq_true rfl) (kx_cc rfl (kx_cc rfl (kx_cc rfl kx_c0))) (fun z => ?_)
  have hO : kx_off w w mdlN := kx_off.rf
  have h24 := hX.1
  refine kx_aload_n d_M_order_0 rfl (by first | rfl | exact kx_rf _) ?_
  refine kx_iload_n d_M_order_1 rfl ?_
  refine kx_callV (as := [.int car]) (rest := []) d_M_order_2 v_M_97 rfl hM.1 rfl rfl (by decide) (by decide) (Nat.le_of_ble_eq_true rfl) (by decide) (by decide) rfl (m_M_findN hM hR hX hD hn hB hc0) (fun X w1 h => by cases h.1) (fun v w1 hq9 => ?_)
  obtain ⟨hv, hw9⟩ := hq9
  cases hv
  subst hw9
  refine kx_stk (st1 := [.int (-1)]) rfl ?_
  refine kx_istore_n d_M_order_5 (by decide) ?_
  refine kx_aload_n d_M_order_6 rfl (by first | rfl | exact kx_rf _) ?_
  refine kx_iload_n d_M_order_7 rfl ?_
  refine kx_iconst (-1) d_M_order_8 (by decide) ?_
  refine kx_icmp_eq 16 d_M_order_9 (by decide) (fun _ => ?_) (fun h => absurd rfl h)
  refine kx_iconst (nI 0) d_M_order_16 (by decide) ?_
  refine kx_iconst (nI 1) d_M_order_17 (by decide) ?_
  refine kx_iconst (nI 1) d_M_order_18 (by decide) ?_
  refine kx_callV (as := [.int (nI _), .int (nI _), .int (nI _)]) (rest := []) d_M_order_19 v_M_101 rfl hM.1 rfl rfl (by decide) (by decide) (Nat.le_of_ble_eq_true rfl) (by decide) (by decide) rfl (m_M_goes hM (by decide) (by decide) (by decide)) (fun X w1 h => by cases h.1) (fun v w hq9 => ?_)
  obtain ⟨hv, hM, hO9⟩ := hq9
  cases hv
  have hO := hO.tr hO9 (fun _ h => h) (fun _ h => h)
  refine kx_stk (st1 := [.int (nI 0)]) rfl ?_
  refine kx_if_ne_n 27 d_M_order_22 (by decide) (by decide) (fun h => absurd rfl h) (fun _ => ?_)
  refine kx_iconst (nI 0) d_M_order_25 (by decide) ?_
  refine kx_iret d_M_order_26 rfl (by decide) (by decide) ?_
  exact ⟨rfl, hM, hO⟩
set_option maxRecDepth 20000 in
set_option maxHeartbeats 4000000 in
theorem m_M_order {E : kx_E} {w : va_W} {ma : Nat → Nat} {F : Nat → Int32} {A : Nat → Nat → Int32} (hM : Mdl E w ma F A) {n : Nat} {X : Fx} {D : Dy} (hR : ModR n X D A) (hX : WfX n X) (hD : WfD n D) (hn : F 1 = nI n) {bi : Nat → Option Nat} (hB : BiR n X bi) (hY : Acy n X) {car : Int32} {c j : Nat} (hc0 : carI bi car = some c) (hj : j < (trR X c).length) : kx_S E Y_M_order [.ref (ma 0), .int car, .int (nI (j + 1))] w (MP E w ma (up1 F 0 (nI 0)) (fun A1 => lnO A A1) (some (.int (nI (xId X ((trR X c).getD j 0 / 2)))))) := by
  refine kx_go (by decide) rfl rfl (Nat.le_of_ble_eq_true rfl) (kx_cc rfl (kx_cc rfl (kx_cc rfl kx_c0))) (fun z => ?_)
  have hO : kx_off w w mdlN := kx_off.rf
  have h24 := hX.1
  have hc := hB.c hc0
  have ht24 := trR_24 X c
  have hb := trR_lt hX hc _ (row_get (trR X c) hj)
  refine kx_aload_n d_M_order_0 rfl (by first | rfl | exact kx_rf _) ?_
  refine kx_iload_n d_M_order_1 rfl ?_
  refine kx_callV (as := [.int car]) (rest := []) d_M_order_2 v_M_97 rfl hM.1 rfl rfl (by decide) (by decide) (Nat.le_of_ble_eq_true rfl) (by decide) (by decide) rfl (m_M_findC hM hR hX hD hn hB hc0) (fun X w1 h => by cases h.1) (fun v w1 hq9 => ?_)
  obtain ⟨hv, hw9⟩ := hq9
  cases hv
  subst hw9
  refine kx_stk (st1 := [.int (nI c)]) rfl ?_
  refine kx_istore_n d_M_order_5 (by decide) ?_
  refine kx_aload_n d_M_order_6 rfl (by first | rfl | exact kx_rf _) ?_
  refine kx_iload_n d_M_order_7 rfl ?_
  refine kx_iconst (-1) d_M_order_8 (by decide) ?_
  refine kx_icmp_eq 16 d_M_order_9 (by decide) (fun h => absurd h (nI_m1 (by omega))) (fun _ => ?_)
  refine kx_iconst (nI 1) d_M_order_12 (by decide) ?_
  refine kx_goto 17 d_M_order_13 (by decide) ?_
  refine kx_iconst (nI 1) d_M_order_17 (by decide) ?_
  refine kx_iconst (nI 1) d_M_order_18 (by decide) ?_
  refine kx_callV (as := [.int (nI _), .int (nI _), .int (nI _)]) (rest := []) d_M_order_19 v_M_101 rfl hM.1 rfl rfl (by decide) (by decide) (Nat.le_of_ble_eq_true rfl) (by decide) (by decide) rfl (m_M_goes hM (by decide) (by decide) (by decide)) (fun X w1 h => by cases h.1) (fun v w hq9 => ?_)
  obtain ⟨hv, hM, hO9⟩ := hq9
  cases hv
  have hO := hO.tr hO9 (fun _ h => h) (fun _ h => h)
  refine kx_stk (st1 := [.int (nI 1)]) rfl ?_
  refine kx_if_ne_n 27 d_M_order_22 (by decide) (by decide) (fun _ => ?_) (fun h => absurd h (by decide))
  refine kx_aload_n d_M_order_27 rfl (by first | rfl | exact kx_rf _) ?_
  refine kx_iload_n d_M_order_28 rfl ?_
  refine kx_callV (as := [.int (nI c)]) (rest := []) d_M_order_29 v_M_112 rfl hM.1 rfl rfl (by decide) (by decide) (Nat.le_of_ble_eq_true rfl) (by decide) (by decide) rfl (m_M_run hM hR hX hD (by rw [up1_n (by decide)]; exact hn) hY hc) (fun X w1 h => by cases h.1) (fun v w hq9 => ?_)
  obtain ⟨hv, A1, hM, hP9, hO9⟩ := hq9
  cases hv
  have hO := hO.tr hO9 (fun _ h => h) (fun _ h => h)
  refine kx_stk (st1 := [.int (nI (trR X c).length)]) rfl ?_
  refine kx_istore d_M_order_32 (by decide) ?_
  refine kx_iload_n d_M_order_34 rfl ?_
  refine kx_iconst (nI 1) d_M_order_35 (by decide) ?_
  first | refine kx_icmp_lt_n 45 d_M_order_36 (by decide) (by omega) (by omega) ?_ ?_ | refine kx_icmp_lt 45 d_M_order_36 (by decide) ?_ ?_
  · intro h36
    first
      | exact absurd h36 (by omega)
      | exact absurd h42 (by omega)
  · intro h36
    refine kx_iload_n d_M_order_39 rfl ?_
    refine kx_iload d_M_order_40 rfl ?_
    first | refine kx_icmp_le_n 49 d_M_order_42 (by decide) (by omega) (by omega) ?_ ?_ | refine kx_icmp_le 49 d_M_order_42 (by decide) ?_ ?_
    · intro h42
      refine kx_aload_n d_M_order_49 rfl (by first | rfl | exact kx_rf _) ?_
      refine kx_get _ d_M_order_50 f_M_7 hM.1 (by rfl) ?_
      refine kx_aload_n d_M_order_53 rfl (by first | rfl | exact kx_rf _) ?_
      refine kx_get _ d_M_order_54 f_M_86 hM.1 (by rfl) ?_
      refine kx_iload_n d_M_order_57 rfl ?_
      refine kx_iconst (nI 1) d_M_order_58 (by decide) ?_
      refine kx_isub _ d_M_order_59 (pk_sub (by omega)) ?_
      refine kx_iald d_M_order_60 hM.a25 (by omega) (by decide) ?_
      rw [show j + 1 - 1 = j by omega, hP9.2 j hj]
      refine kx_iconst (nI 2) d_M_order_61 (by decide) ?_
      refine kx_idiv _ d_M_order_62 (by decide) (pk_div (by omega) (by omega) (by omega)) ?_
      refine kx_iald d_M_order_63 hM.a0 (by omega) (by decide) ?_
      rw [hP9.1 0 (by decide) (by decide), hR.ids _ (by omega)]
      refine kx_iret d_M_order_64 rfl (by decide) (by decide) ?_
      exact ⟨rfl, A1, hM, hP9.1, hO⟩
    · intro h42
      first
        | exact absurd h36 (by omega)
        | exact absurd h42 (by omega)
set_option maxRecDepth 20000 in
set_option maxHeartbeats 4000000 in
theorem m_M_order_out {E : kx_E} {w : va_W} {ma : Nat → Nat} {F : Nat → Int32} {A : Nat → Nat → Int32} (hM : Mdl E w ma F A) {n : Nat} {X : Fx} {D : Dy} (hR : ModR n X D A) (hX : WfX n X) (hD : WfD n D) (hn : F 1 = nI n) {bi : Nat → Option Nat} (hB : BiR n X bi) (hY : Acy n X) {car v : Int32} {c : Nat} (hc0 : carI bi car = some c) (hj : v < nI 1 ∨ nI (trR X c).length < v) : kx_S E Y_M_order [.ref (ma 0), .int car, .int v] w (MP E w ma (up1 F 0 (nI 0)) (fun A1 => lnO A A1) (some (.int (-1)))) := by
  refine kx_go (by decide) rfl rfl (Nat.le_of_ble_eq_true rfl) (kx_cc rfl (kx_cc rfl (kx_cc rfl kx_c0))) (fun z => ?_)
  have hO : kx_off w w mdlN := kx_off.rf
  have h24 := hX.1
  have hc := hB.c hc0
  refine kx_aload_n d_M_order_0 rfl (by first | rfl | exact kx_rf _) ?_
  refine kx_iload_n d_M_order_1 rfl ?_
  refine kx_callV (as := [.int car]) (rest := []) d_M_order_2 v_M_97 rfl hM.1 rfl rfl (by decide) (by decide) (Nat.le_of_ble_eq_true rfl) (by decide) (by decide) rfl (m_M_findC hM hR hX hD hn hB hc0) (fun X w1 h => by cases h.1) (fun v w1 hq9 => ?_)
  obtain ⟨hv, hw9⟩ := hq9
  cases hv
  subst hw9
  refine kx_stk (st1 := [.int (nI c)]) rfl ?_
  refine kx_istore_n d_M_order_5 (by decide) ?_
  refine kx_aload_n d_M_order_6 rfl (by first | rfl | exact kx_rf _) ?_
  refine kx_iload_n d_M_order_7 rfl ?_
  refine kx_iconst (-1) d_M_order_8 (by decide) ?_
  refine kx_icmp_eq 16 d_M_order_9 (by decide) (fun h => absurd h (nI_m1 (by omega))) (fun _ => ?_)
  refine kx_iconst (nI 1) d_M_order_12 (by decide) ?_
  refine kx_goto 17 d_M_order_13 (by decide) ?_
  refine kx_iconst (nI 1) d_M_order_17 (by decide) ?_
  refine kx_iconst (nI 1) d_M_order_18 (by decide) ?_
  refine kx_callV (as := [.int (nI _), .int (nI _), .int (nI _)]) (rest := []) d_M_order_19 v_M_101 rfl hM.1 rfl rfl (by decide) (by decide) (Nat.le_of_ble_eq_true rfl) (by decide) (by decide) rfl (m_M_goes hM (by decide) (by decide) (by decide)) (fun X w1 h => by cases h.1) (fun v w hq9 => ?_)
  obtain ⟨hv, hM, hO9⟩ := hq9
  cases hv
  have hO := hO.tr hO9 (fun _ h => h) (fun _ h => h)
  refine kx_stk (st1 := [.int (nI 1)]) rfl ?_
  refine kx_if_ne_n 27 d_M_order_22 (by decide) (by decide) (fun _ => ?_) (fun h => absurd h (by decide))
  refine kx_aload_n d_M_order_27 rfl (by first | rfl | exact kx_rf _) ?_
  refine kx_iload_n d_M_order_28 rfl ?_
  refine kx_callV (as := [.int (nI c)]) (rest := []) d_M_order_29 v_M_112 rfl hM.1 rfl rfl (by decide) (by decide) (Nat.le_of_ble_eq_true rfl) (by decide) (by decide) rfl (m_M_run hM hR hX hD (by rw [up1_n (by decide)]; exact hn) hY hc) (fun X w1 h => by cases h.1) (fun v w hq9 => ?_)
  obtain ⟨hv, A1, hM, hP9, hO9⟩ := hq9
  cases hv
  have hO := hO.tr hO9 (fun _ h => h) (fun _ h => h)
  refine kx_stk (st1 := [.int (nI (trR X c).length)]) rfl ?_
  refine kx_istore d_M_order_32 (by decide) ?_
  refine kx_iload_n d_M_order_34 rfl ?_
  refine kx_iconst (nI 1) d_M_order_35 (by decide) ?_
  refine kx_icmp_lt 45 d_M_order_36 (by decide) ?_ ?_
  · intro h36
    refine kx_iconst (-1) d_M_order_45 (by decide) ?_
    refine kx_goto 64 d_M_order_46 (by decide) ?_
    refine kx_iret d_M_order_64 rfl (by decide) (by decide) ?_
    exact ⟨rfl, A1, hM, hP9.1, hO⟩
  · intro h36
    refine kx_iload_n d_M_order_39 rfl ?_
    refine kx_iload d_M_order_40 rfl ?_
    refine kx_icmp_le 49 d_M_order_42 (by decide) ?_ ?_
    · intro h42
      exact absurd hj (by rintro (h | h); exact h36 h; exact absurd h42 (i32_nle.mpr h))
    · intro h42
      refine kx_iconst (-1) d_M_order_45 (by decide) ?_
      refine kx_goto 64 d_M_order_46 (by decide) ?_
      refine kx_iret d_M_order_64 rfl (by decide) (by decide) ?_
      exact ⟨rfl, A1, hM, hP9.1, hO⟩
theorem d_M_count_0 : decode c_M_count 0 = .ok (.aload_n 0, 1) := by decide +kernel
theorem d_M_count_1 : decode c_M_count 1 = .ok (.iload_n 1, 1) := by decide +kernel
theorem d_M_count_2 : decode c_M_count 2 = .ok (.ifCond .lt 12, 3) := by decide +kernel
theorem d_M_count_5 : decode c_M_count 5 = .ok (.iload_n 1, 1) := by decide +kernel
theorem d_M_count_6 : decode c_M_count 6 = .ok (.iconst 4, 1) := by decide +kernel
theorem d_M_count_7 : decode c_M_count 7 = .ok (.if_icmp .gt 7, 3) := by decide +kernel
theorem d_M_count_10 : decode c_M_count 10 = .ok (.iconst 1, 1) := by decide +kernel
theorem d_M_count_11 : decode c_M_count 11 = .ok (.goto 4, 3) := by decide +kernel
theorem d_M_count_14 : decode c_M_count 14 = .ok (.iconst 0, 1) := by decide +kernel
theorem d_M_count_15 : decode c_M_count 15 = .ok (.iconst 1, 1) := by decide +kernel
theorem d_M_count_16 : decode c_M_count 16 = .ok (.iconst 1, 1) := by decide +kernel
theorem d_M_count_17 : decode c_M_count 17 = .ok (.invokevirtual 101, 3) := by decide +kernel
theorem d_M_count_20 : decode c_M_count 20 = .ok (.ifCond .ne 5, 3) := by decide +kernel
theorem d_M_count_23 : decode c_M_count 23 = .ok (.iconst 0, 1) := by decide +kernel
theorem d_M_count_24 : decode c_M_count 24 = .ok (.ireturn, 1) := by decide +kernel
theorem d_M_count_25 : decode c_M_count 25 = .ok (.iload_n 1, 1) := by decide +kernel
theorem d_M_count_26 : decode c_M_count 26 = .ok (.tableswitch 55 0 3 #[30, 35, 40, 45], 30) := by decide +kernel
theorem d_M_count_56 : decode c_M_count 56 = .ok (.aload_n 0, 1) := by decide +kernel
theorem d_M_count_57 : decode c_M_count 57 = .ok (.getfield 93, 3) := by decide +kernel
theorem d_M_count_60 : decode c_M_count 60 = .ok (.ireturn, 1) := by decide +kernel
theorem d_M_count_61 : decode c_M_count 61 = .ok (.aload_n 0, 1) := by decide +kernel
theorem d_M_count_62 : decode c_M_count 62 = .ok (.getfield 123, 3) := by decide +kernel
theorem d_M_count_65 : decode c_M_count 65 = .ok (.ireturn, 1) := by decide +kernel
theorem d_M_count_66 : decode c_M_count 66 = .ok (.aload_n 0, 1) := by decide +kernel
theorem d_M_count_67 : decode c_M_count 67 = .ok (.getfield 152, 3) := by decide +kernel
theorem d_M_count_70 : decode c_M_count 70 = .ok (.ireturn, 1) := by decide +kernel
theorem d_M_count_71 : decode c_M_count 71 = .ok (.aload_n 0, 1) := by decide +kernel
theorem d_M_count_72 : decode c_M_count 72 = .ok (.getfield 93, 3) := by decide +kernel
theorem d_M_count_75 : decode c_M_count 75 = .ok (.aload_n 0, 1) := by decide +kernel
theorem d_M_count_76 : decode c_M_count 76 = .ok (.getfield 123, 3) := by decide +kernel
theorem d_M_count_79 : decode c_M_count 79 = .ok (.isub, 1) := by decide +kernel
theorem d_M_count_80 : decode c_M_count 80 = .ok (.ireturn, 1) := by decide +kernel
theorem d_M_count_81 : decode c_M_count 81 = .ok (.aload_n 0, 1) := by decide +kernel
theorem d_M_count_82 : decode c_M_count 82 = .ok (.getfield 155, 3) := by decide +kernel
theorem d_M_count_85 : decode c_M_count 85 = .ok (.ireturn, 1) := by decide +kernel
def cntM (F : Nat → Int32) (k : Nat) : Int32 := if k = 0 then F 1 else if k = 1 then F 7 else if k = 2 then F 8 else if k = 3 then F 1 - F 7 else F 9
set_option maxRecDepth 20000 in
set_option maxHeartbeats 4000000 in
theorem m_M_count_bad {E : kx_E} {w : va_W} {ma : Nat → Nat} {F : Nat → Int32} {A : Nat → Nat → Int32} (hM : Mdl E w ma F A) {v : Int32} (hv : v < 0 ∨ nI 4 < v) : kx_S E Y_M_count [.ref (ma 0), .int v] w (MX E w ma (up1 F 0 (nI 1)) A (some (.int (nI 0)))) := by
  refine kx_go (by decide) rfl rfl (Nat.le_of_ble_eq_true rfl) (kx_cc rfl (kx_cc rfl kx_c0)) (fun z => ?_)
  have hO : kx_off w w mdlN := kx_off.rf
  refine kx_aload_n d_M_count_0 rfl (by first | rfl | exact kx_rf _) ?_
  refine kx_iload_n d_M_count_1 rfl ?_
  refine kx_if_lt 14 d_M_count_2 (by decide) ?_ ?_
  · intro h2
    refine kx_iconst (nI 0) d_M_count_14 (by decide) ?_
    refine kx_iconst (nI 1) d_M_count_15 (by decide) ?_
    refine kx_iconst (nI 1) d_M_count_16 (by decide) ?_
    refine kx_callV (as := [.int (nI _), .int (nI _), .int (nI _)]) (rest := []) d_M_count_17 v_M_101 rfl hM.1 rfl rfl (by decide) (by decide) (Nat.le_of_ble_eq_true rfl) (by decide) (by decide) rfl (m_M_goes hM (by decide) (by decide) (by decide)) (fun X w1 h => by cases h.1) (fun v w hq9 => ?_)
    obtain ⟨hv, hM, hO9⟩ := hq9
    cases hv
    have hO := hO.tr hO9 (fun _ h => h) (fun _ h => h)
    refine kx_stk (st1 := [.int (nI 0)]) rfl ?_
    refine kx_if_ne_n 25 d_M_count_20 (by decide) (by decide) (fun h => absurd rfl h) (fun _ => ?_)
    refine kx_iconst (nI 0) d_M_count_23 (by decide) ?_
    refine kx_iret d_M_count_24 rfl (by decide) (by decide) ?_
    exact ⟨rfl, hM, hO⟩
  · intro h2
    refine kx_iload_n d_M_count_5 rfl ?_
    refine kx_iconst (nI 4) d_M_count_6 (by decide) ?_
    refine kx_icmp_gt 14 d_M_count_7 (by decide) ?_ ?_
    · intro h7
      refine kx_iconst (nI 0) d_M_count_14 (by decide) ?_
      refine kx_iconst (nI 1) d_M_count_15 (by decide) ?_
      refine kx_iconst (nI 1) d_M_count_16 (by decide) ?_
      refine kx_callV (as := [.int (nI _), .int (nI _), .int (nI _)]) (rest := []) d_M_count_17 v_M_101 rfl hM.1 rfl rfl (by decide) (by decide) (Nat.le_of_ble_eq_true rfl) (by decide) (by decide) rfl (m_M_goes hM (by decide) (by decide) (by decide)) (fun X w1 h => by cases h.1) (fun v w hq9 => ?_)
      obtain ⟨hv, hM, hO9⟩ := hq9
      cases hv
      have hO := hO.tr hO9 (fun _ h => h) (fun _ h => h)
      refine kx_stk (st1 := [.int (nI 0)]) rfl ?_
      refine kx_if_ne_n 25 d_M_count_20 (by decide) (by decide) (fun h => absurd rfl h) (fun _ => ?_)
      refine kx_iconst (nI 0) d_M_count_23 (by decide) ?_
      refine kx_iret d_M_count_24 rfl (by decide) (by decide) ?_
      exact ⟨rfl, hM, hO⟩
    · intro h7
      exact absurd hv (by rintro (h | h); exact h2 h; exact h7 h)
set_option maxRecDepth 20000 in
set_option maxHeartbeats 4000000 in
theorem m_M_count_0 {E : kx_E} {w : va_W} {ma : Nat → Nat} {F : Nat → Int32} {A : Nat → Nat → Int32} (hM : Mdl E w ma F A)  : kx_S E Y_M_count [.ref (ma 0), .int (nI 0)] w (MX E w ma (up1 F 0 (nI 0)) A (some (.int (cntM F 0)))) := by
  refine kx_go (by decide) rfl rfl (Nat.le_of_ble_eq_true rfl) (kx_cc rfl (kx_cc rfl kx_c0)) (fun z => ?_)
  have hO : kx_off w w mdlN := kx_off.rf
  refine kx_aload_n d_M_count_0 rfl (by first | rfl | exact kx_rf _) ?_
  refine kx_iload_n d_M_count_1 rfl ?_
  refine kx_if_lt_n 14 d_M_count_2 (by decide) (by decide) ?_
  refine kx_iload_n d_M_count_5 rfl ?_
  refine kx_iconst (nI 4) d_M_count_6 (by decide) ?_
  first | refine kx_icmp_gt_n 14 d_M_count_7 (by decide) (by omega) (by omega) ?_ ?_ | refine kx_icmp_gt 14 d_M_count_7 (by decide) ?_ ?_
  · intro h7
    exact absurd h7 (by decide)
  · intro h7
    refine kx_iconst (nI 1) d_M_count_10 (by decide) ?_
    refine kx_goto 15 d_M_count_11 (by decide) ?_
    refine kx_iconst (nI 1) d_M_count_15 (by decide) ?_
    refine kx_iconst (nI 1) d_M_count_16 (by decide) ?_
    refine kx_callV (as := [.int (nI _), .int (nI _), .int (nI _)]) (rest := []) d_M_count_17 v_M_101 rfl hM.1 rfl rfl (by decide) (by decide) (Nat.le_of_ble_eq_true rfl) (by decide) (by decide) rfl (m_M_goes hM (by decide) (by decide) (by decide)) (fun X w1 h => by cases h.1) (fun v w hq9 => ?_)
    obtain ⟨hv, hM, hO9⟩ := hq9
    cases hv
    have hO := hO.tr hO9 (fun _ h => h) (fun _ h => h)
    refine kx_stk (st1 := [.int (nI 1)]) rfl ?_
    refine kx_if_ne_n 25 d_M_count_20 (by decide) (by decide) (fun _ => ?_) (fun h => absurd h (by decide))
    refine kx_iload_n d_M_count_25 rfl ?_
    refine kx_tabIn (off := 30) 56 d_M_count_26 (by decide) (by decide) (by decide) (by decide) ?_
    refine kx_aload_n d_M_count_56 rfl (by first | rfl | exact kx_rf _) ?_
    refine kx_get _ d_M_count_57 f_M_93 hM.1 (by rfl) ?_
    refine kx_iret d_M_count_60 rfl (by decide) (by decide) ?_
    exact ⟨rfl, hM, hO⟩
set_option maxRecDepth 20000 in
set_option maxHeartbeats 4000000 in
theorem m_M_count_1 {E : kx_E} {w : va_W} {ma : Nat → Nat} {F : Nat → Int32} {A : Nat → Nat → Int32} (hM : Mdl E w ma F A)  : kx_S E Y_M_count [.ref (ma 0), .int (nI 1)] w (MX E w ma (up1 F 0 (nI 0)) A (some (.int (cntM F 1)))) := by
  refine kx_go (by decide) rfl rfl (Nat.le_of_ble_eq_true rfl) (kx_cc rfl (kx_cc rfl kx_c0)) (fun z => ?_)
  have hO : kx_off w w mdlN := kx_off.rf
  refine kx_aload_n d_M_count_0 rfl (by first | rfl | exact kx_rf _) ?_
  refine kx_iload_n d_M_count_1 rfl ?_
  refine kx_if_lt_n 14 d_M_count_2 (by decide) (by decide) ?_
  refine kx_iload_n d_M_count_5 rfl ?_
  refine kx_iconst (nI 4) d_M_count_6 (by decide) ?_
  first | refine kx_icmp_gt_n 14 d_M_count_7 (by decide) (by omega) (by omega) ?_ ?_ | refine kx_icmp_gt 14 d_M_count_7 (by decide) ?_ ?_
  · intro h7
    exact absurd h7 (by decide)
  · intro h7
    refine kx_iconst (nI 1) d_M_count_10 (by decide) ?_
    refine kx_goto 15 d_M_count_11 (by decide) ?_
    refine kx_iconst (nI 1) d_M_count_15 (by decide) ?_
    refine kx_iconst (nI 1) d_M_count_16 (by decide) ?_
    refine kx_callV (as := [.int (nI _), .int (nI _), .int (nI _)]) (rest := []) d_M_count_17 v_M_101 rfl hM.1 rfl rfl (by decide) (by decide) (Nat.le_of_ble_eq_true rfl) (by decide) (by decide) rfl (m_M_goes hM (by decide) (by decide) (by decide)) (fun X w1 h => by cases h.1) (fun v w hq9 => ?_)
    obtain ⟨hv, hM, hO9⟩ := hq9
    cases hv
    have hO := hO.tr hO9 (fun _ h => h) (fun _ h => h)
    refine kx_stk (st1 := [.int (nI 1)]) rfl ?_
    refine kx_if_ne_n 25 d_M_count_20 (by decide) (by decide) (fun _ => ?_) (fun h => absurd h (by decide))
    refine kx_iload_n d_M_count_25 rfl ?_
    refine kx_tabIn (off := 35) 61 d_M_count_26 (by decide) (by decide) (by decide) (by decide) ?_
    refine kx_aload_n d_M_count_61 rfl (by first | rfl | exact kx_rf _) ?_
    refine kx_get _ d_M_count_62 f_M_123 hM.1 (by rfl) ?_
    refine kx_iret d_M_count_65 rfl (by decide) (by decide) ?_
    exact ⟨rfl, hM, hO⟩
set_option maxRecDepth 20000 in
set_option maxHeartbeats 4000000 in
theorem m_M_count_2 {E : kx_E} {w : va_W} {ma : Nat → Nat} {F : Nat → Int32} {A : Nat → Nat → Int32} (hM : Mdl E w ma F A)  : kx_S E Y_M_count [.ref (ma 0), .int (nI 2)] w (MX E w ma (up1 F 0 (nI 0)) A (some (.int (cntM F 2)))) := by
  refine kx_go (by decide) rfl rfl (Nat.le_of_ble_eq_true rfl) (kx_cc rfl (kx_cc rfl kx_c0)) (fun z => ?_)
  have hO : kx_off w w mdlN := kx_off.rf
  refine kx_aload_n d_M_count_0 rfl (by first | rfl | exact kx_rf _) ?_
  refine kx_iload_n d_M_count_1 rfl ?_
  refine kx_if_lt_n 14 d_M_count_2 (by decide) (by decide) ?_
  refine kx_iload_n d_M_count_5 rfl ?_
  refine kx_iconst (nI 4) d_M_count_6 (by decide) ?_
  first | refine kx_icmp_gt_n 14 d_M_count_7 (by decide) (by omega) (by omega) ?_ ?_ | refine kx_icmp_gt 14 d_M_count_7 (by decide) ?_ ?_
  · intro h7
    exact absurd h7 (by decide)
  · intro h7
    refine kx_iconst (nI 1) d_M_count_10 (by decide) ?_
    refine kx_goto 15 d_M_count_11 (by decide) ?_
    refine kx_iconst (nI 1) d_M_count_15 (by decide) ?_
    refine kx_iconst (nI 1) d_M_count_16 (by decide) ?_
    refine kx_callV (as := [.int (nI _), .int (nI _), .int (nI _)]) (rest := []) d_M_count_17 v_M_101 rfl hM.1 rfl rfl (by decide) (by decide) (Nat.le_of_ble_eq_true rfl) (by decide) (by decide) rfl (m_M_goes hM (by decide) (by decide) (by decide)) (fun X w1 h => by cases h.1) (fun v w hq9 => ?_)
    obtain ⟨hv, hM, hO9⟩ := hq9
    cases hv
    have hO := hO.tr hO9 (fun _ h => h) (fun _ h => h)
    refine kx_stk (st1 := [.int (nI 1)]) rfl ?_
    refine kx_if_ne_n 25 d_M_count_20 (by decide) (by decide) (fun _ => ?_) (fun h => absurd h (by decide))
    refine kx_iload_n d_M_count_25 rfl ?_
    refine kx_tabIn (off := 40) 66 d_M_count_26 (by decide) (by decide) (by decide) (by decide) ?_
    refine kx_aload_n d_M_count_66 rfl (by first | rfl | exact kx_rf _) ?_
    refine kx_get _ d_M_count_67 f_M_152 hM.1 (by rfl) ?_
    refine kx_iret d_M_count_70 rfl (by decide) (by decide) ?_
    exact ⟨rfl, hM, hO⟩
set_option maxRecDepth 20000 in
set_option maxHeartbeats 4000000 in
theorem m_M_count_3 {E : kx_E} {w : va_W} {ma : Nat → Nat} {F : Nat → Int32} {A : Nat → Nat → Int32} (hM : Mdl E w ma F A)  : kx_S E Y_M_count [.ref (ma 0), .int (nI 3)] w (MX E w ma (up1 F 0 (nI 0)) A (some (.int (cntM F 3)))) := by
  refine kx_go (by decide) rfl rfl (Nat.le_of_ble_eq_true rfl) (kx_cc rfl (kx_cc rfl kx_c0)) (fun z => ?_)
  have hO : kx_off w w mdlN := kx_off.rf
  refine kx_aload_n d_M_count_0 rfl (by first | rfl | exact kx_rf _) ?_
  refine kx_iload_n d_M_count_1 rfl ?_
  refine kx_if_lt_n 14 d_M_count_2 (by decide) (by decide) ?_
  refine kx_iload_n d_M_count_5 rfl ?_
  refine kx_iconst (nI 4) d_M_count_6 (by decide) ?_
  first | refine kx_icmp_gt_n 14 d_M_count_7 (by decide) (by omega) (by omega) ?_ ?_ | refine kx_icmp_gt 14 d_M_count_7 (by decide) ?_ ?_
  · intro h7
    exact absurd h7 (by decide)
  · intro h7
    refine kx_iconst (nI 1) d_M_count_10 (by decide) ?_
    refine kx_goto 15 d_M_count_11 (by decide) ?_
    refine kx_iconst (nI 1) d_M_count_15 (by decide) ?_
    refine kx_iconst (nI 1) d_M_count_16 (by decide) ?_
    refine kx_callV (as := [.int (nI _), .int (nI _), .int (nI _)]) (rest := []) d_M_count_17 v_M_101 rfl hM.1 rfl rfl (by decide) (by decide) (Nat.le_of_ble_eq_true rfl) (by decide) (by decide) rfl (m_M_goes hM (by decide) (by decide) (by decide)) (fun X w1 h => by cases h.1) (fun v w hq9 => ?_)
    obtain ⟨hv, hM, hO9⟩ := hq9
    cases hv
    have hO := hO.tr hO9 (fun _ h => h) (fun _ h => h)
    refine kx_stk (st1 := [.int (nI 1)]) rfl ?_
    refine kx_if_ne_n 25 d_M_count_20 (by decide) (by decide) (fun _ => ?_) (fun h => absurd h (by decide))
    refine kx_iload_n d_M_count_25 rfl ?_
    refine kx_tabIn (off := 45) 71 d_M_count_26 (by decide) (by decide) (by decide) (by decide) ?_
    refine kx_aload_n d_M_count_71 rfl (by first | rfl | exact kx_rf _) ?_
    refine kx_get _ d_M_count_72 f_M_93 hM.1 (by rfl) ?_
    refine kx_aload_n d_M_count_75 rfl (by first | rfl | exact kx_rf _) ?_
    refine kx_get _ d_M_count_76 f_M_123 hM.1 (by rfl) ?_
    refine kx_isub _ d_M_count_79 rfl ?_
    refine kx_iret d_M_count_80 rfl (by decide) (by decide) ?_
    exact ⟨rfl, hM, hO⟩
set_option maxRecDepth 20000 in
set_option maxHeartbeats 4000000 in
theorem m_M_count_4 {E : kx_E} {w : va_W} {ma : Nat → Nat} {F : Nat → Int32} {A : Nat → Nat → Int32} (hM : Mdl E w ma F A)  : kx_S E Y_M_count [.ref (ma 0), .int (nI 4)] w (MX E w ma (up1 F 0 (nI 0)) A (some (.int (cntM F 4)))) := by
  refine kx_go (by decide) rfl rfl (Nat.le_of_ble_eq_true rfl) (kx_cc rfl (kx_cc rfl kx_c0)) (fun z => ?_)
  have hO : kx_off w w mdlN := kx_off.rf
  refine kx_aload_n d_M_count_0 rfl (by first | rfl | exact kx_rf _) ?_
  refine kx_iload_n d_M_count_1 rfl ?_
  refine kx_if_lt_n 14 d_M_count_2 (by decide) (by decide) ?_
  refine kx_iload_n d_M_count_5 rfl ?_
  refine kx_iconst (nI 4) d_M_count_6 (by decide) ?_
  first | refine kx_icmp_gt_n 14 d_M_count_7 (by decide) (by omega) (by omega) ?_ ?_ | refine kx_icmp_gt 14 d_M_count_7 (by decide) ?_ ?_
  · intro h7
    exact absurd h7 (by decide)
  · intro h7
    refine kx_iconst (nI 1) d_M_count_10 (by decide) ?_
    refine kx_goto 15 d_M_count_11 (by decide) ?_
    refine kx_iconst (nI 1) d_M_count_15 (by decide) ?_
    refine kx_iconst (nI 1) d_M_count_16 (by decide) ?_
    refine kx_callV (as := [.int (nI _), .int (nI _), .int (nI _)]) (rest := []) d_M_count_17 v_M_101 rfl hM.1 rfl rfl (by decide) (by decide) (Nat.le_of_ble_eq_true rfl) (by decide) (by decide) rfl (m_M_goes hM (by decide) (by decide) (by decide)) (fun X w1 h => by cases h.1) (fun v w hq9 => ?_)
    obtain ⟨hv, hM, hO9⟩ := hq9
    cases hv
    have hO := hO.tr hO9 (fun _ h => h) (fun _ h => h)
    refine kx_stk (st1 := [.int (nI 1)]) rfl ?_
    refine kx_if_ne_n 25 d_M_count_20 (by decide) (by decide) (fun _ => ?_) (fun h => absurd h (by decide))
    refine kx_iload_n d_M_count_25 rfl ?_
    refine kx_tabOut 81 d_M_count_26 (by decide) (by decide) ?_
    refine kx_aload_n d_M_count_81 rfl (by first | rfl | exact kx_rf _) ?_
    refine kx_get _ d_M_count_82 f_M_155 hM.1 (by rfl) ?_
    refine kx_iret d_M_count_85 rfl (by decide) (by decide) ?_
    exact ⟨rfl, hM, hO⟩
theorem m_M_count {E : kx_E} {w : va_W} {ma : Nat → Nat} {F : Nat → Int32} {A : Nat → Nat → Int32} (hM : Mdl E w ma F A) {k : Nat} (hk : k < 5) : kx_S E Y_M_count [.ref (ma 0), .int (nI k)] w (MX E w ma (up1 F 0 (nI 0)) A (some (.int (cntM F k)))) := by
  have h : k = 0 ∨ k = 1 ∨ k = 2 ∨ k = 3 ∨ k = 4 := by omega
  rcases h with rfl | rfl | rfl | rfl | rfl
  · exact m_M_count_0 hM
  · exact m_M_count_1 hM
  · exact m_M_count_2 hM
  · exact m_M_count_3 hM
  · exact m_M_count_4 hM
theorem d_M_settled_0 : decode c_M_settled 0 = .ok (.aload_n 0, 1) := by decide +kernel
theorem d_M_settled_1 : decode c_M_settled 1 = .ok (.iconst 0, 1) := by decide +kernel
theorem d_M_settled_2 : decode c_M_settled 2 = .ok (.putfield 89, 3) := by decide +kernel
theorem d_M_settled_5 : decode c_M_settled 5 = .ok (.iconst 0, 1) := by decide +kernel
theorem d_M_settled_6 : decode c_M_settled 6 = .ok (.istore_n 1, 1) := by decide +kernel
theorem d_M_settled_7 : decode c_M_settled 7 = .ok (.iconst 0, 1) := by decide +kernel
theorem d_M_settled_8 : decode c_M_settled 8 = .ok (.istore_n 2, 1) := by decide +kernel
theorem d_M_settled_9 : decode c_M_settled 9 = .ok (.iload_n 2, 1) := by decide +kernel
theorem d_M_settled_10 : decode c_M_settled 10 = .ok (.aload_n 0, 1) := by decide +kernel
theorem d_M_settled_11 : decode c_M_settled 11 = .ok (.getfield 93, 3) := by decide +kernel
theorem d_M_settled_14 : decode c_M_settled 14 = .ok (.if_icmp .ge 103, 3) := by decide +kernel
theorem d_M_settled_17 : decode c_M_settled 17 = .ok (.aload_n 0, 1) := by decide +kernel
theorem d_M_settled_18 : decode c_M_settled 18 = .ok (.iload_n 2, 1) := by decide +kernel
theorem d_M_settled_19 : decode c_M_settled 19 = .ok (.invokevirtual 112, 3) := by decide +kernel
theorem d_M_settled_22 : decode c_M_settled 22 = .ok (.istore_n 3, 1) := by decide +kernel
theorem d_M_settled_23 : decode c_M_settled 23 = .ok (.aload_n 0, 1) := by decide +kernel
theorem d_M_settled_24 : decode c_M_settled 24 = .ok (.iload_n 2, 1) := by decide +kernel
theorem d_M_settled_25 : decode c_M_settled 25 = .ok (.invokevirtual 161, 3) := by decide +kernel
theorem d_M_settled_28 : decode c_M_settled 28 = .ok (.iconst 2, 1) := by decide +kernel
theorem d_M_settled_29 : decode c_M_settled 29 = .ok (.if_icmp .ne 17, 3) := by decide +kernel
theorem d_M_settled_32 : decode c_M_settled 32 = .ok (.aload_n 0, 1) := by decide +kernel
theorem d_M_settled_33 : decode c_M_settled 33 = .ok (.getfield 41, 3) := by decide +kernel
theorem d_M_settled_36 : decode c_M_settled 36 = .ok (.iload_n 2, 1) := by decide +kernel
theorem d_M_settled_37 : decode c_M_settled 37 = .ok (.iaload, 1) := by decide +kernel
theorem d_M_settled_38 : decode c_M_settled 38 = .ok (.iload_n 3, 1) := by decide +kernel
theorem d_M_settled_39 : decode c_M_settled 39 = .ok (.if_icmp .ne 7, 3) := by decide +kernel
theorem d_M_settled_42 : decode c_M_settled 42 = .ok (.iconst 1, 1) := by decide +kernel
theorem d_M_settled_43 : decode c_M_settled 43 = .ok (.goto 4, 3) := by decide +kernel
theorem d_M_settled_46 : decode c_M_settled 46 = .ok (.iconst 0, 1) := by decide +kernel
theorem d_M_settled_47 : decode c_M_settled 47 = .ok (.istore 4, 2) := by decide +kernel
theorem d_M_settled_49 : decode c_M_settled 49 = .ok (.iconst 0, 1) := by decide +kernel
theorem d_M_settled_50 : decode c_M_settled 50 = .ok (.istore 5, 2) := by decide +kernel
theorem d_M_settled_52 : decode c_M_settled 52 = .ok (.iload 5, 2) := by decide +kernel
theorem d_M_settled_54 : decode c_M_settled 54 = .ok (.iload_n 3, 1) := by decide +kernel
theorem d_M_settled_55 : decode c_M_settled 55 = .ok (.if_icmp .ge 43, 3) := by decide +kernel
theorem d_M_settled_58 : decode c_M_settled 58 = .ok (.iload 4, 2) := by decide +kernel
theorem d_M_settled_60 : decode c_M_settled 60 = .ok (.ifCond .eq 38, 3) := by decide +kernel
theorem d_M_settled_63 : decode c_M_settled 63 = .ok (.aload_n 0, 1) := by decide +kernel
theorem d_M_settled_64 : decode c_M_settled 64 = .ok (.getfield 38, 3) := by decide +kernel
theorem d_M_settled_67 : decode c_M_settled 67 = .ok (.bipush 24, 2) := by decide +kernel
theorem d_M_settled_69 : decode c_M_settled 69 = .ok (.iload_n 2, 1) := by decide +kernel
theorem d_M_settled_70 : decode c_M_settled 70 = .ok (.imul, 1) := by decide +kernel
theorem d_M_settled_71 : decode c_M_settled 71 = .ok (.iload 5, 2) := by decide +kernel
theorem d_M_settled_73 : decode c_M_settled 73 = .ok (.iadd, 1) := by decide +kernel
theorem d_M_settled_74 : decode c_M_settled 74 = .ok (.iaload, 1) := by decide +kernel
theorem d_M_settled_75 : decode c_M_settled 75 = .ok (.aload_n 0, 1) := by decide +kernel
theorem d_M_settled_76 : decode c_M_settled 76 = .ok (.getfield 86, 3) := by decide +kernel
theorem d_M_settled_79 : decode c_M_settled 79 = .ok (.iload 5, 2) := by decide +kernel
theorem d_M_settled_81 : decode c_M_settled 81 = .ok (.iaload, 1) := by decide +kernel
theorem d_M_settled_82 : decode c_M_settled 82 = .ok (.if_icmp .ne 7, 3) := by decide +kernel
theorem d_M_settled_85 : decode c_M_settled 85 = .ok (.iconst 1, 1) := by decide +kernel
theorem d_M_settled_86 : decode c_M_settled 86 = .ok (.goto 4, 3) := by decide +kernel
theorem d_M_settled_89 : decode c_M_settled 89 = .ok (.iconst 0, 1) := by decide +kernel
theorem d_M_settled_90 : decode c_M_settled 90 = .ok (.istore 4, 2) := by decide +kernel
theorem d_M_settled_92 : decode c_M_settled 92 = .ok (.iinc 5 1, 3) := by decide +kernel
theorem d_M_settled_95 : decode c_M_settled 95 = .ok (.goto (-43), 3) := by decide +kernel
theorem d_M_settled_98 : decode c_M_settled 98 = .ok (.iload 4, 2) := by decide +kernel
theorem d_M_settled_100 : decode c_M_settled 100 = .ok (.ifCond .eq 9, 3) := by decide +kernel
theorem d_M_settled_103 : decode c_M_settled 103 = .ok (.iload_n 1, 1) := by decide +kernel
theorem d_M_settled_104 : decode c_M_settled 104 = .ok (.iconst 1, 1) := by decide +kernel
theorem d_M_settled_105 : decode c_M_settled 105 = .ok (.iadd, 1) := by decide +kernel
theorem d_M_settled_106 : decode c_M_settled 106 = .ok (.goto 4, 3) := by decide +kernel
theorem d_M_settled_109 : decode c_M_settled 109 = .ok (.iload_n 1, 1) := by decide +kernel
theorem d_M_settled_110 : decode c_M_settled 110 = .ok (.istore_n 1, 1) := by decide +kernel
theorem d_M_settled_111 : decode c_M_settled 111 = .ok (.iinc 2 1, 3) := by decide +kernel
theorem d_M_settled_114 : decode c_M_settled 114 = .ok (.goto (-105), 3) := by decide +kernel
theorem d_M_settled_117 : decode c_M_settled 117 = .ok (.iload_n 1, 1) := by decide +kernel
theorem d_M_settled_118 : decode c_M_settled 118 = .ok (.ireturn, 1) := by decide +kernel
def setM (X : Fx) (D : Dy) (c : Nat) : Nat := if staM D c = 2 ∧ dDi D c = trR X c then 1 else 0
def sumM (X : Fx) (D : Dy) : Nat → Nat
  | 0 => 0
  | k + 1 => sumM X D k + setM X D k
theorem sumM_le (X : Fx) (D : Dy) : ∀ k, sumM X D k ≤ k
  | 0 => Nat.le_refl _
  | k + 1 => by
    have h := sumM_le X D k
    show sumM X D k + setM X D k ≤ k + 1
    have : setM X D k ≤ 1 := by unfold setM; split <;> decide
    omega
theorem staM_3 (D : Dy) (c : Nat) : staM D c < 3 := by unfold staM; split; decide; split <;> decide
set_option maxRecDepth 20000 in
set_option maxHeartbeats 4000000 in
theorem e_M_settled {E : kx_E} {w : va_W} {ma : Nat → Nat} {F : Nat → Int32} {A : Nat → Nat → Int32} (hM : Mdl E w ma F A) {a c k : Nat} {t : List Nat} (ht : t.length ≤ 24) (hk : k ≤ 24) {z : kx_Z} {Q : kx_O → va_W → Prop} (hQ : kx_R E Y_M_settled z 98 [(0, .ref (ma 0)), (1, .int (nI a)), (2, .int (nI c)), (4, .int (nI 0))] [] w 0 0 Q) : kx_R E Y_M_settled z 52 [(0, .ref (ma 0)), (1, .int (nI a)), (2, .int (nI c)), (3, .int (nI t.length)), (4, .int (nI 0)), (5, .int (nI k))] [] w 0 0 Q := by
  refine kx_iload d_M_settled_52 rfl ?_
  refine kx_iload_n d_M_settled_54 rfl ?_
  first | refine kx_icmp_ge_n 98 d_M_settled_55 (by decide) (by omega) (by omega) ?_ ?_ | refine kx_icmp_ge 98 d_M_settled_55 (by decide) ?_ ?_
  · intro h55
    exact kx_loc (L1 := [(0, .ref (ma 0)), (1, .int (nI a)), (2, .int (nI c)), (4, .int (nI 0))]) ⟨rfl, rfl, rfl, rfl, trivial⟩ hQ
  · intro h55
    refine kx_iload d_M_settled_58 rfl ?_
    refine kx_if_eq_n 98 d_M_settled_60 (by decide) (by decide) (fun _ => ?_) (fun h => absurd rfl h)
    exact kx_loc (L1 := [(0, .ref (ma 0)), (1, .int (nI a)), (2, .int (nI c)), (4, .int (nI 0))]) ⟨rfl, rfl, rfl, rfl, trivial⟩ hQ
set_option maxRecDepth 20000 in
set_option maxHeartbeats 4000000 in
theorem l_M_settled2 {E : kx_E} {w : va_W} {ma : Nat → Nat} {F : Nat → Int32} {A : Nat → Nat → Int32} (hM : Mdl E w ma F A) {a c : Nat} {l t : List Nat} (hc : c < 24) (ht : t.length ≤ 24) (htl : l.length = t.length) (hl : ∀ k, k < l.length → A 9 (24 * c + k) = nI (l.getD k 0)) (hL : LnR A t) (hli : ∀ v ∈ l, v < 2 ^ 31) (hti : ∀ v ∈ t, v < 2 ^ 31) {z : kx_Z} {Q : kx_O → va_W → Prop} (hQ : kx_R E Y_M_settled z 98 [(0, .ref (ma 0)), (1, .int (nI a)), (2, .int (nI c)), (4, .int (nI (if l = t then 1 else 0)))] [] w 0 0 Q) :
    ∀ (m k : Nat), m + k = t.length → (∀ i, i < k → l.getD i 0 = t.getD i 0) → kx_R E Y_M_settled z 52 [(0, .ref (ma 0)), (1, .int (nI a)), (2, .int (nI c)), (3, .int (nI t.length)), (4, .int (nI 1)), (5, .int (nI k))] [] w 0 0 Q := by
  intro m
  induction m with
  | zero =>
    intro k hk hs
    have he : l = t := row_ext htl (fun j hj => hs j (by omega))
    rw [if_pos he] at hQ
    clear hs
    refine kx_iload d_M_settled_52 rfl ?_
    refine kx_iload_n d_M_settled_54 rfl ?_
    first | refine kx_icmp_ge_n 98 d_M_settled_55 (by decide) (by omega) (by omega) ?_ ?_ | refine kx_icmp_ge 98 d_M_settled_55 (by decide) ?_ ?_
    · intro h55
      exact kx_loc (L1 := [(0, .ref (ma 0)), (1, .int (nI a)), (2, .int (nI c)), (4, .int (nI 1))]) ⟨rfl, rfl, rfl, rfl, trivial⟩ hQ
    · intro h55
      exact absurd h55 (by omega)
  | succ m ih =>
    intro k hk hs
    have hkl : k < l.length := by omega
    have hv1 := hli _ (row_get l hkl)
    have hv2 := hti _ (row_get t (htl ▸ hkl))
    have g1 : l.getD k 0 = t.getD k 0 → ∀ i, i < k + 1 → l.getD i 0 = t.getD i 0 := fun e i hi => by
      rcases Nat.lt_or_ge i k with q | q
      · exact hs i q
      · have : i = k := by omega
        subst this; exact e
    clear hs
    refine kx_iload d_M_settled_52 rfl ?_
    refine kx_iload_n d_M_settled_54 rfl ?_
    first | refine kx_icmp_ge_n 98 d_M_settled_55 (by decide) (by omega) (by omega) ?_ ?_ | refine kx_icmp_ge 98 d_M_settled_55 (by decide) ?_ ?_
    · intro h55
      exact absurd h55 (by omega)
    · intro h55
      refine kx_iload d_M_settled_58 rfl ?_
      refine kx_if_eq_n 98 d_M_settled_60 (by decide) (by decide) (fun h => absurd h (by decide)) (fun _ => ?_)
      refine kx_aload_n d_M_settled_63 rfl (by first | rfl | exact kx_rf _) ?_
      refine kx_get _ d_M_settled_64 f_M_38 hM.1 (by rfl) ?_
      refine kx_bipush (nI 24) d_M_settled_67 (by decide) ?_
      refine kx_iload_n d_M_settled_69 rfl ?_
      first | refine kx_imul _ d_M_settled_70 (pk_mul _ _) ?_ | refine kx_imul _ d_M_settled_70 rfl ?_
      refine kx_iload d_M_settled_71 rfl ?_
      first | refine kx_iadd _ d_M_settled_73 (nI_add _ _) ?_ | refine kx_iadd _ d_M_settled_73 rfl ?_
      refine kx_iald d_M_settled_74 hM.a9 (by omega) (by decide) ?_
      rw [hl k hkl]
      refine kx_aload_n d_M_settled_75 rfl (by first | rfl | exact kx_rf _) ?_
      refine kx_get _ d_M_settled_76 f_M_86 hM.1 (by rfl) ?_
      refine kx_iload d_M_settled_79 rfl ?_
      refine kx_iald d_M_settled_81 hM.a25 (by omega) (by decide) ?_
      rw [hL k (by omega)]
      first | refine kx_icmp_ne_n 89 d_M_settled_82 (by decide) (by omega) (by omega) ?_ ?_ | refine kx_icmp_ne 89 d_M_settled_82 (by decide) ?_ ?_
      · intro h82
        refine kx_iconst (nI 0) d_M_settled_89 (by decide) ?_
        refine kx_istore d_M_settled_90 (by decide) ?_
        refine kx_iinc _ d_M_settled_92 rfl (by decide) (nI_1 _) ?_
        refine kx_goto 52 d_M_settled_95 (by decide) ?_
        first
          | (have hne : ¬ l = t := fun e => h82 (by rw [e])
             rw [if_neg hne] at hQ
             refine kx_loc (L1 := [(0, .ref (ma 0)), (1, .int (nI a)), (2, .int (nI c)), (3, .int (nI t.length)), (4, .int (nI 0)), (5, .int (nI (k + 1)))]) ⟨rfl, rfl, rfl, rfl, rfl, rfl, trivial⟩ ?_
             exact e_M_settled hM ht (by omega) hQ)
          | (refine kx_loc (L1 := [(0, .ref (ma 0)), (1, .int (nI a)), (2, .int (nI c)), (3, .int (nI t.length)), (4, .int (nI 1)), (5, .int (nI (k + 1)))]) ⟨rfl, rfl, rfl, rfl, rfl, rfl, trivial⟩ ?_
             exact ih (k + 1) (by omega) (g1 (by omega)))
      · intro h82
        refine kx_iconst (nI 1) d_M_settled_85 (by decide) ?_
        refine kx_goto 90 d_M_settled_86 (by decide) ?_
        refine kx_istore d_M_settled_90 (by decide) ?_
        refine kx_iinc _ d_M_settled_92 rfl (by decide) (nI_1 _) ?_
        refine kx_goto 52 d_M_settled_95 (by decide) ?_
        first
          | (have hne : ¬ l = t := fun e => h82 (by rw [e])
             rw [if_neg hne] at hQ
             refine kx_loc (L1 := [(0, .ref (ma 0)), (1, .int (nI a)), (2, .int (nI c)), (3, .int (nI t.length)), (4, .int (nI 0)), (5, .int (nI (k + 1)))]) ⟨rfl, rfl, rfl, rfl, rfl, rfl, trivial⟩ ?_
             exact e_M_settled hM ht (by omega) hQ)
          | (refine kx_loc (L1 := [(0, .ref (ma 0)), (1, .int (nI a)), (2, .int (nI c)), (3, .int (nI t.length)), (4, .int (nI 1)), (5, .int (nI (k + 1)))]) ⟨rfl, rfl, rfl, rfl, rfl, rfl, trivial⟩ ?_
             exact ih (k + 1) (by omega) (g1 (by omega)))
set_option maxRecDepth 20000 in
set_option maxHeartbeats 4000000 in
theorem l_M_settled1 {E : kx_E} {w0 : va_W} {ma : Nat → Nat} {F : Nat → Int32} {A0 : Nat → Nat → Int32} {n : Nat} {X : Fx} {D : Dy} (hR0 : ModR n X D A0) (hX : WfX n X) (hD : WfD n D) (hY : Acy n X) (hn : F 1 = nI n) {z : kx_Z} {Q : kx_O → va_W → Prop} (hQ : ∀ w A, Mdl E w ma F A → kx_off w0 w mdlN → lnO A0 A → Q (.inl (some (.int (nI (sumM X D n))))) w) :
    ∀ (m k : Nat) (w : va_W) (A : Nat → Nat → Int32), m + k = n → Mdl E w ma F A → kx_off w0 w mdlN → lnO A0 A → kx_R E Y_M_settled z 9 [(0, .ref (ma 0)), (1, .int (nI (sumM X D k))), (2, .int (nI k))] [] w 0 0 Q := by
  have h24 := hX.1
  intro m
  induction m with
  | zero =>
    intro k w A hk hM hO hA
    have hk : k = n := by omega
    subst hk
    have hQ9 := hQ w A hM hO hA
    refine kx_iload_n d_M_settled_9 rfl ?_
    refine kx_aload_n d_M_settled_10 rfl (by first | rfl | exact kx_rf _) ?_
    refine kx_get _ d_M_settled_11 f_M_93 hM.1 (by rfl) ?_
    rw [hn]
    first | refine kx_icmp_ge_n 117 d_M_settled_14 (by decide) (by omega) (by omega) ?_ ?_ | refine kx_icmp_ge 117 d_M_settled_14 (by decide) ?_ ?_
    · intro h14
      refine kx_iload_n d_M_settled_117 rfl ?_
      refine kx_iret d_M_settled_118 rfl (by decide) (by decide) ?_
      exact hQ9
    · intro h14
      exact absurd h14 (by omega)
  | succ m ih =>
    intro k w A hk hM hO hA
    have hkn : k < n := by omega
    have hR := hR0.ln hA
    have hs3 := staM_3 D k
    have bd := (hD.2.2 k hkn).1
    have bd24 := bd.1
    have ht24 := trR_24 X k
    have hsl := sumM_le X D k
    have fin : ∀ (w : va_W) (A : Nat → Nat → Int32) (b : Nat), Mdl E w ma F A → kx_off w0 w mdlN → lnO A0 A → b < 2 → setM X D k = b → kx_R E Y_M_settled z 98 [(0, .ref (ma 0)), (1, .int (nI (sumM X D k))), (2, .int (nI k)), (4, .int (nI b))] [] w 0 0 Q := by
      intro w A b hM hO hA hb hs
      have e9 : sumM X D (k + 1) = sumM X D k + b := by rw [← hs]; rfl
      refine kx_iload d_M_settled_98 rfl ?_
      first | refine kx_if_eq_n 109 d_M_settled_100 (by decide) (by omega) ?_ ?_ | refine kx_if_eq 109 d_M_settled_100 (by decide) ?_ ?_
      · intro h100
        refine kx_iload_n d_M_settled_109 rfl ?_
        refine kx_istore_n d_M_settled_110 (by decide) ?_
        refine kx_iinc _ d_M_settled_111 rfl (by decide) (nI_1 _) ?_
        refine kx_goto 9 d_M_settled_114 (by decide) ?_
        refine kx_loc (L1 := [(0, .ref (ma 0)), (1, .int (nI (sumM X D (k + 1)))), (2, .int (nI (k + 1)))]) ⟨rfl, ?_, rfl, trivial⟩ ?_
        · first
            | (rw [e9, show b = 0 by omega]; rfl)
            | (rw [e9, show b = 1 by omega]; rfl)
        · exact ih (k + 1) w A (by omega) hM hO hA
      · intro h100
        refine kx_iload_n d_M_settled_103 rfl ?_
        refine kx_iconst (nI 1) d_M_settled_104 (by decide) ?_
        first | refine kx_iadd _ d_M_settled_105 (nI_add _ _) ?_ | refine kx_iadd _ d_M_settled_105 rfl ?_
        refine kx_goto 110 d_M_settled_106 (by decide) ?_
        refine kx_istore_n d_M_settled_110 (by decide) ?_
        refine kx_iinc _ d_M_settled_111 rfl (by decide) (nI_1 _) ?_
        refine kx_goto 9 d_M_settled_114 (by decide) ?_
        refine kx_loc (L1 := [(0, .ref (ma 0)), (1, .int (nI (sumM X D (k + 1)))), (2, .int (nI (k + 1)))]) ⟨rfl, ?_, rfl, trivial⟩ ?_
        · first
            | (rw [e9, show b = 0 by omega]; rfl)
            | (rw [e9, show b = 1 by omega]; rfl)
        · exact ih (k + 1) w A (by omega) hM hO hA
    clear hQ
    refine kx_iload_n d_M_settled_9 rfl ?_
    refine kx_aload_n d_M_settled_10 rfl (by first | rfl | exact kx_rf _) ?_
    refine kx_get _ d_M_settled_11 f_M_93 hM.1 (by rfl) ?_
    rw [hn]
    first | refine kx_icmp_ge_n 117 d_M_settled_14 (by decide) (by omega) (by omega) ?_ ?_ | refine kx_icmp_ge 117 d_M_settled_14 (by decide) ?_ ?_
    · intro h14
      exact absurd h14 (by omega)
    · intro h14
      refine kx_aload_n d_M_settled_17 rfl (by first | rfl | exact kx_rf _) ?_
      refine kx_iload_n d_M_settled_18 rfl ?_
      refine kx_callV (as := [.int (nI k)]) (rest := []) d_M_settled_19 v_M_112 rfl hM.1 rfl rfl (by decide) (by decide) (Nat.le_of_ble_eq_true rfl) (by decide) (by decide) rfl (m_M_run hM hR hX hD hn hY hkn) (fun X w1 h => by cases h.1) (fun v w hq9 => ?_)
      obtain ⟨hv, A, hM, hP9, hO9⟩ := hq9
      cases hv
      have hO := hO.tr hO9 (fun _ h => h) (fun _ h => h)
      refine kx_stk (st1 := [.int (nI (trR X k).length)]) rfl ?_
      have hA := hA.tr hP9.1
      have hR := hR0.ln hA
      have hL := hP9.2
      refine kx_istore_n d_M_settled_22 (by decide) ?_
      refine kx_aload_n d_M_settled_23 rfl (by first | rfl | exact kx_rf _) ?_
      refine kx_iload_n d_M_settled_24 rfl ?_
      refine kx_callV (as := [.int (nI k)]) (rest := []) d_M_settled_25 v_M_161 rfl hM.1 rfl rfl (by decide) (by decide) (Nat.le_of_ble_eq_true rfl) (by decide) (by decide) rfl (m_M_stateOf hM hR hX hD hn hkn) (fun X w1 h => by cases h.1) (fun v w1 hq9 => ?_)
      obtain ⟨hv, hw9⟩ := hq9
      cases hv
      subst hw9
      refine kx_stk (st1 := [.int (nI (staM D k))]) rfl ?_
      refine kx_iconst (nI 2) d_M_settled_28 (by decide) ?_
      first | refine kx_icmp_ne_n 46 d_M_settled_29 (by decide) (by omega) (by omega) ?_ ?_ | refine kx_icmp_ne 46 d_M_settled_29 (by decide) ?_ ?_
      · intro h29
        refine kx_iconst (nI 0) d_M_settled_46 (by decide) ?_
        refine kx_istore d_M_settled_47 (by decide) ?_
        refine kx_iconst (nI 0) d_M_settled_49 (by decide) ?_
        refine kx_istore d_M_settled_50 (by decide) ?_
        first
          | (refine kx_loc (L1 := [(0, .ref (ma 0)), (1, .int (nI (sumM X D k))), (2, .int (nI k)), (3, .int (nI (trR X k).length)), (4, .int (nI 1)), (5, .int (nI 0))]) ⟨rfl, rfl, rfl, rfl, rfl, rfl, trivial⟩ ?_
             refine l_M_settled2 hM (l := dDi D k) (t := trR X k) (by omega) ht24 (by omega) (hR.dis k hkn).2 hL (fun v hv => by have := bd.2 v hv; omega) (fun v hv => by have := trR_lt hX hkn v hv; omega) (fin _ _ _ hM hO hA (by split <;> decide) ?_) (trR X k).length 0 rfl (fun i hi => absurd hi (Nat.not_lt_zero _))
             unfold setM
             by_cases e : dDi D k = trR X k
             · rw [if_pos e, if_pos ⟨by omega, e⟩]
             · rw [if_neg e, if_neg (fun q => e q.2)])
          | (refine kx_loc (L1 := [(0, .ref (ma 0)), (1, .int (nI (sumM X D k))), (2, .int (nI k)), (3, .int (nI (trR X k).length)), (4, .int (nI 0)), (5, .int (nI 0))]) ⟨rfl, rfl, rfl, rfl, rfl, rfl, trivial⟩ ?_
             refine e_M_settled hM ht24 (by decide) (fin _ _ 0 hM hO hA (by decide) ?_)
             unfold setM
             first
               | rw [if_neg (fun q => h29 q.1)]
               | rw [if_neg (fun q => h39 (by rw [q.2]))])
      · intro h29
        refine kx_aload_n d_M_settled_32 rfl (by first | rfl | exact kx_rf _) ?_
        refine kx_get _ d_M_settled_33 f_M_41 hM.1 (by rfl) ?_
        refine kx_iload_n d_M_settled_36 rfl ?_
        refine kx_iald d_M_settled_37 hM.a10 (by omega) (by decide) ?_
        rw [hR.dis k hkn |>.1]
        refine kx_iload_n d_M_settled_38 rfl ?_
        first | refine kx_icmp_ne_n 46 d_M_settled_39 (by decide) (by omega) (by omega) ?_ ?_ | refine kx_icmp_ne 46 d_M_settled_39 (by decide) ?_ ?_
        · intro h39
          refine kx_iconst (nI 0) d_M_settled_46 (by decide) ?_
          refine kx_istore d_M_settled_47 (by decide) ?_
          refine kx_iconst (nI 0) d_M_settled_49 (by decide) ?_
          refine kx_istore d_M_settled_50 (by decide) ?_
          first
            | (refine kx_loc (L1 := [(0, .ref (ma 0)), (1, .int (nI (sumM X D k))), (2, .int (nI k)), (3, .int (nI (trR X k).length)), (4, .int (nI 1)), (5, .int (nI 0))]) ⟨rfl, rfl, rfl, rfl, rfl, rfl, trivial⟩ ?_
               refine l_M_settled2 hM (l := dDi D k) (t := trR X k) (by omega) ht24 (by omega) (hR.dis k hkn).2 hL (fun v hv => by have := bd.2 v hv; omega) (fun v hv => by have := trR_lt hX hkn v hv; omega) (fin _ _ _ hM hO hA (by split <;> decide) ?_) (trR X k).length 0 rfl (fun i hi => absurd hi (Nat.not_lt_zero _))
               unfold setM
               by_cases e : dDi D k = trR X k
               · rw [if_pos e, if_pos ⟨by omega, e⟩]
               · rw [if_neg e, if_neg (fun q => e q.2)])
            | (refine kx_loc (L1 := [(0, .ref (ma 0)), (1, .int (nI (sumM X D k))), (2, .int (nI k)), (3, .int (nI (trR X k).length)), (4, .int (nI 0)), (5, .int (nI 0))]) ⟨rfl, rfl, rfl, rfl, rfl, rfl, trivial⟩ ?_
               refine e_M_settled hM ht24 (by decide) (fin _ _ 0 hM hO hA (by decide) ?_)
               unfold setM
               first
                 | rw [if_neg (fun q => h29 q.1)]
                 | rw [if_neg (fun q => h39 (by rw [q.2]))])
        · intro h39
          refine kx_iconst (nI 1) d_M_settled_42 (by decide) ?_
          refine kx_goto 47 d_M_settled_43 (by decide) ?_
          refine kx_istore d_M_settled_47 (by decide) ?_
          refine kx_iconst (nI 0) d_M_settled_49 (by decide) ?_
          refine kx_istore d_M_settled_50 (by decide) ?_
          first
            | (refine kx_loc (L1 := [(0, .ref (ma 0)), (1, .int (nI (sumM X D k))), (2, .int (nI k)), (3, .int (nI (trR X k).length)), (4, .int (nI 1)), (5, .int (nI 0))]) ⟨rfl, rfl, rfl, rfl, rfl, rfl, trivial⟩ ?_
               refine l_M_settled2 hM (l := dDi D k) (t := trR X k) (by omega) ht24 (by omega) (hR.dis k hkn).2 hL (fun v hv => by have := bd.2 v hv; omega) (fun v hv => by have := trR_lt hX hkn v hv; omega) (fin _ _ _ hM hO hA (by split <;> decide) ?_) (trR X k).length 0 rfl (fun i hi => absurd hi (Nat.not_lt_zero _))
               unfold setM
               by_cases e : dDi D k = trR X k
               · rw [if_pos e, if_pos ⟨by omega, e⟩]
               · rw [if_neg e, if_neg (fun q => e q.2)])
            | (refine kx_loc (L1 := [(0, .ref (ma 0)), (1, .int (nI (sumM X D k))), (2, .int (nI k)), (3, .int (nI (trR X k).length)), (4, .int (nI 0)), (5, .int (nI 0))]) ⟨rfl, rfl, rfl, rfl, rfl, rfl, trivial⟩ ?_
               refine e_M_settled hM ht24 (by decide) (fin _ _ 0 hM hO hA (by decide) ?_)
               unfold setM
               first
                 | rw [if_neg (fun q => h29 q.1)]
                 | rw [if_neg (fun q => h39 (by rw [q.2]))])
set_option maxRecDepth 20000 in
set_option maxHeartbeats 4000000 in
theorem m_M_settled {E : kx_E} {w : va_W} {ma : Nat → Nat} {F : Nat → Int32} {A : Nat → Nat → Int32} (hM : Mdl E w ma F A) {n : Nat} {X : Fx} {D : Dy} (hR : ModR n X D A) (hX : WfX n X) (hD : WfD n D) (hn : F 1 = nI n) (hY : Acy n X) : kx_S E Y_M_settled [.ref (ma 0)] w (MP E w ma (up1 F 0 (nI 0)) (fun A1 => lnO A A1) (some (.int (nI (sumM X D n))))) := by
  refine kx_go (by decide) rfl rfl (Nat.le_of_ble_eq_true rfl) (kx_cc rfl kx_c0) (fun z => ?_)
  have hO : kx_off w w mdlN := kx_off.rf
  refine kx_aload_n d_M_settled_0 rfl (by first | rfl | exact kx_rf _) ?_
  refine kx_iconst (nI 0) d_M_settled_1 (by decide) ?_
  refine mF_put0 d_M_settled_2 f_M_89 hM hO (fun w hM hO => ?_)
  refine kx_iconst (nI 0) d_M_settled_5 (by decide) ?_
  refine kx_istore_n d_M_settled_6 (by decide) ?_
  refine kx_iconst (nI 0) d_M_settled_7 (by decide) ?_
  refine kx_istore_n d_M_settled_8 (by decide) ?_
  refine kx_loc (L1 := [(0, .ref (ma 0)), (1, .int (nI (sumM X D 0))), (2, .int (nI 0))]) ⟨rfl, rfl, rfl, trivial⟩ ?_
  exact l_M_settled1 hR hX hD hY (by rw [up1_n (by decide)]; exact hn) (fun w A1 hM hO hA => ⟨rfl, A1, hM, hA, hO⟩) n 0 _ A rfl hM hO lnO.rf
