/-! The reference: seen -/
def seeT (l0 l1 : List Nat) (p : Nat) : List Nat := rowTurn l0 ++ [p] ++ l1
def seeS (id : Nat → Nat) (t : List Nat) : List Nat := if rowTw t = 1 then [] else if id (t.getD (t.length - 1) 0 / 2) < id (t.getD 0 0 / 2) then rowTurn t else t
def seeM (X : Fx) (D : Dy) (c : Nat) : List Nat := if dWh D (2 * c) = 0 ∨ dWh D (2 * c + 1) = 0 ∨ 23 < (dVw D (2 * c)).length + (dVw D (2 * c + 1)).length then [] else seeS (xId X) (seeT (dVw D (2 * c)) (dVw D (2 * c + 1)) (2 * c))
def kI (m : Nat) : Int32 := match m with
  | 0 => -1
  | m + 1 => nI m
theorem kI_sub (m : Nat) (h : m < 2 ^ 31) : nI m - nI 1 = kI m := by
  cases m with
  | zero => rfl
  | succ m => exact pk_sub (by omega)
theorem kI_dec (m : Nat) (h : m < 2 ^ 31) : nI m + Int32.ofInt (-1) = kI m := by
  rw [← kI_sub m h, Int32.sub_eq_add_neg]
  congr 1
theorem tk_succ (l : List Nat) {k : Nat} (h : k < l.length) : l.take (k + 1) = l.take k ++ [l.getD k 0] := by
  rw [List.take_add_one, List.getD_eq_getElem?_getD, List.getElem?_eq_getElem h]
  rfl
def dst (t : List Nat) (k : Nat) : Prop := ∀ i j, i < j → j < k → t.getD i 0 / 2 ≠ t.getD j 0 / 2
theorem dst_tw (t : List Nat) : rowTw t = 0 ↔ dst t t.length := by
  unfold rowTw
  have e : (rowIds t).Nodup ↔ dst t t.length := by
    unfold List.Nodup
    rw [List.pairwise_iff_getElem]
    constructor
    · intro h i j hij hj
      have := h i j (by rw [List.length_map]; omega) (by rw [List.length_map]; exact hj) hij
      rw [List.getElem_map, List.getElem_map] at this
      rw [List.getD_eq_getElem?_getD, List.getD_eq_getElem?_getD, List.getElem?_eq_getElem (by omega), List.getElem?_eq_getElem hj]
      exact this
    · intro h i j hi hj hij
      rw [List.length_map] at hi hj
      have := h i j hij hj
      rw [List.getD_eq_getElem?_getD, List.getD_eq_getElem?_getD, List.getElem?_eq_getElem hi, List.getElem?_eq_getElem hj] at this
      rw [List.getElem_map, List.getElem_map]
      exact this
  by_cases h : (rowIds t).Nodup
  · rw [if_pos h]; exact ⟨fun _ => e.mp h, fun _ => rfl⟩
  · rw [if_neg h]; exact ⟨fun q => (by cases q), fun q => absurd (e.mpr q) h⟩
theorem d_M_seen_0 : decode c_M_seen 0 = .ok (.iconst 2, 1) := by decide +kernel
theorem d_M_seen_1 : decode c_M_seen 1 = .ok (.iload_n 1, 1) := by decide +kernel
theorem d_M_seen_2 : decode c_M_seen 2 = .ok (.imul, 1) := by decide +kernel
theorem d_M_seen_3 : decode c_M_seen 3 = .ok (.istore_n 2, 1) := by decide +kernel
theorem d_M_seen_4 : decode c_M_seen 4 = .ok (.aload_n 0, 1) := by decide +kernel
theorem d_M_seen_5 : decode c_M_seen 5 = .ok (.getfield 32, 3) := by decide +kernel
theorem d_M_seen_8 : decode c_M_seen 8 = .ok (.iload_n 2, 1) := by decide +kernel
theorem d_M_seen_9 : decode c_M_seen 9 = .ok (.baload, 1) := by decide +kernel
theorem d_M_seen_10 : decode c_M_seen 10 = .ok (.ifCond .eq 34, 3) := by decide +kernel
theorem d_M_seen_13 : decode c_M_seen 13 = .ok (.aload_n 0, 1) := by decide +kernel
theorem d_M_seen_14 : decode c_M_seen 14 = .ok (.getfield 32, 3) := by decide +kernel
theorem d_M_seen_17 : decode c_M_seen 17 = .ok (.iload_n 2, 1) := by decide +kernel
theorem d_M_seen_18 : decode c_M_seen 18 = .ok (.iconst 1, 1) := by decide +kernel
theorem d_M_seen_19 : decode c_M_seen 19 = .ok (.iadd, 1) := by decide +kernel
theorem d_M_seen_20 : decode c_M_seen 20 = .ok (.baload, 1) := by decide +kernel
theorem d_M_seen_21 : decode c_M_seen 21 = .ok (.ifCond .eq 23, 3) := by decide +kernel
theorem d_M_seen_24 : decode c_M_seen 24 = .ok (.aload_n 0, 1) := by decide +kernel
theorem d_M_seen_25 : decode c_M_seen 25 = .ok (.getfield 29, 3) := by decide +kernel
theorem d_M_seen_28 : decode c_M_seen 28 = .ok (.iload_n 2, 1) := by decide +kernel
theorem d_M_seen_29 : decode c_M_seen 29 = .ok (.iaload, 1) := by decide +kernel
theorem d_M_seen_30 : decode c_M_seen 30 = .ok (.aload_n 0, 1) := by decide +kernel
theorem d_M_seen_31 : decode c_M_seen 31 = .ok (.getfield 29, 3) := by decide +kernel
theorem d_M_seen_34 : decode c_M_seen 34 = .ok (.iload_n 2, 1) := by decide +kernel
theorem d_M_seen_35 : decode c_M_seen 35 = .ok (.iconst 1, 1) := by decide +kernel
theorem d_M_seen_36 : decode c_M_seen 36 = .ok (.iadd, 1) := by decide +kernel
theorem d_M_seen_37 : decode c_M_seen 37 = .ok (.iaload, 1) := by decide +kernel
theorem d_M_seen_38 : decode c_M_seen 38 = .ok (.iadd, 1) := by decide +kernel
theorem d_M_seen_39 : decode c_M_seen 39 = .ok (.bipush 23, 2) := by decide +kernel
theorem d_M_seen_41 : decode c_M_seen 41 = .ok (.if_icmp .le 5, 3) := by decide +kernel
theorem d_M_seen_44 : decode c_M_seen 44 = .ok (.iconst 0, 1) := by decide +kernel
theorem d_M_seen_45 : decode c_M_seen 45 = .ok (.ireturn, 1) := by decide +kernel
theorem d_M_seen_46 : decode c_M_seen 46 = .ok (.iconst 0, 1) := by decide +kernel
theorem d_M_seen_47 : decode c_M_seen 47 = .ok (.istore_n 3, 1) := by decide +kernel
theorem d_M_seen_48 : decode c_M_seen 48 = .ok (.aload_n 0, 1) := by decide +kernel
theorem d_M_seen_49 : decode c_M_seen 49 = .ok (.getfield 29, 3) := by decide +kernel
theorem d_M_seen_52 : decode c_M_seen 52 = .ok (.iload_n 2, 1) := by decide +kernel
theorem d_M_seen_53 : decode c_M_seen 53 = .ok (.iaload, 1) := by decide +kernel
theorem d_M_seen_54 : decode c_M_seen 54 = .ok (.iconst 1, 1) := by decide +kernel
theorem d_M_seen_55 : decode c_M_seen 55 = .ok (.isub, 1) := by decide +kernel
theorem d_M_seen_56 : decode c_M_seen 56 = .ok (.istore 4, 2) := by decide +kernel
theorem d_M_seen_58 : decode c_M_seen 58 = .ok (.iload 4, 2) := by decide +kernel
theorem d_M_seen_60 : decode c_M_seen 60 = .ok (.ifCond .lt 32, 3) := by decide +kernel
theorem d_M_seen_63 : decode c_M_seen 63 = .ok (.aload_n 0, 1) := by decide +kernel
theorem d_M_seen_64 : decode c_M_seen 64 = .ok (.getfield 86, 3) := by decide +kernel
theorem d_M_seen_67 : decode c_M_seen 67 = .ok (.iload_n 3, 1) := by decide +kernel
theorem d_M_seen_68 : decode c_M_seen 68 = .ok (.aload_n 0, 1) := by decide +kernel
theorem d_M_seen_69 : decode c_M_seen 69 = .ok (.getfield 26, 3) := by decide +kernel
theorem d_M_seen_72 : decode c_M_seen 72 = .ok (.bipush 24, 2) := by decide +kernel
theorem d_M_seen_74 : decode c_M_seen 74 = .ok (.iload_n 2, 1) := by decide +kernel
theorem d_M_seen_75 : decode c_M_seen 75 = .ok (.imul, 1) := by decide +kernel
theorem d_M_seen_76 : decode c_M_seen 76 = .ok (.iload 4, 2) := by decide +kernel
theorem d_M_seen_78 : decode c_M_seen 78 = .ok (.iadd, 1) := by decide +kernel
theorem d_M_seen_79 : decode c_M_seen 79 = .ok (.iaload, 1) := by decide +kernel
theorem d_M_seen_80 : decode c_M_seen 80 = .ok (.iconst 1, 1) := by decide +kernel
theorem d_M_seen_81 : decode c_M_seen 81 = .ok (.ixor, 1) := by decide +kernel
theorem d_M_seen_82 : decode c_M_seen 82 = .ok (.iastore, 1) := by decide +kernel
theorem d_M_seen_83 : decode c_M_seen 83 = .ok (.iinc 3 1, 3) := by decide +kernel
theorem d_M_seen_86 : decode c_M_seen 86 = .ok (.iinc 4 (-1), 3) := by decide +kernel
theorem d_M_seen_89 : decode c_M_seen 89 = .ok (.goto (-31), 3) := by decide +kernel
theorem d_M_seen_92 : decode c_M_seen 92 = .ok (.aload_n 0, 1) := by decide +kernel
theorem d_M_seen_93 : decode c_M_seen 93 = .ok (.getfield 86, 3) := by decide +kernel
theorem d_M_seen_96 : decode c_M_seen 96 = .ok (.iload_n 3, 1) := by decide +kernel
theorem d_M_seen_97 : decode c_M_seen 97 = .ok (.iload_n 2, 1) := by decide +kernel
theorem d_M_seen_98 : decode c_M_seen 98 = .ok (.iastore, 1) := by decide +kernel
theorem d_M_seen_99 : decode c_M_seen 99 = .ok (.iinc 3 1, 3) := by decide +kernel
theorem d_M_seen_102 : decode c_M_seen 102 = .ok (.iconst 0, 1) := by decide +kernel
theorem d_M_seen_103 : decode c_M_seen 103 = .ok (.istore 4, 2) := by decide +kernel
theorem d_M_seen_105 : decode c_M_seen 105 = .ok (.iload 4, 2) := by decide +kernel
theorem d_M_seen_107 : decode c_M_seen 107 = .ok (.aload_n 0, 1) := by decide +kernel
theorem d_M_seen_108 : decode c_M_seen 108 = .ok (.getfield 29, 3) := by decide +kernel
theorem d_M_seen_111 : decode c_M_seen 111 = .ok (.iload_n 2, 1) := by decide +kernel
theorem d_M_seen_112 : decode c_M_seen 112 = .ok (.iconst 1, 1) := by decide +kernel
theorem d_M_seen_113 : decode c_M_seen 113 = .ok (.iadd, 1) := by decide +kernel
theorem d_M_seen_114 : decode c_M_seen 114 = .ok (.iaload, 1) := by decide +kernel
theorem d_M_seen_115 : decode c_M_seen 115 = .ok (.if_icmp .ge 33, 3) := by decide +kernel
theorem d_M_seen_118 : decode c_M_seen 118 = .ok (.aload_n 0, 1) := by decide +kernel
theorem d_M_seen_119 : decode c_M_seen 119 = .ok (.getfield 86, 3) := by decide +kernel
theorem d_M_seen_122 : decode c_M_seen 122 = .ok (.iload_n 3, 1) := by decide +kernel
theorem d_M_seen_123 : decode c_M_seen 123 = .ok (.aload_n 0, 1) := by decide +kernel
theorem d_M_seen_124 : decode c_M_seen 124 = .ok (.getfield 26, 3) := by decide +kernel
theorem d_M_seen_127 : decode c_M_seen 127 = .ok (.bipush 24, 2) := by decide +kernel
theorem d_M_seen_129 : decode c_M_seen 129 = .ok (.iload_n 2, 1) := by decide +kernel
theorem d_M_seen_130 : decode c_M_seen 130 = .ok (.imul, 1) := by decide +kernel
theorem d_M_seen_131 : decode c_M_seen 131 = .ok (.bipush 24, 2) := by decide +kernel
theorem d_M_seen_133 : decode c_M_seen 133 = .ok (.iadd, 1) := by decide +kernel
theorem d_M_seen_134 : decode c_M_seen 134 = .ok (.iload 4, 2) := by decide +kernel
theorem d_M_seen_136 : decode c_M_seen 136 = .ok (.iadd, 1) := by decide +kernel
theorem d_M_seen_137 : decode c_M_seen 137 = .ok (.iaload, 1) := by decide +kernel
theorem d_M_seen_138 : decode c_M_seen 138 = .ok (.iastore, 1) := by decide +kernel
theorem d_M_seen_139 : decode c_M_seen 139 = .ok (.iinc 3 1, 3) := by decide +kernel
theorem d_M_seen_142 : decode c_M_seen 142 = .ok (.iinc 4 1, 3) := by decide +kernel
theorem d_M_seen_145 : decode c_M_seen 145 = .ok (.goto (-40), 3) := by decide +kernel
theorem d_M_seen_148 : decode c_M_seen 148 = .ok (.iconst 0, 1) := by decide +kernel
theorem d_M_seen_149 : decode c_M_seen 149 = .ok (.istore 4, 2) := by decide +kernel
theorem d_M_seen_151 : decode c_M_seen 151 = .ok (.iload 4, 2) := by decide +kernel
theorem d_M_seen_153 : decode c_M_seen 153 = .ok (.iload_n 3, 1) := by decide +kernel
theorem d_M_seen_154 : decode c_M_seen 154 = .ok (.if_icmp .ge 48, 3) := by decide +kernel
theorem d_M_seen_157 : decode c_M_seen 157 = .ok (.iconst 0, 1) := by decide +kernel
theorem d_M_seen_158 : decode c_M_seen 158 = .ok (.istore 5, 2) := by decide +kernel
theorem d_M_seen_160 : decode c_M_seen 160 = .ok (.iload 5, 2) := by decide +kernel
theorem d_M_seen_162 : decode c_M_seen 162 = .ok (.iload 4, 2) := by decide +kernel
theorem d_M_seen_164 : decode c_M_seen 164 = .ok (.if_icmp .ge 32, 3) := by decide +kernel
theorem d_M_seen_167 : decode c_M_seen 167 = .ok (.aload_n 0, 1) := by decide +kernel
theorem d_M_seen_168 : decode c_M_seen 168 = .ok (.getfield 86, 3) := by decide +kernel
theorem d_M_seen_171 : decode c_M_seen 171 = .ok (.iload 4, 2) := by decide +kernel
theorem d_M_seen_173 : decode c_M_seen 173 = .ok (.iaload, 1) := by decide +kernel
theorem d_M_seen_174 : decode c_M_seen 174 = .ok (.iconst 2, 1) := by decide +kernel
theorem d_M_seen_175 : decode c_M_seen 175 = .ok (.idiv, 1) := by decide +kernel
theorem d_M_seen_176 : decode c_M_seen 176 = .ok (.aload_n 0, 1) := by decide +kernel
theorem d_M_seen_177 : decode c_M_seen 177 = .ok (.getfield 86, 3) := by decide +kernel
theorem d_M_seen_180 : decode c_M_seen 180 = .ok (.iload 5, 2) := by decide +kernel
theorem d_M_seen_182 : decode c_M_seen 182 = .ok (.iaload, 1) := by decide +kernel
theorem d_M_seen_183 : decode c_M_seen 183 = .ok (.iconst 2, 1) := by decide +kernel
theorem d_M_seen_184 : decode c_M_seen 184 = .ok (.idiv, 1) := by decide +kernel
theorem d_M_seen_185 : decode c_M_seen 185 = .ok (.if_icmp .ne 5, 3) := by decide +kernel
theorem d_M_seen_188 : decode c_M_seen 188 = .ok (.iconst 0, 1) := by decide +kernel
theorem d_M_seen_189 : decode c_M_seen 189 = .ok (.ireturn, 1) := by decide +kernel
theorem d_M_seen_190 : decode c_M_seen 190 = .ok (.iinc 5 1, 3) := by decide +kernel
theorem d_M_seen_193 : decode c_M_seen 193 = .ok (.goto (-33), 3) := by decide +kernel
theorem d_M_seen_196 : decode c_M_seen 196 = .ok (.iinc 4 1, 3) := by decide +kernel
theorem d_M_seen_199 : decode c_M_seen 199 = .ok (.goto (-48), 3) := by decide +kernel
theorem d_M_seen_202 : decode c_M_seen 202 = .ok (.aload_n 0, 1) := by decide +kernel
theorem d_M_seen_203 : decode c_M_seen 203 = .ok (.getfield 7, 3) := by decide +kernel
theorem d_M_seen_206 : decode c_M_seen 206 = .ok (.aload_n 0, 1) := by decide +kernel
theorem d_M_seen_207 : decode c_M_seen 207 = .ok (.getfield 86, 3) := by decide +kernel
theorem d_M_seen_210 : decode c_M_seen 210 = .ok (.iconst 0, 1) := by decide +kernel
theorem d_M_seen_211 : decode c_M_seen 211 = .ok (.iaload, 1) := by decide +kernel
theorem d_M_seen_212 : decode c_M_seen 212 = .ok (.iconst 2, 1) := by decide +kernel
theorem d_M_seen_213 : decode c_M_seen 213 = .ok (.idiv, 1) := by decide +kernel
theorem d_M_seen_214 : decode c_M_seen 214 = .ok (.iaload, 1) := by decide +kernel
theorem d_M_seen_215 : decode c_M_seen 215 = .ok (.aload_n 0, 1) := by decide +kernel
theorem d_M_seen_216 : decode c_M_seen 216 = .ok (.getfield 7, 3) := by decide +kernel
theorem d_M_seen_219 : decode c_M_seen 219 = .ok (.aload_n 0, 1) := by decide +kernel
theorem d_M_seen_220 : decode c_M_seen 220 = .ok (.getfield 86, 3) := by decide +kernel
theorem d_M_seen_223 : decode c_M_seen 223 = .ok (.iload_n 3, 1) := by decide +kernel
theorem d_M_seen_224 : decode c_M_seen 224 = .ok (.iconst 1, 1) := by decide +kernel
theorem d_M_seen_225 : decode c_M_seen 225 = .ok (.isub, 1) := by decide +kernel
theorem d_M_seen_226 : decode c_M_seen 226 = .ok (.iaload, 1) := by decide +kernel
theorem d_M_seen_227 : decode c_M_seen 227 = .ok (.iconst 2, 1) := by decide +kernel
theorem d_M_seen_228 : decode c_M_seen 228 = .ok (.idiv, 1) := by decide +kernel
theorem d_M_seen_229 : decode c_M_seen 229 = .ok (.iaload, 1) := by decide +kernel
theorem d_M_seen_230 : decode c_M_seen 230 = .ok (.if_icmp .le 8, 3) := by decide +kernel
theorem d_M_seen_233 : decode c_M_seen 233 = .ok (.aload_n 0, 1) := by decide +kernel
theorem d_M_seen_234 : decode c_M_seen 234 = .ok (.iload_n 3, 1) := by decide +kernel
theorem d_M_seen_235 : decode c_M_seen 235 = .ok (.invokevirtual 109, 3) := by decide +kernel
theorem d_M_seen_238 : decode c_M_seen 238 = .ok (.iload_n 3, 1) := by decide +kernel
theorem d_M_seen_239 : decode c_M_seen 239 = .ok (.ireturn, 1) := by decide +kernel
set_option maxRecDepth 20000 in
set_option maxHeartbeats 4000000 in
theorem l_M_seen1 {E : kx_E} {w0 : va_W} {ma : Nat → Nat} {F : Nat → Int32} {A : Nat → Nat → Int32} {n : Nat} {X : Fx} {D : Dy} (hR : ModR n X D A) (hX : WfX n X) (hD : WfD n D) {c : Nat} (hc : c < n) {z : kx_Z} {Q : kx_O → va_W → Prop}
    (hQ : ∀ w A1, Mdl E w ma F A1 → kx_off w0 w mdlN → lnO A A1 → LnR A1 (rowTurn (dVw D (2 * c))) → kx_R E Y_M_seen z 92 [(0, .ref (ma 0)), (1, .int (nI c)), (2, .int (nI (2 * c))), (3, .int (nI (dVw D (2 * c)).length))] [] w 0 0 Q) (h23 : (dVw D (2 * c)).length ≤ 23) :
    ∀ (m k : Nat) (w : va_W) (A1 : Nat → Nat → Int32), m + k = (dVw D (2 * c)).length → Mdl E w ma F A1 → kx_off w0 w mdlN → lnO A A1 → LnR A1 ((rowTurn (dVw D (2 * c))).take k) → kx_R E Y_M_seen z 58 [(0, .ref (ma 0)), (1, .int (nI c)), (2, .int (nI (2 * c))), (3, .int (nI k)), (4, .int (kI m))] [] w 0 0 Q := by
  have h24 := hX.1
  have hv := hR.vws (2 * c) (by omega)
  obtain ⟨hv1, hv2⟩ := hv
  have htl := rowTurn_len (dVw D (2 * c))
  intro m
  induction m with
  | zero =>
    intro k w A1 hm hM hO hA hL
    have hk : k = (dVw D (2 * c)).length := by omega
    subst hk
    rw [List.take_of_length_le (by omega)] at hL
    have hQ9 := hQ w A1 hM hO hA hL
    refine kx_iload d_M_seen_58 rfl ?_
    refine kx_if_lt 92 d_M_seen_60 (by decide) ?_ ?_
    · intro h60
      exact kx_loc (L1 := [(0, .ref (ma 0)), (1, .int (nI c)), (2, .int (nI (2 * c))), (3, .int (nI (dVw D (2 * c)).length))]) ⟨rfl, rfl, rfl, rfl, trivial⟩ hQ9
    · intro h60
      exact absurd (show kI 0 < 0 by decide) h60
  | succ m ih =>
    intro k w A1 hm hM hO hA hL
    have hg := rowTurn_get (dVw D (2 * c)) (j := k) (by omega)
    rw [show (dVw D (2 * c)).length - 1 - k = m by omega] at hg
    have hA5 : A1 5 (24 * (2 * c) + m) = nI ((dVw D (2 * c)).getD m 0) := by rw [hA 5 (by decide) (by decide)]; exact hv2 m (by omega)
    have hL2 := hL.snoc ((dVw D (2 * c)).getD m 0 ^^^ 1)
    rw [← hg, ← tk_succ _ (by omega), List.length_take, Nat.min_eq_left (by omega), hg] at hL2
    refine kx_loc (L1 := [(0, .ref (ma 0)), (1, .int (nI c)), (2, .int (nI (2 * c))), (3, .int (nI k)), (4, .int (nI m))]) ⟨rfl, rfl, rfl, rfl, rfl, trivial⟩ ?_
    refine kx_iload d_M_seen_58 rfl ?_
    refine kx_if_lt_n 92 d_M_seen_60 (by decide) (by omega) ?_
    refine kx_aload_n d_M_seen_63 rfl (by first | rfl | exact kx_rf _) ?_
    refine kx_get _ d_M_seen_64 f_M_86 hM.1 (by rfl) ?_
    refine kx_iload_n d_M_seen_67 rfl ?_
    refine kx_aload_n d_M_seen_68 rfl (by first | rfl | exact kx_rf _) ?_
    refine kx_get _ d_M_seen_69 f_M_26 hM.1 (by rfl) ?_
    refine kx_bipush (nI 24) d_M_seen_72 (by decide) ?_
    refine kx_iload_n d_M_seen_74 rfl ?_
    first | refine kx_imul _ d_M_seen_75 (pk_mul _ _) ?_ | refine kx_imul _ d_M_seen_75 rfl ?_
    refine kx_iload d_M_seen_76 rfl ?_
    first | refine kx_iadd _ d_M_seen_78 (nI_add _ _) ?_ | refine kx_iadd _ d_M_seen_78 rfl ?_
    refine kx_iald d_M_seen_79 hM.a5 (by omega) (by decide) ?_
    rw [hA5]
    refine kx_iconst (nI 1) d_M_seen_80 (by decide) ?_
    refine kx_ixor _ d_M_seen_81 (kx_xor _ _) ?_
    refine mA_put (j := 25) d_M_seen_82 hM hO (by decide) (len := 24) rfl (by decide) (by omega) (fun w hM hO => ?_)
    refine kx_iinc _ d_M_seen_83 rfl (by decide) (nI_1 _) ?_
    refine kx_iinc (kI m) d_M_seen_86 rfl (by decide) (kI_dec m (by omega)) ?_
    refine kx_goto 58 d_M_seen_89 (by decide) ?_
    refine kx_loc (L1 := [(0, .ref (ma 0)), (1, .int (nI c)), (2, .int (nI (2 * c))), (3, .int (nI (k + 1))), (4, .int (kI m))]) ⟨rfl, rfl, rfl, rfl, rfl, trivial⟩ ?_
    exact ih (k + 1) w _ (by omega) hM hO hA.up hL2
set_option maxRecDepth 20000 in
set_option maxHeartbeats 4000000 in
theorem l_M_seen2 {E : kx_E} {w0 : va_W} {ma : Nat → Nat} {F : Nat → Int32} {A : Nat → Nat → Int32} {n : Nat} {X : Fx} {D : Dy} (hR : ModR n X D A) (hX : WfX n X) (hD : WfD n D) {c : Nat} (hc : c < n) {z : kx_Z} {Q : kx_O → va_W → Prop} {b : List Nat} (h24b : b.length + (dVw D (2 * c + 1)).length ≤ 24)
    (hQ : ∀ w A1, Mdl E w ma F A1 → kx_off w0 w mdlN → lnO A A1 → LnR A1 (b ++ dVw D (2 * c + 1)) → kx_R E Y_M_seen z 148 [(0, .ref (ma 0)), (1, .int (nI c)), (3, .int (nI (b ++ dVw D (2 * c + 1)).length))] [] w 0 0 Q) :
    ∀ (m k : Nat) (w : va_W) (A1 : Nat → Nat → Int32), m + k = (dVw D (2 * c + 1)).length → Mdl E w ma F A1 → kx_off w0 w mdlN → lnO A A1 → LnR A1 (b ++ (dVw D (2 * c + 1)).take k) → kx_R E Y_M_seen z 105 [(0, .ref (ma 0)), (1, .int (nI c)), (2, .int (nI (2 * c))), (3, .int (nI (b.length + k))), (4, .int (nI k))] [] w 0 0 Q := by
  have h24 := hX.1
  have hv := hR.vws (2 * c + 1) (by omega)
  obtain ⟨hv1, hv2⟩ := hv
  intro m
  induction m with
  | zero =>
    intro k w A1 hm hM hO hA hL
    have hk : k = (dVw D (2 * c + 1)).length := by omega
    subst hk
    rw [List.take_of_length_le (by omega)] at hL
    have hQ9 := hQ w A1 hM hO hA hL
    have hA6 : A1 6 (2 * c + 1) = nI (dVw D (2 * c + 1)).length := by rw [hA 6 (by decide) (by decide)]; exact hv1
    refine kx_iload d_M_seen_105 rfl ?_
    refine kx_aload_n d_M_seen_107 rfl (by first | rfl | exact kx_rf _) ?_
    refine kx_get _ d_M_seen_108 f_M_29 hM.1 (by rfl) ?_
    refine kx_iload_n d_M_seen_111 rfl ?_
    refine kx_iconst (nI 1) d_M_seen_112 (by decide) ?_
    first | refine kx_iadd _ d_M_seen_113 (nI_add _ _) ?_ | refine kx_iadd _ d_M_seen_113 rfl ?_
    refine kx_iald d_M_seen_114 hM.a6 (by omega) (by decide) ?_
    rw [hA6]
    first | refine kx_icmp_ge_n 148 d_M_seen_115 (by decide) (by omega) (by omega) ?_ ?_ | refine kx_icmp_ge 148 d_M_seen_115 (by decide) ?_ ?_
    · intro h115
      exact kx_loc (L1 := [(0, .ref (ma 0)), (1, .int (nI c)), (3, .int (nI (b ++ dVw D (2 * c + 1)).length))]) ⟨rfl, rfl, by rw [List.length_append]; rfl, trivial⟩ hQ9
    · intro h115
      exact absurd h115 (by omega)
  | succ m ih =>
    intro k w A1 hm hM hO hA hL
    have hA6 : A1 6 (2 * c + 1) = nI (dVw D (2 * c + 1)).length := by rw [hA 6 (by decide) (by decide)]; exact hv1
    have hA5 : A1 5 (24 * (2 * c) + 24 + k) = nI ((dVw D (2 * c + 1)).getD k 0) := by rw [hA 5 (by decide) (by decide), show 24 * (2 * c) + 24 + k = 24 * (2 * c + 1) + k by omega]; exact hv2 k (by omega)
    have hL2 := hL.snoc ((dVw D (2 * c + 1)).getD k 0)
    rw [List.append_assoc, ← tk_succ _ (by omega), List.length_append, List.length_take, Nat.min_eq_left (by omega)] at hL2
    refine kx_iload d_M_seen_105 rfl ?_
    refine kx_aload_n d_M_seen_107 rfl (by first | rfl | exact kx_rf _) ?_
    refine kx_get _ d_M_seen_108 f_M_29 hM.1 (by rfl) ?_
    refine kx_iload_n d_M_seen_111 rfl ?_
    refine kx_iconst (nI 1) d_M_seen_112 (by decide) ?_
    first | refine kx_iadd _ d_M_seen_113 (nI_add _ _) ?_ | refine kx_iadd _ d_M_seen_113 rfl ?_
    refine kx_iald d_M_seen_114 hM.a6 (by omega) (by decide) ?_
    rw [hA6]
    first | refine kx_icmp_ge_n 148 d_M_seen_115 (by decide) (by omega) (by omega) ?_ ?_ | refine kx_icmp_ge 148 d_M_seen_115 (by decide) ?_ ?_
    · intro h115
      exact absurd h115 (by omega)
    · intro h115
      refine kx_aload_n d_M_seen_118 rfl (by first | rfl | exact kx_rf _) ?_
      refine kx_get _ d_M_seen_119 f_M_86 hM.1 (by rfl) ?_
      refine kx_iload_n d_M_seen_122 rfl ?_
      refine kx_aload_n d_M_seen_123 rfl (by first | rfl | exact kx_rf _) ?_
      refine kx_get _ d_M_seen_124 f_M_26 hM.1 (by rfl) ?_
      refine kx_bipush (nI 24) d_M_seen_127 (by decide) ?_
      refine kx_iload_n d_M_seen_129 rfl ?_
      first | refine kx_imul _ d_M_seen_130 (pk_mul _ _) ?_ | refine kx_imul _ d_M_seen_130 rfl ?_
      refine kx_bipush (nI 24) d_M_seen_131 (by decide) ?_
      first | refine kx_iadd _ d_M_seen_133 (nI_add _ _) ?_ | refine kx_iadd _ d_M_seen_133 rfl ?_
      refine kx_iload d_M_seen_134 rfl ?_
      first | refine kx_iadd _ d_M_seen_136 (nI_add _ _) ?_ | refine kx_iadd _ d_M_seen_136 rfl ?_
      refine kx_iald d_M_seen_137 hM.a5 (by omega) (by decide) ?_
      rw [hA5]
      refine mA_put (j := 25) d_M_seen_138 hM hO (by decide) (len := 24) rfl (by decide) (by omega) (fun w hM hO => ?_)
      refine kx_iinc _ d_M_seen_139 rfl (by decide) (nI_1 _) ?_
      refine kx_iinc _ d_M_seen_142 rfl (by decide) (nI_1 _) ?_
      refine kx_goto 105 d_M_seen_145 (by decide) ?_
      refine kx_loc (L1 := [(0, .ref (ma 0)), (1, .int (nI c)), (2, .int (nI (2 * c))), (3, .int (nI (b.length + (k + 1)))), (4, .int (nI (k + 1)))]) ⟨rfl, rfl, rfl, rfl, rfl, trivial⟩ ?_
      exact ih (k + 1) w _ (by omega) hM hO hA.up hL2
set_option maxRecDepth 20000 in
set_option maxHeartbeats 4000000 in
theorem l_M_seen4 {E : kx_E} {w : va_W} {ma : Nat → Nat} {F : Nat → Int32} {A : Nat → Nat → Int32} (hM : Mdl E w ma F A) {t : List Nat} {c k : Nat} (h24 : t.length ≤ 24) (hL : LnR A t) (hi : ∀ v ∈ t, v < 2 ^ 31) (hk : k < t.length) {z : kx_Z} {Q : kx_O → va_W → Prop} (h1 : ¬ dst t (k + 1) → Q (.inl (some (.int (nI 0)))) w) (h2 : dst t (k + 1) → kx_R E Y_M_seen z 196 [(0, .ref (ma 0)), (1, .int (nI c)), (3, .int (nI t.length)), (4, .int (nI k))] [] w 0 0 Q) (hd : dst t k) :
    ∀ (m j : Nat), m + j = k → (∀ i, i < j → t.getD i 0 / 2 ≠ t.getD k 0 / 2) → kx_R E Y_M_seen z 160 [(0, .ref (ma 0)), (1, .int (nI c)), (3, .int (nI t.length)), (4, .int (nI k)), (5, .int (nI j))] [] w 0 0 Q := by
  have hvk := hi _ (row_get t hk)
  intro m
  induction m with
  | zero =>
    intro j hj hs
    have hj : j = k := by omega
    subst hj
    have hd2 : dst t (j + 1) := fun a b hab hb => by
      by_cases e : b = j
      · subst e; exact hs a hab
      · exact hd a b hab (by omega)
    have h9 := h2 hd2
    clear hs hd2 hd h1 h2
    refine kx_iload d_M_seen_160 rfl ?_
    refine kx_iload d_M_seen_162 rfl ?_
    first | refine kx_icmp_ge_n 196 d_M_seen_164 (by decide) (by omega) (by omega) ?_ ?_ | refine kx_icmp_ge 196 d_M_seen_164 (by decide) ?_ ?_
    · intro h164
      exact kx_loc (L1 := [(0, .ref (ma 0)), (1, .int (nI c)), (3, .int (nI t.length)), (4, .int (nI j))]) ⟨rfl, rfl, rfl, rfl, trivial⟩ h9
    · intro h164
      exact absurd h164 (by omega)
  | succ m ih =>
    intro j hj hs
    have hvj := hi _ (row_get t (k := j) (by omega))
    have g1 : t.getD j 0 / 2 = t.getD k 0 / 2 → ¬ dst t (k + 1) := fun e q => q j k (by omega) (by omega) e
    have g2 : t.getD j 0 / 2 ≠ t.getD k 0 / 2 → ∀ i, i < j + 1 → t.getD i 0 / 2 ≠ t.getD k 0 / 2 := fun e i hi2 => by
      by_cases e2 : i = j
      · subst e2; exact e
      · exact hs i (by omega)
    clear hs
    refine kx_iload d_M_seen_160 rfl ?_
    refine kx_iload d_M_seen_162 rfl ?_
    first | refine kx_icmp_ge_n 196 d_M_seen_164 (by decide) (by omega) (by omega) ?_ ?_ | refine kx_icmp_ge 196 d_M_seen_164 (by decide) ?_ ?_
    · intro h164
      exact absurd h164 (by omega)
    · intro h164
      refine kx_aload_n d_M_seen_167 rfl (by first | rfl | exact kx_rf _) ?_
      refine kx_get _ d_M_seen_168 f_M_86 hM.1 (by rfl) ?_
      refine kx_iload d_M_seen_171 rfl ?_
      refine kx_iald d_M_seen_173 hM.a25 (by omega) (by decide) ?_
      rw [hL k hk]
      refine kx_iconst (nI 2) d_M_seen_174 (by decide) ?_
      first | refine kx_idiv _ d_M_seen_175 (by decide) (pk_div (by omega) (by omega) (by omega)) ?_ | refine kx_idiv _ d_M_seen_175 (by decide) rfl ?_
      refine kx_aload_n d_M_seen_176 rfl (by first | rfl | exact kx_rf _) ?_
      refine kx_get _ d_M_seen_177 f_M_86 hM.1 (by rfl) ?_
      refine kx_iload d_M_seen_180 rfl ?_
      refine kx_iald d_M_seen_182 hM.a25 (by omega) (by decide) ?_
      rw [hL j (by omega)]
      refine kx_iconst (nI 2) d_M_seen_183 (by decide) ?_
      first | refine kx_idiv _ d_M_seen_184 (by decide) (pk_div (by omega) (by omega) (by omega)) ?_ | refine kx_idiv _ d_M_seen_184 (by decide) rfl ?_
      first | refine kx_icmp_ne_n 190 d_M_seen_185 (by decide) (by omega) (by omega) ?_ ?_ | refine kx_icmp_ne 190 d_M_seen_185 (by decide) ?_ ?_
      · intro h185
        refine kx_iinc _ d_M_seen_190 rfl (by decide) (nI_1 _) ?_
        refine kx_goto 160 d_M_seen_193 (by decide) ?_
        refine kx_loc (L1 := [(0, .ref (ma 0)), (1, .int (nI c)), (3, .int (nI t.length)), (4, .int (nI k)), (5, .int (nI (j + 1)))]) ⟨rfl, rfl, rfl, rfl, rfl, trivial⟩ ?_
        exact ih (j + 1) (by omega) (g2 (fun e => h185 (by omega)))
      · intro h185
        refine kx_iconst (nI 0) d_M_seen_188 (by decide) ?_
        refine kx_iret d_M_seen_189 rfl (by decide) (by decide) ?_
        exact h1 (g1 (by omega))
set_option maxRecDepth 20000 in
set_option maxHeartbeats 4000000 in
theorem l_M_seen3 {E : kx_E} {w : va_W} {ma : Nat → Nat} {F : Nat → Int32} {A : Nat → Nat → Int32} (hM : Mdl E w ma F A) {t : List Nat} {c : Nat} (h24 : t.length ≤ 24) (hL : LnR A t) (hi : ∀ v ∈ t, v < 2 ^ 31) {z : kx_Z} {Q : kx_O → va_W → Prop} (h1 : ¬ dst t t.length → Q (.inl (some (.int (nI 0)))) w) (h2 : dst t t.length → kx_R E Y_M_seen z 202 [(0, .ref (ma 0)), (1, .int (nI c)), (3, .int (nI t.length))] [] w 0 0 Q) :
    ∀ (m k : Nat), m + k = t.length → dst t k → kx_R E Y_M_seen z 151 [(0, .ref (ma 0)), (1, .int (nI c)), (3, .int (nI t.length)), (4, .int (nI k))] [] w 0 0 Q := by
  intro m
  induction m with
  | zero =>
    intro k hk hd
    have hk : k = t.length := by omega
    subst hk
    have h9 := h2 hd
    clear hd h1 h2
    refine kx_iload d_M_seen_151 rfl ?_
    refine kx_iload_n d_M_seen_153 rfl ?_
    first | refine kx_icmp_ge_n 202 d_M_seen_154 (by decide) (by omega) (by omega) ?_ ?_ | refine kx_icmp_ge 202 d_M_seen_154 (by decide) ?_ ?_
    · intro h154
      exact kx_loc (L1 := [(0, .ref (ma 0)), (1, .int (nI c)), (3, .int (nI t.length))]) ⟨rfl, rfl, rfl, trivial⟩ h9
    · intro h154
      exact absurd h154 (by omega)
  | succ m ih =>
    intro k hk hd
    have hkl : k < t.length := by omega
    have h19 : ¬ dst t (k + 1) → Q (.inl (some (.int (nI 0)))) w := fun q => h1 (fun q2 => q (fun a b hab hb => q2 a b hab (by omega)))
    have h29 : dst t (k + 1) → kx_R E Y_M_seen z 196 [(0, .ref (ma 0)), (1, .int (nI c)), (3, .int (nI t.length)), (4, .int (nI k))] [] w 0 0 Q := fun hd2 => by
      clear h1 h2 h19
      refine kx_iinc _ d_M_seen_196 rfl (by decide) (nI_1 _) ?_
      refine kx_goto 151 d_M_seen_199 (by decide) ?_
      refine kx_loc (L1 := [(0, .ref (ma 0)), (1, .int (nI c)), (3, .int (nI t.length)), (4, .int (nI (k + 1)))]) ⟨rfl, rfl, rfl, rfl, trivial⟩ ?_
      exact ih (k + 1) (by omega) hd2
    have h3 := l_M_seen4 (c := c) hM h24 hL hi hkl h19 h29 hd k 0 rfl (fun i hi => absurd hi (Nat.not_lt_zero _))
    clear h1 h2 h19 h29 hd ih
    refine kx_iload d_M_seen_151 rfl ?_
    refine kx_iload_n d_M_seen_153 rfl ?_
    first | refine kx_icmp_ge_n 202 d_M_seen_154 (by decide) (by omega) (by omega) ?_ ?_ | refine kx_icmp_ge 202 d_M_seen_154 (by decide) ?_ ?_
    · intro h154
      exact absurd h154 (by omega)
    · intro h154
      refine kx_iconst (nI 0) d_M_seen_157 (by decide) ?_
      refine kx_istore d_M_seen_158 (by decide) ?_
      exact kx_loc (L1 := [(0, .ref (ma 0)), (1, .int (nI c)), (3, .int (nI t.length)), (4, .int (nI k)), (5, .int (nI 0))]) ⟨rfl, rfl, rfl, rfl, rfl, trivial⟩ h3
theorem seeT_len (l0 l1 : List Nat) (p : Nat) : (seeT l0 l1 p).length = l0.length + 1 + l1.length := by unfold seeT; rw [List.length_append, List.length_append, rowTurn_len]; rfl
theorem seeT_lt {n : Nat} {l0 l1 : List Nat} {p : Nat} (h0 : ∀ v ∈ l0, v < 2 * n) (h1 : ∀ v ∈ l1, v < 2 * n) (hp : p < 2 * n) : ∀ v ∈ seeT l0 l1 p, v < 2 * n := by
  intro v hv
  unfold seeT at hv
  rcases List.mem_append.mp hv with h | h
  · rcases List.mem_append.mp h with h | h
    · exact turn_lt h0 v h
    · rw [List.mem_singleton.mp h]; exact hp
  · exact h1 v h
theorem seeM_it {n : Nat} {X : Fx} {D : Dy} (hD : WfD n D) {c : Nat} (hc : c < n) : itL n (seeM X D c) := by
  have v0 := (hD.1 (2 * c) (by omega)).1
  have v1 := (hD.1 (2 * c + 1) (by omega)).1
  unfold seeM
  split
  · exact ⟨Nat.zero_le _, fun x hx => by cases hx⟩
  · rename_i h
    have hl := seeT_len (dVw D (2 * c)) (dVw D (2 * c + 1)) (2 * c)
    have hb := seeT_lt v0.2 v1.2 (show 2 * c < 2 * n by omega)
    unfold seeS
    split
    · exact ⟨Nat.zero_le _, fun x hx => by cases hx⟩
    · split
      · exact ⟨by rw [rowTurn_len]; omega, turn_lt hb⟩
      · exact ⟨by omega, hb⟩
set_option maxRecDepth 20000 in
set_option maxHeartbeats 4000000 in
theorem m_M_seen {E : kx_E} {w : va_W} {ma : Nat → Nat} {F : Nat → Int32} {A : Nat → Nat → Int32} (hM : Mdl E w ma F A) {n : Nat} {X : Fx} {D : Dy} (hR : ModR n X D A) (hX : WfX n X) (hD : WfD n D) (hn : F 1 = nI n) {c : Nat} (hc : c < n) : kx_S E Y_M_seen [.ref (ma 0), .int (nI c)] w (MP E w ma F (fun A1 => lnO A A1 ∧ LnR A1 (seeM X D c)) (some (.int (nI (seeM X D c).length)))) := by
  refine kx_go (by decide) rfl rfl (Nat.le_of_ble_eq_true rfl) (kx_cc rfl (kx_cc rfl kx_c0)) (fun z => ?_)
  have hO : kx_off w w mdlN := kx_off.rf
  have h24 := hX.1
  obtain ⟨w0, hw0⟩ : ∃ w0, w0 = w := ⟨_, rfl⟩
  have hO : kx_off w0 w mdlN := by rw [hw0]; exact kx_off.rf
  refine kx_q9 (Q := MP E w0 ma F (fun A1 => lnO A A1 ∧ LnR A1 (seeM X D c)) (some (.int (nI (seeM X D c).length)))) (by rw [hw0]) ?_
  have v0 := hD.1 (2 * c) (by omega)
  have v1 := hD.1 (2 * c + 1) (by omega)
  have b0 := v0.2.1
  have b1 := v1.2.1
  have l0 := v0.1.1
  have l1 := v1.1.1
  have hw00 := hR.whs (2 * c) (by omega)
  have hw01 := hR.whs (2 * c + 1) (by omega)
  have hs0 := (hR.vws (2 * c) (by omega)).1
  have hs1 := (hR.vws (2 * c + 1) (by omega)).1
  have tlen := seeT_len (dVw D (2 * c)) (dVw D (2 * c + 1)) (2 * c)
  have hlt := seeT_lt v0.1.2 v1.1.2 (show 2 * c < 2 * n by omega)
  have key : ¬ (dWh D (2 * c) = 0 ∨ dWh D (2 * c + 1) = 0 ∨ 23 < (dVw D (2 * c)).length + (dVw D (2 * c + 1)).length) → seeM X D c = seeS (xId X) (seeT (dVw D (2 * c)) (dVw D (2 * c + 1)) (2 * c)) := fun q => by unfold seeM; rw [if_neg q]
  have kno : (dWh D (2 * c) = 0 ∨ dWh D (2 * c + 1) = 0 ∨ 23 < (dVw D (2 * c)).length + (dVw D (2 * c + 1)).length) → seeM X D c = [] := fun q => by unfold seeM; rw [if_pos q]
  refine kx_iconst (nI 2) d_M_seen_0 (by decide) ?_
  refine kx_iload_n d_M_seen_1 rfl ?_
  first | refine kx_imul _ d_M_seen_2 (pk_mul _ _) ?_ | refine kx_imul _ d_M_seen_2 rfl ?_
  refine kx_istore_n d_M_seen_3 (by decide) ?_
  refine kx_aload_n d_M_seen_4 rfl (by first | rfl | exact kx_rf _) ?_
  refine kx_get _ d_M_seen_5 f_M_32 hM.1 (by rfl) ?_
  refine kx_iload_n d_M_seen_8 rfl ?_
  refine kx_zald d_M_seen_9 hM.a7 (by omega) (by decide) ?_
  rw [hw00]
  first | refine kx_if_eq_n 44 d_M_seen_10 (by decide) (by omega) ?_ ?_ | refine kx_if_eq 44 d_M_seen_10 (by decide) ?_ ?_
  · intro h10
    refine kx_iconst (nI 0) d_M_seen_44 (by decide) ?_
    have hz : seeM X D c = [] := kno (by omega)
    rw [hz]
    exact kx_iret d_M_seen_45 rfl (by decide) (by decide) ⟨rfl, A, hM, ⟨lnO.rf, fun k hk => absurd hk (Nat.not_lt_zero _)⟩, hO⟩
  · intro h10
    refine kx_aload_n d_M_seen_13 rfl (by first | rfl | exact kx_rf _) ?_
    refine kx_get _ d_M_seen_14 f_M_32 hM.1 (by rfl) ?_
    refine kx_iload_n d_M_seen_17 rfl ?_
    refine kx_iconst (nI 1) d_M_seen_18 (by decide) ?_
    first | refine kx_iadd _ d_M_seen_19 (nI_add _ _) ?_ | refine kx_iadd _ d_M_seen_19 rfl ?_
    refine kx_zald d_M_seen_20 hM.a7 (by omega) (by decide) ?_
    rw [hw01]
    first | refine kx_if_eq_n 44 d_M_seen_21 (by decide) (by omega) ?_ ?_ | refine kx_if_eq 44 d_M_seen_21 (by decide) ?_ ?_
    · intro h21
      refine kx_iconst (nI 0) d_M_seen_44 (by decide) ?_
      have hz : seeM X D c = [] := kno (by omega)
      rw [hz]
      exact kx_iret d_M_seen_45 rfl (by decide) (by decide) ⟨rfl, A, hM, ⟨lnO.rf, fun k hk => absurd hk (Nat.not_lt_zero _)⟩, hO⟩
    · intro h21
      refine kx_aload_n d_M_seen_24 rfl (by first | rfl | exact kx_rf _) ?_
      refine kx_get _ d_M_seen_25 f_M_29 hM.1 (by rfl) ?_
      refine kx_iload_n d_M_seen_28 rfl ?_
      refine kx_iald d_M_seen_29 hM.a6 (by omega) (by decide) ?_
      rw [hs0]
      refine kx_aload_n d_M_seen_30 rfl (by first | rfl | exact kx_rf _) ?_
      refine kx_get _ d_M_seen_31 f_M_29 hM.1 (by rfl) ?_
      refine kx_iload_n d_M_seen_34 rfl ?_
      refine kx_iconst (nI 1) d_M_seen_35 (by decide) ?_
      first | refine kx_iadd _ d_M_seen_36 (nI_add _ _) ?_ | refine kx_iadd _ d_M_seen_36 rfl ?_
      refine kx_iald d_M_seen_37 hM.a6 (by omega) (by decide) ?_
      rw [hs1]
      first | refine kx_iadd _ d_M_seen_38 (nI_add _ _) ?_ | refine kx_iadd _ d_M_seen_38 rfl ?_
      refine kx_bipush (nI 23) d_M_seen_39 (by decide) ?_
      first | refine kx_icmp_le_n 46 d_M_seen_41 (by decide) (by omega) (by omega) ?_ ?_ | refine kx_icmp_le 46 d_M_seen_41 (by decide) ?_ ?_
      · intro h41
        refine kx_iconst (nI 0) d_M_seen_46 (by decide) ?_
        refine kx_istore_n d_M_seen_47 (by decide) ?_
        refine kx_aload_n d_M_seen_48 rfl (by first | rfl | exact kx_rf _) ?_
        refine kx_get _ d_M_seen_49 f_M_29 hM.1 (by rfl) ?_
        refine kx_iload_n d_M_seen_52 rfl ?_
        refine kx_iald d_M_seen_53 hM.a6 (by omega) (by decide) ?_
        rw [hs0]
        refine kx_iconst (nI 1) d_M_seen_54 (by decide) ?_
        refine kx_isub _ d_M_seen_55 (kI_sub _ (by omega)) ?_
        refine kx_istore d_M_seen_56 (by decide) ?_
        refine kx_loc (L1 := [(0, .ref (ma 0)), (1, .int (nI c)), (2, .int (nI (2 * c))), (3, .int (nI 0)), (4, .int (kI (dVw D (2 * c)).length))]) ⟨rfl, rfl, rfl, rfl, rfl, trivial⟩ ?_
        have hs : seeM X D c = seeS (xId X) (seeT (dVw D (2 * c)) (dVw D (2 * c + 1)) (2 * c)) := key (by omega)
        clear key kno
        obtain ⟨t, ht⟩ : ∃ t, t = (seeT (dVw D (2 * c)) (dVw D (2 * c + 1)) (2 * c)) := ⟨_, rfl⟩
        rw [hs]
        refine l_M_seen1 hR hX hD hc (fun w A1 hM hO hA1 hL1 => ?_) (by omega) (dVw D (2 * c)).length 0 w A rfl hM hO lnO.rf (fun k hk => absurd hk (by rw [List.take_zero]; exact Nat.not_lt_zero _))
        have hL2 := hL1.snoc (2 * c)
        rw [rowTurn_len] at hL2
        have hA2 := hA1.up (f := upd (A1 25) (dVw D (2 * c)).length (nI (2 * c)))
        refine kx_aload_n d_M_seen_92 rfl (by first | rfl | exact kx_rf _) ?_
        refine kx_get _ d_M_seen_93 f_M_86 hM.1 (by rfl) ?_
        refine kx_iload_n d_M_seen_96 rfl ?_
        refine kx_iload_n d_M_seen_97 rfl ?_
        refine mA_put (j := 25) d_M_seen_98 hM hO (by decide) (len := 24) rfl (by decide) (by omega) (fun w hM hO => ?_)
        refine kx_iinc _ d_M_seen_99 rfl (by decide) (nI_1 _) ?_
        refine kx_iconst (nI 0) d_M_seen_102 (by decide) ?_
        refine kx_istore d_M_seen_103 (by decide) ?_
        refine kx_loc (L1 := [(0, .ref (ma 0)), (1, .int (nI c)), (2, .int (nI (2 * c))), (3, .int (nI ((rowTurn (dVw D (2 * c)) ++ [2 * c]).length + 0))), (4, .int (nI 0))]) ⟨rfl, rfl, rfl, by rw [List.length_append, rowTurn_len]; rfl, rfl, trivial⟩ ?_
        refine l_M_seen2 hR hX hD hc (b := rowTurn (dVw D (2 * c)) ++ [2 * c]) (by rw [List.length_append, rowTurn_len, List.length_singleton]; omega) (fun w A3 hM hO hA3 hL3 => ?_) (dVw D (2 * c + 1)).length 0 w _ rfl hM hO hA2 (by rw [List.take_zero, List.append_nil]; exact hL2)
        refine kx_iconst (nI 0) d_M_seen_148 (by decide) ?_
        refine kx_istore d_M_seen_149 (by decide) ?_
        refine kx_loc (L1 := [(0, .ref (ma 0)), (1, .int (nI c)), (3, .int (nI (rowTurn (dVw D (2 * c)) ++ [2 * c] ++ dVw D (2 * c + 1)).length)), (4, .int (nI 0))]) ⟨rfl, rfl, rfl, rfl, trivial⟩ ?_
        rw [← ht] at hlt tlen ⊢
        have hpos : 0 < t.length := by omega
        have j0 := hlt _ (row_get t (k := 0) hpos)
        have j1 := hlt _ (row_get t (k := t.length - 1) (by omega))
        have e0 := (hX.2.1 (t.getD 0 0 / 2) (by omega)).2
        have e1 := (hX.2.1 (t.getD (t.length - 1) 0 / 2) (by omega)).2
        have htl : rowTurn (dVw D (2 * c)) ++ [2 * c] ++ dVw D (2 * c + 1) = t := ht.symm
        rw [htl] at hL3 ⊢
        refine l_M_seen3 hM (t := t) (by omega) hL3 (fun v hv => by have := hlt v hv; omega) (fun q => ?_) (fun q => ?_) t.length 0 rfl (fun a b hab hb => absurd hb (Nat.not_lt_zero _))
        · have e9 : seeS (xId X) t = [] := by unfold seeS; rw [if_pos (by rcases rowTw_01 t with h | h; exact absurd ((dst_tw t).mp h) q; exact h)]
          rw [e9]
          exact ⟨rfl, A3, hM, ⟨hA3, fun k hk => absurd hk (Nat.not_lt_zero _)⟩, hO⟩
        · have e9 : seeS (xId X) t = if xId X (t.getD (t.length - 1) 0 / 2) < xId X (t.getD 0 0 / 2) then rowTurn t else t := by unfold seeS; rw [if_neg (by rw [(dst_tw t).mpr q]; decide)]
          clear q
          rw [e9]
          refine kx_aload_n d_M_seen_202 rfl (by first | rfl | exact kx_rf _) ?_
          refine kx_get _ d_M_seen_203 f_M_7 hM.1 (by rfl) ?_
          refine kx_aload_n d_M_seen_206 rfl (by first | rfl | exact kx_rf _) ?_
          refine kx_get _ d_M_seen_207 f_M_86 hM.1 (by rfl) ?_
          refine kx_iconst (nI 0) d_M_seen_210 (by decide) ?_
          refine kx_iald d_M_seen_211 hM.a25 (by omega) (by decide) ?_
          rw [hL3 0 hpos]
          refine kx_iconst (nI 2) d_M_seen_212 (by decide) ?_
          refine kx_idiv _ d_M_seen_213 (by decide) (pk_div (by omega) (by omega) (by omega)) ?_
          refine kx_iald d_M_seen_214 hM.a0 (by omega) (by decide) ?_
          rw [hA3 0 (by decide) (by decide), hR.ids _ (by omega)]
          refine kx_aload_n d_M_seen_215 rfl (by first | rfl | exact kx_rf _) ?_
          refine kx_get _ d_M_seen_216 f_M_7 hM.1 (by rfl) ?_
          refine kx_aload_n d_M_seen_219 rfl (by first | rfl | exact kx_rf _) ?_
          refine kx_get _ d_M_seen_220 f_M_86 hM.1 (by rfl) ?_
          refine kx_iload_n d_M_seen_223 rfl ?_
          refine kx_iconst (nI 1) d_M_seen_224 (by decide) ?_
          refine kx_isub _ d_M_seen_225 (pk_sub (by omega)) ?_
          refine kx_iald d_M_seen_226 hM.a25 (by omega) (by decide) ?_
          rw [hL3 _ (by omega)]
          refine kx_iconst (nI 2) d_M_seen_227 (by decide) ?_
          refine kx_idiv _ d_M_seen_228 (by decide) (pk_div (by omega) (by omega) (by omega)) ?_
          refine kx_iald d_M_seen_229 hM.a0 (by omega) (by decide) ?_
          rw [hA3 0 (by decide) (by decide), hR.ids _ (by omega)]
          refine kx_icmp_le_n 238 d_M_seen_230 (by decide) (by omega) (by omega) ?_ ?_
          · intro h230
            rw [if_neg (by omega)]
            refine kx_iload_n d_M_seen_238 rfl ?_
            refine kx_iret d_M_seen_239 rfl (by decide) (by decide) ?_
            first
              | exact ⟨rfl, A3, hM, ⟨hA3, hL3⟩, hO⟩
              | exact ⟨rfl, A4, hM, ⟨hA3.tr hP9.1, hP9.2⟩, hO⟩
          · intro h230
            rw [if_pos (by omega), rowTurn_len]
            refine kx_aload_n d_M_seen_233 rfl (by first | rfl | exact kx_rf _) ?_
            refine kx_iload_n d_M_seen_234 rfl ?_
            refine kx_callV (as := [.int (nI t.length)]) (rest := []) d_M_seen_235 v_M_109 rfl hM.1 rfl rfl (by decide) (by decide) (Nat.le_of_ble_eq_true rfl) (by decide) (by decide) rfl (m_M_turn hM (by omega) hL3) (fun X w1 h => by cases h.1) (fun v w hq9 => ?_)
            obtain ⟨hv, A4, hM, hP9, hO9⟩ := hq9
            cases hv
            have hO := hO.tr hO9 (fun _ h => h) (fun _ h => h)
            refine kx_stk (st1 := []) rfl ?_
            refine kx_iload_n d_M_seen_238 rfl ?_
            refine kx_iret d_M_seen_239 rfl (by decide) (by decide) ?_
            first
              | exact ⟨rfl, A3, hM, ⟨hA3, hL3⟩, hO⟩
              | exact ⟨rfl, A4, hM, ⟨hA3.tr hP9.1, hP9.2⟩, hO⟩
      · intro h41
        refine kx_iconst (nI 0) d_M_seen_44 (by decide) ?_
        have hz : seeM X D c = [] := kno (by omega)
        rw [hz]
        exact kx_iret d_M_seen_45 rfl (by decide) (by decide) ⟨rfl, A, hM, ⟨lnO.rf, fun k hk => absurd hk (Nat.not_lt_zero _)⟩, hO⟩
