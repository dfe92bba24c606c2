/-! One call of the script -/
set_option maxRecDepth 20000 in
set_option maxHeartbeats 4000000 in
theorem c_W_add {E : kx_E} {z : kx_Z} {b N : Nat} {xs : Nat → Int32} {a0 m0 oa k : Nat} {w : va_W} {f : Nat → Int64} {t : Int32} {kc ks : Nat} {Q : kx_O → va_W → Prop} (hX : kx_Sc E z b N xs) (hN : N ≤ 2560) (hk : 5 * k + 4 < N) (hW : LW E a0 m0 t w) (ho : w[33]? = some (oa, kx_aj E 1 f)) (h1 : kc + 50 ≤ 601024) (h2 : ks + 600 ≤ 7293034) (kk : ∀ w1 t1 f1, LW E a0 m0 t1 w1 → w1[33]? = some (oa, kx_aj E 1 f1) → kx_R E Y_W z 1105 [(0, .ref b), (1, .ref a0), (2, .ref m0), (3, .ref oa), (4, .int (nI (5 * k)))] [] w1 (kc + 50) (ks + 600) Q) : kx_R E Y_W z 112 [(0, .ref b), (1, .ref a0), (2, .ref m0), (3, .ref oa), (4, .int (nI (5 * k)))] [] w kc ks Q := by
  obtain ⟨n, ad, X, D, F, T, pe, bi, ma, A, hS, hF⟩ := hW
  have hS1 := hS
  obtain ⟨rfl, rfl, hC, hM, hI, hR, hZ⟩ := hS1
  obtain ⟨k9, b9, Qc, hc, hq⟩ := op_add hS (xs (5 * k + 1)) (xs (5 * k + 2))
  refine kx_aload_n d_W_112 rfl (by rfl) ?_
  refine kx_aload_n d_W_113 rfl (by rfl) ?_
  refine kx_iload d_W_114 rfl ?_
  refine kx_iconst (nI 1) d_W_116 (by decide) ?_
  refine kx_iadd _ d_W_117 (nI_add _ _) ?_
  refine kx_sld d_W_118 hX (by omega) (by omega) ?_
  refine kx_aload_n d_W_119 rfl (by rfl) ?_
  refine kx_iload d_W_120 rfl ?_
  refine kx_iconst (nI 2) d_W_122 (by decide) ?_
  refine kx_iadd _ d_W_123 (nI_add _ _) ?_
  refine kx_sld d_W_124 hX (by omega) (by omega) ?_
  refine kx_aload_n d_W_125 rfl (by rfl) ?_
  refine kx_callSH (as := [.ref (ad 0), .int (xs (5 * k + 1)), .int (xs (5 * k + 2)), .ref oa]) (rest := []) d_W_126 s_W_66 rfl (by decide) (by decide) (by decide) (by show _ + _ ≤ 601024; simp only [Nat.add_zero]; omega) (by show _ + _ ≤ 7293034; simp only [Nat.add_zero]; omega) rfl (m_L_add hC.bus ho hc (fun o w1 h => ⟨(hq o w1 h).1, (hq o w1 h).2.1⟩)) (fun X w1 h => by cases h.1) (fun v w1 hq9 => ?_)
  obtain ⟨hv, o1, w0, g, g1, g2, g3, g4⟩ := hq9
  cases hv
  obtain ⟨r1, r2, r3⟩ := hq o1 w0 g1
  obtain ⟨Qm, m1, m2⟩ := r3 w1 g2
  have h6 := ((g2.2 6 (by omega)).trans (r2 6 (by omega) (by omega))).trans hM.1
  have k3 := R2_3 r1
  refine kx_stk (st1 := [.int (nI k9)]) rfl ?_
  refine kx_istore d_W_129 (by decide) ?_
  refine kx_aload_n d_W_131 rfl (by rfl) ?_
  refine kx_aload_n d_W_132 rfl (by rfl) ?_
  refine kx_iload d_W_133 rfl ?_
  refine kx_iconst (nI 1) d_W_135 (by decide) ?_
  refine kx_iadd _ d_W_136 (nI_add _ _) ?_
  refine kx_sld d_W_137 hX (by omega) (by omega) ?_
  refine kx_aload_n d_W_138 rfl (by rfl) ?_
  refine kx_iload d_W_139 rfl ?_
  refine kx_iconst (nI 2) d_W_141 (by decide) ?_
  refine kx_iadd _ d_W_142 (nI_add _ _) ?_
  refine kx_sld d_W_143 hX (by omega) (by omega) ?_
  refine kx_callV (as := [.int (xs (5 * k + 1)), .int (xs (5 * k + 2))]) (rest := []) d_W_144 v_W_71 rfl h6 rfl rfl (by decide) (by decide) (by decide) (by show _ + _ ≤ 601024; simp only [Nat.add_zero]; omega) (by show _ + _ ≤ 7293034; simp only [Nat.add_zero]; omega) rfl m1 (fun X w1 h => ?_) (fun v w3 hq8 => ?_)
  · obtain ⟨_, h, -⟩ := m2 _ _ h
    cases h
  · obtain ⟨b8, e1, e2, e3, e4⟩ := m2 _ _ hq8
    cases e1
    obtain ⟨n9, ad9, X9, D9, F9, T9, pe9, bi9, ma9, A9, hS9, hF9⟩ := e3
    have hS8 := hS9
    obtain ⟨ea, em, hC9, hM9, -, -, -⟩ := hS8
    refine kx_stk (st1 := [.int b8]) rfl ?_
    refine kx_istore d_W_147 (by decide) ?_
    refine kx_aload_n d_W_149 rfl (by rfl) ?_
    have hth := m_M_thrown hM9
    have h69 := hM9.1
    rw [em] at hth h69
    refine kx_callV (as := []) (rest := []) d_W_150 v_W_72 rfl h69 rfl rfl (by decide) (by decide) (by decide) (by show _ + _ ≤ 601024; simp only [Nat.add_zero]; omega) (by show _ + _ ≤ 7293034; simp only [Nat.add_zero]; omega) rfl hth (fun X w1 h => by cases h.1) (fun v w4 hq7 => ?_)
    obtain ⟨hv7, hw7⟩ := hq7
    cases hv7
    subst hw7
    rw [hF9]
    refine kx_stk (st1 := [.int (nI k9)]) rfl ?_
    refine kx_iload d_W_153 rfl ?_
    refine kx_icmp_eq 160 d_W_155 (by decide) (fun _ => ?_) (fun h => absurd rfl h)
    refine kx_iload d_W_160 rfl ?_
    refine kx_if_ne_n 177 d_W_162 (by decide) (by omega) (fun _ => ?_) (fun hk0 => ?_)
    · refine kx_goto 1105 d_W_177 (by decide) ?_
      refine kx_wide (kc1 := kc + 50) (ks1 := ks + 600) (by show _ + _ + _ + _ ≤ _; simp only [Nat.add_zero]; omega) (by show _ + _ + _ + _ ≤ _; simp only [Nat.add_zero]; omega) (kx_loc (L1 := [(0, .ref b), (1, .ref (ad 0)), (2, .ref (ma 0)), (3, .ref oa), (4, .int (nI (5 * k)))]) ⟨rfl, rfl, rfl, rfl, rfl, trivial⟩ ?_)
      exact kk w4 _ _ ⟨n9, ad9, X9, D9, F9, T9, pe9, bi9, ma9, A9, hS9, hF9⟩ (e4.trans g3)
    · have e2 := e2 hk0
      have g4 := g4 hk0
      subst e2
      have g5 := e4.trans g3
      refine kx_aload_n d_W_165 rfl (by rfl) ?_
      refine kx_iconst (nI 0) d_W_166 (by decide) ?_
      refine kx_lald (x := 33) d_W_167 g5 (by decide) (by decide) ?_
      rw [g4]
      refine kx_iload d_W_168 rfl ?_
      refine kx_i2l d_W_170 ?_
      refine kx_lcmp d_W_171 ?_
      rw [lg_self]
      refine kx_if_eq 177 d_W_172 (by decide) (fun _ => ?_) (fun h => absurd rfl h)
      refine kx_goto 1105 d_W_177 (by decide) ?_
      refine kx_wide (kc1 := kc + 50) (ks1 := ks + 600) (by show _ + _ + _ + _ ≤ _; simp only [Nat.add_zero]; omega) (by show _ + _ + _ + _ ≤ _; simp only [Nat.add_zero]; omega) (kx_loc (L1 := [(0, .ref b), (1, .ref (ad 0)), (2, .ref (ma 0)), (3, .ref oa), (4, .int (nI (5 * k)))]) ⟨rfl, rfl, rfl, rfl, rfl, trivial⟩ ?_)
      exact kk w4 _ _ ⟨n9, ad9, X9, D9, F9, T9, pe9, bi9, ma9, A9, hS9, hF9⟩ (e4.trans g3)
set_option maxRecDepth 20000 in
set_option maxHeartbeats 4000000 in
theorem c_W_couple {E : kx_E} {z : kx_Z} {b N : Nat} {xs : Nat → Int32} {a0 m0 oa k : Nat} {w : va_W} {f : Nat → Int64} {t : Int32} {kc ks : Nat} {Q : kx_O → va_W → Prop} (hX : kx_Sc E z b N xs) (hN : N ≤ 2560) (hk : 5 * k + 4 < N) (hW : LW E a0 m0 t w) (ho : w[33]? = some (oa, kx_aj E 1 f)) (h1 : kc + 50 ≤ 601024) (h2 : ks + 600 ≤ 7293034) (kk : ∀ w1 t1 f1, LW E a0 m0 t1 w1 → w1[33]? = some (oa, kx_aj E 1 f1) → kx_R E Y_W z 1105 [(0, .ref b), (1, .ref a0), (2, .ref m0), (3, .ref oa), (4, .int (nI (5 * k)))] [] w1 (kc + 50) (ks + 600) Q) : kx_R E Y_W z 180 [(0, .ref b), (1, .ref a0), (2, .ref m0), (3, .ref oa), (4, .int (nI (5 * k)))] [] w kc ks Q := by
  obtain ⟨n, ad, X, D, F, T, pe, bi, ma, A, hS, hF⟩ := hW
  have hS1 := hS
  obtain ⟨rfl, rfl, hC, hM, hI, hR, hZ⟩ := hS1
  obtain ⟨k9, b9, Qc, hc, hq⟩ := op_couple hS (xs (5 * k + 1)) (xs (5 * k + 2)) (xs (5 * k + 3)) (xs (5 * k + 4))
  refine kx_aload_n d_W_180 rfl (by rfl) ?_
  refine kx_aload_n d_W_181 rfl (by rfl) ?_
  refine kx_iload d_W_182 rfl ?_
  refine kx_iconst (nI 1) d_W_184 (by decide) ?_
  refine kx_iadd _ d_W_185 (nI_add _ _) ?_
  refine kx_sld d_W_186 hX (by omega) (by omega) ?_
  refine kx_aload_n d_W_187 rfl (by rfl) ?_
  refine kx_iload d_W_188 rfl ?_
  refine kx_iconst (nI 2) d_W_190 (by decide) ?_
  refine kx_iadd _ d_W_191 (nI_add _ _) ?_
  refine kx_sld d_W_192 hX (by omega) (by omega) ?_
  refine kx_aload_n d_W_193 rfl (by rfl) ?_
  refine kx_iload d_W_194 rfl ?_
  refine kx_iconst (nI 3) d_W_196 (by decide) ?_
  refine kx_iadd _ d_W_197 (nI_add _ _) ?_
  refine kx_sld d_W_198 hX (by omega) (by omega) ?_
  refine kx_aload_n d_W_199 rfl (by rfl) ?_
  refine kx_iload d_W_200 rfl ?_
  refine kx_iconst (nI 4) d_W_202 (by decide) ?_
  refine kx_iadd _ d_W_203 (nI_add _ _) ?_
  refine kx_sld d_W_204 hX (by omega) (by omega) ?_
  refine kx_aload_n d_W_205 rfl (by rfl) ?_
  refine kx_callSH (as := [.ref (ad 0), .int (xs (5 * k + 1)), .int (xs (5 * k + 2)), .int (xs (5 * k + 3)), .int (xs (5 * k + 4)), .ref oa]) (rest := []) d_W_206 s_W_76 rfl (by decide) (by decide) (by decide) (by show _ + _ ≤ 601024; simp only [Nat.add_zero]; omega) (by show _ + _ ≤ 7293034; simp only [Nat.add_zero]; omega) rfl (m_L_couple hC.bus ho hc (fun o w1 h => ⟨(hq o w1 h).1, (hq o w1 h).2.1⟩)) (fun X w1 h => by cases h.1) (fun v w1 hq9 => ?_)
  obtain ⟨hv, o1, w0, g, g1, g2, g3, g4⟩ := hq9
  cases hv
  obtain ⟨r1, r2, r3⟩ := hq o1 w0 g1
  obtain ⟨Qm, m1, m2⟩ := r3 w1 g2
  have h6 := ((g2.2 6 (by omega)).trans (r2 6 (by omega) (by omega))).trans hM.1
  have k3 := R2_3 r1
  refine kx_stk (st1 := [.int (nI k9)]) rfl ?_
  refine kx_istore d_W_209 (by decide) ?_
  refine kx_aload_n d_W_211 rfl (by rfl) ?_
  refine kx_aload_n d_W_212 rfl (by rfl) ?_
  refine kx_iload d_W_213 rfl ?_
  refine kx_iconst (nI 1) d_W_215 (by decide) ?_
  refine kx_iadd _ d_W_216 (nI_add _ _) ?_
  refine kx_sld d_W_217 hX (by omega) (by omega) ?_
  refine kx_aload_n d_W_218 rfl (by rfl) ?_
  refine kx_iload d_W_219 rfl ?_
  refine kx_iconst (nI 2) d_W_221 (by decide) ?_
  refine kx_iadd _ d_W_222 (nI_add _ _) ?_
  refine kx_sld d_W_223 hX (by omega) (by omega) ?_
  refine kx_aload_n d_W_224 rfl (by rfl) ?_
  refine kx_iload d_W_225 rfl ?_
  refine kx_iconst (nI 3) d_W_227 (by decide) ?_
  refine kx_iadd _ d_W_228 (nI_add _ _) ?_
  refine kx_sld d_W_229 hX (by omega) (by omega) ?_
  refine kx_aload_n d_W_230 rfl (by rfl) ?_
  refine kx_iload d_W_231 rfl ?_
  refine kx_iconst (nI 4) d_W_233 (by decide) ?_
  refine kx_iadd _ d_W_234 (nI_add _ _) ?_
  refine kx_sld d_W_235 hX (by omega) (by omega) ?_
  refine kx_callV (as := [.int (xs (5 * k + 1)), .int (xs (5 * k + 2)), .int (xs (5 * k + 3)), .int (xs (5 * k + 4))]) (rest := []) d_W_236 v_W_79 rfl h6 rfl rfl (by decide) (by decide) (by decide) (by show _ + _ ≤ 601024; simp only [Nat.add_zero]; omega) (by show _ + _ ≤ 7293034; simp only [Nat.add_zero]; omega) rfl m1 (fun X w1 h => ?_) (fun v w3 hq8 => ?_)
  · obtain ⟨_, h, -⟩ := m2 _ _ h
    cases h
  · obtain ⟨b8, e1, e2, e3, e4⟩ := m2 _ _ hq8
    cases e1
    obtain ⟨n9, ad9, X9, D9, F9, T9, pe9, bi9, ma9, A9, hS9, hF9⟩ := e3
    have hS8 := hS9
    obtain ⟨ea, em, hC9, hM9, -, -, -⟩ := hS8
    refine kx_stk (st1 := [.int b8]) rfl ?_
    refine kx_istore d_W_239 (by decide) ?_
    refine kx_aload_n d_W_241 rfl (by rfl) ?_
    have hth := m_M_thrown hM9
    have h69 := hM9.1
    rw [em] at hth h69
    refine kx_callV (as := []) (rest := []) d_W_242 v_W_72 rfl h69 rfl rfl (by decide) (by decide) (by decide) (by show _ + _ ≤ 601024; simp only [Nat.add_zero]; omega) (by show _ + _ ≤ 7293034; simp only [Nat.add_zero]; omega) rfl hth (fun X w1 h => by cases h.1) (fun v w4 hq7 => ?_)
    obtain ⟨hv7, hw7⟩ := hq7
    cases hv7
    subst hw7
    rw [hF9]
    refine kx_stk (st1 := [.int (nI k9)]) rfl ?_
    refine kx_iload d_W_245 rfl ?_
    refine kx_icmp_eq 252 d_W_247 (by decide) (fun _ => ?_) (fun h => absurd rfl h)
    refine kx_iload d_W_252 rfl ?_
    refine kx_if_ne_n 269 d_W_254 (by decide) (by omega) (fun _ => ?_) (fun hk0 => ?_)
    · refine kx_goto 1105 d_W_269 (by decide) ?_
      refine kx_wide (kc1 := kc + 50) (ks1 := ks + 600) (by show _ + _ + _ + _ ≤ _; simp only [Nat.add_zero]; omega) (by show _ + _ + _ + _ ≤ _; simp only [Nat.add_zero]; omega) (kx_loc (L1 := [(0, .ref b), (1, .ref (ad 0)), (2, .ref (ma 0)), (3, .ref oa), (4, .int (nI (5 * k)))]) ⟨rfl, rfl, rfl, rfl, rfl, trivial⟩ ?_)
      exact kk w4 _ _ ⟨n9, ad9, X9, D9, F9, T9, pe9, bi9, ma9, A9, hS9, hF9⟩ (e4.trans g3)
    · have e2 := e2 hk0
      have g4 := g4 hk0
      subst e2
      have g5 := e4.trans g3
      refine kx_aload_n d_W_257 rfl (by rfl) ?_
      refine kx_iconst (nI 0) d_W_258 (by decide) ?_
      refine kx_lald (x := 33) d_W_259 g5 (by decide) (by decide) ?_
      rw [g4]
      refine kx_iload d_W_260 rfl ?_
      refine kx_i2l d_W_262 ?_
      refine kx_lcmp d_W_263 ?_
      rw [lg_self]
      refine kx_if_eq 269 d_W_264 (by decide) (fun _ => ?_) (fun h => absurd rfl h)
      refine kx_goto 1105 d_W_269 (by decide) ?_
      refine kx_wide (kc1 := kc + 50) (ks1 := ks + 600) (by show _ + _ + _ + _ ≤ _; simp only [Nat.add_zero]; omega) (by show _ + _ + _ + _ ≤ _; simp only [Nat.add_zero]; omega) (kx_loc (L1 := [(0, .ref b), (1, .ref (ad 0)), (2, .ref (ma 0)), (3, .ref oa), (4, .int (nI (5 * k)))]) ⟨rfl, rfl, rfl, rfl, rfl, trivial⟩ ?_)
      exact kk w4 _ _ ⟨n9, ad9, X9, D9, F9, T9, pe9, bi9, ma9, A9, hS9, hF9⟩ (e4.trans g3)
set_option maxRecDepth 20000 in
set_option maxHeartbeats 4000000 in
theorem c_W_uncouple {E : kx_E} {z : kx_Z} {b N : Nat} {xs : Nat → Int32} {a0 m0 oa k : Nat} {w : va_W} {f : Nat → Int64} {t : Int32} {kc ks : Nat} {Q : kx_O → va_W → Prop} (hX : kx_Sc E z b N xs) (hN : N ≤ 2560) (hk : 5 * k + 4 < N) (hW : LW E a0 m0 t w) (ho : w[33]? = some (oa, kx_aj E 1 f)) (h1 : kc + 50 ≤ 601024) (h2 : ks + 600 ≤ 7293034) (kk : ∀ w1 t1 f1, LW E a0 m0 t1 w1 → w1[33]? = some (oa, kx_aj E 1 f1) → kx_R E Y_W z 1105 [(0, .ref b), (1, .ref a0), (2, .ref m0), (3, .ref oa), (4, .int (nI (5 * k)))] [] w1 (kc + 50) (ks + 600) Q) : kx_R E Y_W z 272 [(0, .ref b), (1, .ref a0), (2, .ref m0), (3, .ref oa), (4, .int (nI (5 * k)))] [] w kc ks Q := by
  obtain ⟨n, ad, X, D, F, T, pe, bi, ma, A, hS, hF⟩ := hW
  have hS1 := hS
  obtain ⟨rfl, rfl, hC, hM, hI, hR, hZ⟩ := hS1
  obtain ⟨k9, b9, Qc, hc, hq⟩ := op_uncouple hS (xs (5 * k + 1)) (xs (5 * k + 2))
  refine kx_aload_n d_W_272 rfl (by rfl) ?_
  refine kx_aload_n d_W_273 rfl (by rfl) ?_
  refine kx_iload d_W_274 rfl ?_
  refine kx_iconst (nI 1) d_W_276 (by decide) ?_
  refine kx_iadd _ d_W_277 (nI_add _ _) ?_
  refine kx_sld d_W_278 hX (by omega) (by omega) ?_
  refine kx_aload_n d_W_279 rfl (by rfl) ?_
  refine kx_iload d_W_280 rfl ?_
  refine kx_iconst (nI 2) d_W_282 (by decide) ?_
  refine kx_iadd _ d_W_283 (nI_add _ _) ?_
  refine kx_sld d_W_284 hX (by omega) (by omega) ?_
  refine kx_aload_n d_W_285 rfl (by rfl) ?_
  refine kx_callSH (as := [.ref (ad 0), .int (xs (5 * k + 1)), .int (xs (5 * k + 2)), .ref oa]) (rest := []) d_W_286 s_W_80 rfl (by decide) (by decide) (by decide) (by show _ + _ ≤ 601024; simp only [Nat.add_zero]; omega) (by show _ + _ ≤ 7293034; simp only [Nat.add_zero]; omega) rfl (m_L_uncouple hC.bus ho hc (fun o w1 h => ⟨(hq o w1 h).1, (hq o w1 h).2.1⟩)) (fun X w1 h => by cases h.1) (fun v w1 hq9 => ?_)
  obtain ⟨hv, o1, w0, g, g1, g2, g3, g4⟩ := hq9
  cases hv
  obtain ⟨r1, r2, r3⟩ := hq o1 w0 g1
  obtain ⟨Qm, m1, m2⟩ := r3 w1 g2
  have h6 := ((g2.2 6 (by omega)).trans (r2 6 (by omega) (by omega))).trans hM.1
  have k3 := R2_3 r1
  refine kx_stk (st1 := [.int (nI k9)]) rfl ?_
  refine kx_istore d_W_289 (by decide) ?_
  refine kx_aload_n d_W_291 rfl (by rfl) ?_
  refine kx_aload_n d_W_292 rfl (by rfl) ?_
  refine kx_iload d_W_293 rfl ?_
  refine kx_iconst (nI 1) d_W_295 (by decide) ?_
  refine kx_iadd _ d_W_296 (nI_add _ _) ?_
  refine kx_sld d_W_297 hX (by omega) (by omega) ?_
  refine kx_aload_n d_W_298 rfl (by rfl) ?_
  refine kx_iload d_W_299 rfl ?_
  refine kx_iconst (nI 2) d_W_301 (by decide) ?_
  refine kx_iadd _ d_W_302 (nI_add _ _) ?_
  refine kx_sld d_W_303 hX (by omega) (by omega) ?_
  refine kx_callV (as := [.int (xs (5 * k + 1)), .int (xs (5 * k + 2))]) (rest := []) d_W_304 v_W_82 rfl h6 rfl rfl (by decide) (by decide) (by decide) (by show _ + _ ≤ 601024; simp only [Nat.add_zero]; omega) (by show _ + _ ≤ 7293034; simp only [Nat.add_zero]; omega) rfl m1 (fun X w1 h => ?_) (fun v w3 hq8 => ?_)
  · obtain ⟨_, h, -⟩ := m2 _ _ h
    cases h
  · obtain ⟨b8, e1, e2, e3, e4⟩ := m2 _ _ hq8
    cases e1
    obtain ⟨n9, ad9, X9, D9, F9, T9, pe9, bi9, ma9, A9, hS9, hF9⟩ := e3
    have hS8 := hS9
    obtain ⟨ea, em, hC9, hM9, -, -, -⟩ := hS8
    refine kx_stk (st1 := [.int b8]) rfl ?_
    refine kx_istore d_W_307 (by decide) ?_
    refine kx_aload_n d_W_309 rfl (by rfl) ?_
    have hth := m_M_thrown hM9
    have h69 := hM9.1
    rw [em] at hth h69
    refine kx_callV (as := []) (rest := []) d_W_310 v_W_72 rfl h69 rfl rfl (by decide) (by decide) (by decide) (by show _ + _ ≤ 601024; simp only [Nat.add_zero]; omega) (by show _ + _ ≤ 7293034; simp only [Nat.add_zero]; omega) rfl hth (fun X w1 h => by cases h.1) (fun v w4 hq7 => ?_)
    obtain ⟨hv7, hw7⟩ := hq7
    cases hv7
    subst hw7
    rw [hF9]
    refine kx_stk (st1 := [.int (nI k9)]) rfl ?_
    refine kx_iload d_W_313 rfl ?_
    refine kx_icmp_eq 320 d_W_315 (by decide) (fun _ => ?_) (fun h => absurd rfl h)
    refine kx_iload d_W_320 rfl ?_
    refine kx_if_ne_n 337 d_W_322 (by decide) (by omega) (fun _ => ?_) (fun hk0 => ?_)
    · refine kx_goto 1105 d_W_337 (by decide) ?_
      refine kx_wide (kc1 := kc + 50) (ks1 := ks + 600) (by show _ + _ + _ + _ ≤ _; simp only [Nat.add_zero]; omega) (by show _ + _ + _ + _ ≤ _; simp only [Nat.add_zero]; omega) (kx_loc (L1 := [(0, .ref b), (1, .ref (ad 0)), (2, .ref (ma 0)), (3, .ref oa), (4, .int (nI (5 * k)))]) ⟨rfl, rfl, rfl, rfl, rfl, trivial⟩ ?_)
      exact kk w4 _ _ ⟨n9, ad9, X9, D9, F9, T9, pe9, bi9, ma9, A9, hS9, hF9⟩ (e4.trans g3)
    · have e2 := e2 hk0
      have g4 := g4 hk0
      subst e2
      have g5 := e4.trans g3
      refine kx_aload_n d_W_325 rfl (by rfl) ?_
      refine kx_iconst (nI 0) d_W_326 (by decide) ?_
      refine kx_lald (x := 33) d_W_327 g5 (by decide) (by decide) ?_
      rw [g4]
      refine kx_iload d_W_328 rfl ?_
      refine kx_i2l d_W_330 ?_
      refine kx_lcmp d_W_331 ?_
      rw [lg_self]
      refine kx_if_eq 337 d_W_332 (by decide) (fun _ => ?_) (fun h => absurd rfl h)
      refine kx_goto 1105 d_W_337 (by decide) ?_
      refine kx_wide (kc1 := kc + 50) (ks1 := ks + 600) (by show _ + _ + _ + _ ≤ _; simp only [Nat.add_zero]; omega) (by show _ + _ + _ + _ ≤ _; simp only [Nat.add_zero]; omega) (kx_loc (L1 := [(0, .ref b), (1, .ref (ad 0)), (2, .ref (ma 0)), (3, .ref oa), (4, .int (nI (5 * k)))]) ⟨rfl, rfl, rfl, rfl, rfl, trivial⟩ ?_)
      exact kk w4 _ _ ⟨n9, ad9, X9, D9, F9, T9, pe9, bi9, ma9, A9, hS9, hF9⟩ (e4.trans g3)
set_option maxRecDepth 20000 in
set_option maxHeartbeats 4000000 in
theorem c_W_reset {E : kx_E} {z : kx_Z} {b N : Nat} {xs : Nat → Int32} {a0 m0 oa k : Nat} {w : va_W} {f : Nat → Int64} {t : Int32} {kc ks : Nat} {Q : kx_O → va_W → Prop} (hX : kx_Sc E z b N xs) (hN : N ≤ 2560) (hk : 5 * k + 4 < N) (hW : LW E a0 m0 t w) (ho : w[33]? = some (oa, kx_aj E 1 f)) (h1 : kc + 50 ≤ 601024) (h2 : ks + 600 ≤ 7293034) (kk : ∀ w1 t1 f1, LW E a0 m0 t1 w1 → w1[33]? = some (oa, kx_aj E 1 f1) → kx_R E Y_W z 1105 [(0, .ref b), (1, .ref a0), (2, .ref m0), (3, .ref oa), (4, .int (nI (5 * k)))] [] w1 (kc + 50) (ks + 600) Q) : kx_R E Y_W z 340 [(0, .ref b), (1, .ref a0), (2, .ref m0), (3, .ref oa), (4, .int (nI (5 * k)))] [] w kc ks Q := by
  obtain ⟨n, ad, X, D, F, T, pe, bi, ma, A, hS, hF⟩ := hW
  have hS1 := hS
  obtain ⟨rfl, rfl, hC, hM, hI, hR, hZ⟩ := hS1
  obtain ⟨k9, b9, Qc, hc, hq⟩ := op_reset hS (xs (5 * k + 1))
  refine kx_aload_n d_W_340 rfl (by rfl) ?_
  refine kx_aload_n d_W_341 rfl (by rfl) ?_
  refine kx_iload d_W_342 rfl ?_
  refine kx_iconst (nI 1) d_W_344 (by decide) ?_
  refine kx_iadd _ d_W_345 (nI_add _ _) ?_
  refine kx_sld d_W_346 hX (by omega) (by omega) ?_
  refine kx_callSH (as := [.ref (ad 0), .int (xs (5 * k + 1))]) (rest := []) d_W_347 s_W_83 rfl (by decide) (by decide) (by decide) (by show _ + _ ≤ 601024; simp only [Nat.add_zero]; omega) (by show _ + _ ≤ 7293034; simp only [Nat.add_zero]; omega) rfl (m_L_reset hC.bus hc (fun o w1 h => ⟨(hq o w1 h).1, (hq o w1 h).2.1⟩)) (fun X w1 h => by cases h.1) (fun v w1 hq9 => ?_)
  obtain ⟨hv, o1, g1⟩ := hq9
  cases hv
  obtain ⟨r1, r2, r3⟩ := hq o1 w1 g1
  obtain ⟨Qm, m1, m2⟩ := r3 w1 kx_off.rf
  have h6 := (r2 6 (by omega) (by omega)).trans hM.1
  have g3 := (r2 33 (by omega) (by omega)).trans ho
  have k3 := R1_3 r1
  refine kx_stk (st1 := [.int (nI k9)]) rfl ?_
  refine kx_istore d_W_350 (by decide) ?_
  refine kx_aload_n d_W_352 rfl (by rfl) ?_
  refine kx_aload_n d_W_353 rfl (by rfl) ?_
  refine kx_iload d_W_354 rfl ?_
  refine kx_iconst (nI 1) d_W_356 (by decide) ?_
  refine kx_iadd _ d_W_357 (nI_add _ _) ?_
  refine kx_sld d_W_358 hX (by omega) (by omega) ?_
  refine kx_callV (as := [.int (xs (5 * k + 1))]) (rest := []) d_W_359 v_W_86 rfl h6 rfl rfl (by decide) (by decide) (by decide) (by show _ + _ ≤ 601024; simp only [Nat.add_zero]; omega) (by show _ + _ ≤ 7293034; simp only [Nat.add_zero]; omega) rfl m1 (fun X w1 h => ?_) (fun v w3 hq8 => ?_)
  · obtain ⟨_, h, -⟩ := m2 _ _ h
    cases h
  · obtain ⟨b8, e1, e2, e3, e4⟩ := m2 _ _ hq8
    cases e1
    obtain ⟨n9, ad9, X9, D9, F9, T9, pe9, bi9, ma9, A9, hS9, hF9⟩ := e3
    have hS8 := hS9
    obtain ⟨ea, em, hC9, hM9, -, -, -⟩ := hS8
    refine kx_stk (st1 := []) rfl ?_
    refine kx_aload_n d_W_362 rfl (by rfl) ?_
    have hth := m_M_thrown hM9
    have h69 := hM9.1
    rw [em] at hth h69
    refine kx_callV (as := []) (rest := []) d_W_363 v_W_72 rfl h69 rfl rfl (by decide) (by decide) (by decide) (by show _ + _ ≤ 601024; simp only [Nat.add_zero]; omega) (by show _ + _ ≤ 7293034; simp only [Nat.add_zero]; omega) rfl hth (fun X w1 h => by cases h.1) (fun v w4 hq7 => ?_)
    obtain ⟨hv7, hw7⟩ := hq7
    cases hv7
    subst hw7
    rw [hF9]
    refine kx_stk (st1 := [.int (nI k9)]) rfl ?_
    refine kx_iload d_W_366 rfl ?_
    refine kx_icmp_eq 373 d_W_368 (by decide) (fun _ => ?_) (fun h => absurd rfl h)
    refine kx_goto 1105 d_W_373 (by decide) ?_
    refine kx_wide (kc1 := kc + 50) (ks1 := ks + 600) (by show _ + _ + _ + _ ≤ _; simp only [Nat.add_zero]; omega) (by show _ + _ + _ + _ ≤ _; simp only [Nat.add_zero]; omega) (kx_loc (L1 := [(0, .ref b), (1, .ref (ad 0)), (2, .ref (ma 0)), (3, .ref oa), (4, .int (nI (5 * k)))]) ⟨rfl, rfl, rfl, rfl, rfl, trivial⟩ ?_)
    exact kk w4 _ _ ⟨n9, ad9, X9, D9, F9, T9, pe9, bi9, ma9, A9, hS9, hF9⟩ (e4.trans g3)
set_option maxRecDepth 20000 in
set_option maxHeartbeats 4000000 in
theorem c_W_rounds {E : kx_E} {z : kx_Z} {b N : Nat} {xs : Nat → Int32} {a0 m0 oa k : Nat} {w : va_W} {f : Nat → Int64} {t : Int32} {kc ks : Nat} {Q : kx_O → va_W → Prop} (hX : kx_Sc E z b N xs) (hN : N ≤ 2560) (hk : 5 * k + 4 < N) (hW : LW E a0 m0 t w) (ho : w[33]? = some (oa, kx_aj E 1 f)) (h1 : kc + 50 ≤ 601024) (h2 : ks + 600 ≤ 7293034) (kk : ∀ w1 t1 f1, LW E a0 m0 t1 w1 → w1[33]? = some (oa, kx_aj E 1 f1) → kx_R E Y_W z 1105 [(0, .ref b), (1, .ref a0), (2, .ref m0), (3, .ref oa), (4, .int (nI (5 * k)))] [] w1 (kc + 50) (ks + 600) Q) : kx_R E Y_W z 376 [(0, .ref b), (1, .ref a0), (2, .ref m0), (3, .ref oa), (4, .int (nI (5 * k)))] [] w kc ks Q := by
  obtain ⟨n, ad, X, D, F, T, pe, bi, ma, A, hS, hF⟩ := hW
  have hS1 := hS
  obtain ⟨rfl, rfl, hC, hM, hI, hR, hZ⟩ := hS1
  obtain ⟨k9, b9, Qc, hc, hq⟩ := op_rounds hS (xs (5 * k + 1)) (xs (5 * k + 2))
  refine kx_aload_n d_W_376 rfl (by rfl) ?_
  refine kx_aload_n d_W_377 rfl (by rfl) ?_
  refine kx_iload d_W_378 rfl ?_
  refine kx_iconst (nI 1) d_W_380 (by decide) ?_
  refine kx_iadd _ d_W_381 (nI_add _ _) ?_
  refine kx_sld d_W_382 hX (by omega) (by omega) ?_
  refine kx_aload_n d_W_383 rfl (by rfl) ?_
  refine kx_iload d_W_384 rfl ?_
  refine kx_iconst (nI 2) d_W_386 (by decide) ?_
  refine kx_iadd _ d_W_387 (nI_add _ _) ?_
  refine kx_sld d_W_388 hX (by omega) (by omega) ?_
  refine kx_aload_n d_W_389 rfl (by rfl) ?_
  refine kx_callSH (as := [.ref (ad 0), .int (xs (5 * k + 1)), .int (xs (5 * k + 2)), .ref oa]) (rest := []) d_W_390 s_W_87 rfl (by decide) (by decide) (by decide) (by show _ + _ ≤ 601024; simp only [Nat.add_zero]; omega) (by show _ + _ ≤ 7293034; simp only [Nat.add_zero]; omega) rfl (m_L_rounds hC.bus ho hc (fun o w1 h => ⟨(hq o w1 h).1, (hq o w1 h).2.1⟩)) (fun X w1 h => by cases h.1) (fun v w1 hq9 => ?_)
  obtain ⟨hv, o1, w0, g, g1, g2, g3, g4⟩ := hq9
  cases hv
  obtain ⟨r1, r2, r3⟩ := hq o1 w0 g1
  obtain ⟨Qm, m1, m2⟩ := r3 w1 g2
  have h6 := ((g2.2 6 (by omega)).trans (r2 6 (by omega) (by omega))).trans hM.1
  have k3 := R1_3 r1
  refine kx_stk (st1 := [.int (nI k9)]) rfl ?_
  refine kx_istore d_W_393 (by decide) ?_
  refine kx_aload_n d_W_395 rfl (by rfl) ?_
  refine kx_aload_n d_W_396 rfl (by rfl) ?_
  refine kx_iload d_W_397 rfl ?_
  refine kx_iconst (nI 1) d_W_399 (by decide) ?_
  refine kx_iadd _ d_W_400 (nI_add _ _) ?_
  refine kx_sld d_W_401 hX (by omega) (by omega) ?_
  refine kx_aload_n d_W_402 rfl (by rfl) ?_
  refine kx_iload d_W_403 rfl ?_
  refine kx_iconst (nI 2) d_W_405 (by decide) ?_
  refine kx_iadd _ d_W_406 (nI_add _ _) ?_
  refine kx_sld d_W_407 hX (by omega) (by omega) ?_
  refine kx_callV (as := [.int (xs (5 * k + 1)), .int (xs (5 * k + 2))]) (rest := []) d_W_408 v_W_89 rfl h6 rfl rfl (by decide) (by decide) (by decide) (by show _ + _ ≤ 601024; simp only [Nat.add_zero]; omega) (by show _ + _ ≤ 7293034; simp only [Nat.add_zero]; omega) rfl m1 (fun X w1 h => ?_) (fun v w3 hq8 => ?_)
  · obtain ⟨_, h, -⟩ := m2 _ _ h
    cases h
  · obtain ⟨b8, e1, e2, e3, e4⟩ := m2 _ _ hq8
    cases e1
    obtain ⟨n9, ad9, X9, D9, F9, T9, pe9, bi9, ma9, A9, hS9, hF9⟩ := e3
    have hS8 := hS9
    obtain ⟨ea, em, hC9, hM9, -, -, -⟩ := hS8
    refine kx_stk (st1 := [.int b8]) rfl ?_
    refine kx_istore d_W_411 (by decide) ?_
    refine kx_aload_n d_W_413 rfl (by rfl) ?_
    have hth := m_M_thrown hM9
    have h69 := hM9.1
    rw [em] at hth h69
    refine kx_callV (as := []) (rest := []) d_W_414 v_W_72 rfl h69 rfl rfl (by decide) (by decide) (by decide) (by show _ + _ ≤ 601024; simp only [Nat.add_zero]; omega) (by show _ + _ ≤ 7293034; simp only [Nat.add_zero]; omega) rfl hth (fun X w1 h => by cases h.1) (fun v w4 hq7 => ?_)
    obtain ⟨hv7, hw7⟩ := hq7
    cases hv7
    subst hw7
    rw [hF9]
    refine kx_stk (st1 := [.int (nI k9)]) rfl ?_
    refine kx_iload d_W_417 rfl ?_
    refine kx_icmp_eq 424 d_W_419 (by decide) (fun _ => ?_) (fun h => absurd rfl h)
    refine kx_iload d_W_424 rfl ?_
    refine kx_if_ne_n 441 d_W_426 (by decide) (by omega) (fun _ => ?_) (fun hk0 => ?_)
    · refine kx_goto 1105 d_W_441 (by decide) ?_
      refine kx_wide (kc1 := kc + 50) (ks1 := ks + 600) (by show _ + _ + _ + _ ≤ _; simp only [Nat.add_zero]; omega) (by show _ + _ + _ + _ ≤ _; simp only [Nat.add_zero]; omega) (kx_loc (L1 := [(0, .ref b), (1, .ref (ad 0)), (2, .ref (ma 0)), (3, .ref oa), (4, .int (nI (5 * k)))]) ⟨rfl, rfl, rfl, rfl, rfl, trivial⟩ ?_)
      exact kk w4 _ _ ⟨n9, ad9, X9, D9, F9, T9, pe9, bi9, ma9, A9, hS9, hF9⟩ (e4.trans g3)
    · have e2 := e2 hk0
      have g4 := g4 hk0
      subst e2
      have g5 := e4.trans g3
      refine kx_aload_n d_W_429 rfl (by rfl) ?_
      refine kx_iconst (nI 0) d_W_430 (by decide) ?_
      refine kx_lald (x := 33) d_W_431 g5 (by decide) (by decide) ?_
      rw [g4]
      refine kx_iload d_W_432 rfl ?_
      refine kx_i2l d_W_434 ?_
      refine kx_lcmp d_W_435 ?_
      rw [lg_self]
      refine kx_if_eq 441 d_W_436 (by decide) (fun _ => ?_) (fun h => absurd rfl h)
      refine kx_goto 1105 d_W_441 (by decide) ?_
      refine kx_wide (kc1 := kc + 50) (ks1 := ks + 600) (by show _ + _ + _ + _ ≤ _; simp only [Nat.add_zero]; omega) (by show _ + _ + _ + _ ≤ _; simp only [Nat.add_zero]; omega) (kx_loc (L1 := [(0, .ref b), (1, .ref (ad 0)), (2, .ref (ma 0)), (3, .ref oa), (4, .int (nI (5 * k)))]) ⟨rfl, rfl, rfl, rfl, rfl, trivial⟩ ?_)
      exact kk w4 _ _ ⟨n9, ad9, X9, D9, F9, T9, pe9, bi9, ma9, A9, hS9, hF9⟩ (e4.trans g3)
set_option maxRecDepth 20000 in
set_option maxHeartbeats 4000000 in
theorem c_W_coupling {E : kx_E} {z : kx_Z} {b N : Nat} {xs : Nat → Int32} {a0 m0 oa k : Nat} {w : va_W} {f : Nat → Int64} {t : Int32} {kc ks : Nat} {Q : kx_O → va_W → Prop} (hX : kx_Sc E z b N xs) (hN : N ≤ 2560) (hk : 5 * k + 4 < N) (hW : LW E a0 m0 t w) (ho : w[33]? = some (oa, kx_aj E 1 f)) (h1 : kc + 50 ≤ 601024) (h2 : ks + 600 ≤ 7293034) (kk : ∀ w1 t1 f1, LW E a0 m0 t1 w1 → w1[33]? = some (oa, kx_aj E 1 f1) → kx_R E Y_W z 1105 [(0, .ref b), (1, .ref a0), (2, .ref m0), (3, .ref oa), (4, .int (nI (5 * k)))] [] w1 (kc + 50) (ks + 600) Q) : kx_R E Y_W z 444 [(0, .ref b), (1, .ref a0), (2, .ref m0), (3, .ref oa), (4, .int (nI (5 * k)))] [] w kc ks Q := by
  obtain ⟨n, ad, X, D, F, T, pe, bi, ma, A, hS, hF⟩ := hW
  have hS1 := hS
  obtain ⟨rfl, rfl, hC, hM, hI, hR, hZ⟩ := hS1
  obtain ⟨k9, b9, Qc, hc, hq⟩ := op_coupling hS (xs (5 * k + 1)) (xs (5 * k + 2))
  refine kx_aload_n d_W_444 rfl (by rfl) ?_
  refine kx_aload_n d_W_445 rfl (by rfl) ?_
  refine kx_iload d_W_446 rfl ?_
  refine kx_iconst (nI 1) d_W_448 (by decide) ?_
  refine kx_iadd _ d_W_449 (nI_add _ _) ?_
  refine kx_sld d_W_450 hX (by omega) (by omega) ?_
  refine kx_aload_n d_W_451 rfl (by rfl) ?_
  refine kx_iload d_W_452 rfl ?_
  refine kx_iconst (nI 2) d_W_454 (by decide) ?_
  refine kx_iadd _ d_W_455 (nI_add _ _) ?_
  refine kx_sld d_W_456 hX (by omega) (by omega) ?_
  refine kx_aload_n d_W_457 rfl (by rfl) ?_
  refine kx_callSH (as := [.ref (ad 0), .int (xs (5 * k + 1)), .int (xs (5 * k + 2)), .ref oa]) (rest := []) d_W_458 s_W_90 rfl (by decide) (by decide) (by decide) (by show _ + _ ≤ 601024; simp only [Nat.add_zero]; omega) (by show _ + _ ≤ 7293034; simp only [Nat.add_zero]; omega) rfl (m_L_coupling hC.bus ho hc (fun o w1 h => ⟨(hq o w1 h).1, (hq o w1 h).2.1⟩)) (fun X w1 h => by cases h.1) (fun v w1 hq9 => ?_)
  obtain ⟨hv, o1, w0, g, g1, g2, g3, g4⟩ := hq9
  cases hv
  obtain ⟨r1, r2, r3⟩ := hq o1 w0 g1
  obtain ⟨Qm, m1, m2⟩ := r3 w1 g2
  have h6 := ((g2.2 6 (by omega)).trans (r2 6 (by omega) (by omega))).trans hM.1
  have k3 := R1_3 r1
  refine kx_stk (st1 := [.int (nI k9)]) rfl ?_
  refine kx_istore d_W_461 (by decide) ?_
  refine kx_aload_n d_W_463 rfl (by rfl) ?_
  refine kx_aload_n d_W_464 rfl (by rfl) ?_
  refine kx_iload d_W_465 rfl ?_
  refine kx_iconst (nI 1) d_W_467 (by decide) ?_
  refine kx_iadd _ d_W_468 (nI_add _ _) ?_
  refine kx_sld d_W_469 hX (by omega) (by omega) ?_
  refine kx_aload_n d_W_470 rfl (by rfl) ?_
  refine kx_iload d_W_471 rfl ?_
  refine kx_iconst (nI 2) d_W_473 (by decide) ?_
  refine kx_iadd _ d_W_474 (nI_add _ _) ?_
  refine kx_sld d_W_475 hX (by omega) (by omega) ?_
  refine kx_callV (as := [.int (xs (5 * k + 1)), .int (xs (5 * k + 2))]) (rest := []) d_W_476 v_W_92 rfl h6 rfl rfl (by decide) (by decide) (by decide) (by show _ + _ ≤ 601024; simp only [Nat.add_zero]; omega) (by show _ + _ ≤ 7293034; simp only [Nat.add_zero]; omega) rfl m1 (fun X w1 h => ?_) (fun v w3 hq8 => ?_)
  · obtain ⟨_, h, -⟩ := m2 _ _ h
    cases h
  · obtain ⟨b8, e1, e2, e3, e4⟩ := m2 _ _ hq8
    cases e1
    obtain ⟨n9, ad9, X9, D9, F9, T9, pe9, bi9, ma9, A9, hS9, hF9⟩ := e3
    have hS8 := hS9
    obtain ⟨ea, em, hC9, hM9, -, -, -⟩ := hS8
    refine kx_stk (st1 := [.int b8]) rfl ?_
    refine kx_istore d_W_479 (by decide) ?_
    refine kx_aload_n d_W_481 rfl (by rfl) ?_
    have hth := m_M_thrown hM9
    have h69 := hM9.1
    rw [em] at hth h69
    refine kx_callV (as := []) (rest := []) d_W_482 v_W_72 rfl h69 rfl rfl (by decide) (by decide) (by decide) (by show _ + _ ≤ 601024; simp only [Nat.add_zero]; omega) (by show _ + _ ≤ 7293034; simp only [Nat.add_zero]; omega) rfl hth (fun X w1 h => by cases h.1) (fun v w4 hq7 => ?_)
    obtain ⟨hv7, hw7⟩ := hq7
    cases hv7
    subst hw7
    rw [hF9]
    refine kx_stk (st1 := [.int (nI k9)]) rfl ?_
    refine kx_iload d_W_485 rfl ?_
    refine kx_icmp_eq 492 d_W_487 (by decide) (fun _ => ?_) (fun h => absurd rfl h)
    refine kx_iload d_W_492 rfl ?_
    refine kx_if_ne_n 509 d_W_494 (by decide) (by omega) (fun _ => ?_) (fun hk0 => ?_)
    · refine kx_goto 1105 d_W_509 (by decide) ?_
      refine kx_wide (kc1 := kc + 50) (ks1 := ks + 600) (by show _ + _ + _ + _ ≤ _; simp only [Nat.add_zero]; omega) (by show _ + _ + _ + _ ≤ _; simp only [Nat.add_zero]; omega) (kx_loc (L1 := [(0, .ref b), (1, .ref (ad 0)), (2, .ref (ma 0)), (3, .ref oa), (4, .int (nI (5 * k)))]) ⟨rfl, rfl, rfl, rfl, rfl, trivial⟩ ?_)
      exact kk w4 _ _ ⟨n9, ad9, X9, D9, F9, T9, pe9, bi9, ma9, A9, hS9, hF9⟩ (e4.trans g3)
    · have e2 := e2 hk0
      have g4 := g4 hk0
      subst e2
      have g5 := e4.trans g3
      refine kx_aload_n d_W_497 rfl (by rfl) ?_
      refine kx_iconst (nI 0) d_W_498 (by decide) ?_
      refine kx_lald (x := 33) d_W_499 g5 (by decide) (by decide) ?_
      rw [g4]
      refine kx_iload d_W_500 rfl ?_
      refine kx_i2l d_W_502 ?_
      refine kx_lcmp d_W_503 ?_
      rw [lg_self]
      refine kx_if_eq 509 d_W_504 (by decide) (fun _ => ?_) (fun h => absurd rfl h)
      refine kx_goto 1105 d_W_509 (by decide) ?_
      refine kx_wide (kc1 := kc + 50) (ks1 := ks + 600) (by show _ + _ + _ + _ ≤ _; simp only [Nat.add_zero]; omega) (by show _ + _ + _ + _ ≤ _; simp only [Nat.add_zero]; omega) (kx_loc (L1 := [(0, .ref b), (1, .ref (ad 0)), (2, .ref (ma 0)), (3, .ref oa), (4, .int (nI (5 * k)))]) ⟨rfl, rfl, rfl, rfl, rfl, trivial⟩ ?_)
      exact kk w4 _ _ ⟨n9, ad9, X9, D9, F9, T9, pe9, bi9, ma9, A9, hS9, hF9⟩ (e4.trans g3)
set_option maxRecDepth 20000 in
set_option maxHeartbeats 4000000 in
theorem c_W_about {E : kx_E} {z : kx_Z} {b N : Nat} {xs : Nat → Int32} {a0 m0 oa k : Nat} {w : va_W} {f : Nat → Int64} {t : Int32} {kc ks : Nat} {Q : kx_O → va_W → Prop} (hX : kx_Sc E z b N xs) (hN : N ≤ 2560) (hk : 5 * k + 4 < N) (hW : LW E a0 m0 t w) (ho : w[33]? = some (oa, kx_aj E 1 f)) (h1 : kc + 50 ≤ 601024) (h2 : ks + 600 ≤ 7293034) (kk : ∀ w1 t1 f1, LW E a0 m0 t1 w1 → w1[33]? = some (oa, kx_aj E 1 f1) → kx_R E Y_W z 1105 [(0, .ref b), (1, .ref a0), (2, .ref m0), (3, .ref oa), (4, .int (nI (5 * k)))] [] w1 (kc + 50) (ks + 600) Q) : kx_R E Y_W z 512 [(0, .ref b), (1, .ref a0), (2, .ref m0), (3, .ref oa), (4, .int (nI (5 * k)))] [] w kc ks Q := by
  obtain ⟨n, ad, X, D, F, T, pe, bi, ma, A, hS, hF⟩ := hW
  have hS1 := hS
  obtain ⟨rfl, rfl, hC, hM, hI, hR, hZ⟩ := hS1
  obtain ⟨k9, b9, Qc, hc, hq⟩ := op_about hS (xs (5 * k + 1)) (xs (5 * k + 2))
  refine kx_aload_n d_W_512 rfl (by rfl) ?_
  refine kx_aload_n d_W_513 rfl (by rfl) ?_
  refine kx_iload d_W_514 rfl ?_
  refine kx_iconst (nI 1) d_W_516 (by decide) ?_
  refine kx_iadd _ d_W_517 (nI_add _ _) ?_
  refine kx_sld d_W_518 hX (by omega) (by omega) ?_
  refine kx_aload_n d_W_519 rfl (by rfl) ?_
  refine kx_iload d_W_520 rfl ?_
  refine kx_iconst (nI 2) d_W_522 (by decide) ?_
  refine kx_iadd _ d_W_523 (nI_add _ _) ?_
  refine kx_sld d_W_524 hX (by omega) (by omega) ?_
  refine kx_aload_n d_W_525 rfl (by rfl) ?_
  refine kx_callSH (as := [.ref (ad 0), .int (xs (5 * k + 1)), .int (xs (5 * k + 2)), .ref oa]) (rest := []) d_W_526 s_W_93 rfl (by decide) (by decide) (by decide) (by show _ + _ ≤ 601024; simp only [Nat.add_zero]; omega) (by show _ + _ ≤ 7293034; simp only [Nat.add_zero]; omega) rfl (m_L_about hC.bus ho hc (fun o w1 h => ⟨(hq o w1 h).1, (hq o w1 h).2.1⟩)) (fun X w1 h => by cases h.1) (fun v w1 hq9 => ?_)
  obtain ⟨hv, o1, w0, g, g1, g2, g3, g4⟩ := hq9
  cases hv
  obtain ⟨r1, r2, r3⟩ := hq o1 w0 g1
  obtain ⟨Qm, m1, m2⟩ := r3 w1 g2
  have h6 := ((g2.2 6 (by omega)).trans (r2 6 (by omega) (by omega))).trans hM.1
  have k3 := R2_3 r1
  refine kx_stk (st1 := [.int (nI k9)]) rfl ?_
  refine kx_istore d_W_529 (by decide) ?_
  refine kx_aload_n d_W_531 rfl (by rfl) ?_
  refine kx_aload_n d_W_532 rfl (by rfl) ?_
  refine kx_iload d_W_533 rfl ?_
  refine kx_iconst (nI 1) d_W_535 (by decide) ?_
  refine kx_iadd _ d_W_536 (nI_add _ _) ?_
  refine kx_sld d_W_537 hX (by omega) (by omega) ?_
  refine kx_aload_n d_W_538 rfl (by rfl) ?_
  refine kx_iload d_W_539 rfl ?_
  refine kx_iconst (nI 2) d_W_541 (by decide) ?_
  refine kx_iadd _ d_W_542 (nI_add _ _) ?_
  refine kx_sld d_W_543 hX (by omega) (by omega) ?_
  refine kx_callV (as := [.int (xs (5 * k + 1)), .int (xs (5 * k + 2))]) (rest := []) d_W_544 v_W_95 rfl h6 rfl rfl (by decide) (by decide) (by decide) (by show _ + _ ≤ 601024; simp only [Nat.add_zero]; omega) (by show _ + _ ≤ 7293034; simp only [Nat.add_zero]; omega) rfl m1 (fun X w1 h => ?_) (fun v w3 hq8 => ?_)
  · obtain ⟨_, h, -⟩ := m2 _ _ h
    cases h
  · obtain ⟨b8, e1, e2, e3, e4⟩ := m2 _ _ hq8
    cases e1
    obtain ⟨n9, ad9, X9, D9, F9, T9, pe9, bi9, ma9, A9, hS9, hF9⟩ := e3
    have hS8 := hS9
    obtain ⟨ea, em, hC9, hM9, -, -, -⟩ := hS8
    refine kx_stk (st1 := [.int b8]) rfl ?_
    refine kx_istore d_W_547 (by decide) ?_
    refine kx_aload_n d_W_549 rfl (by rfl) ?_
    have hth := m_M_thrown hM9
    have h69 := hM9.1
    rw [em] at hth h69
    refine kx_callV (as := []) (rest := []) d_W_550 v_W_72 rfl h69 rfl rfl (by decide) (by decide) (by decide) (by show _ + _ ≤ 601024; simp only [Nat.add_zero]; omega) (by show _ + _ ≤ 7293034; simp only [Nat.add_zero]; omega) rfl hth (fun X w1 h => by cases h.1) (fun v w4 hq7 => ?_)
    obtain ⟨hv7, hw7⟩ := hq7
    cases hv7
    subst hw7
    rw [hF9]
    refine kx_stk (st1 := [.int (nI k9)]) rfl ?_
    refine kx_iload d_W_553 rfl ?_
    refine kx_icmp_eq 560 d_W_555 (by decide) (fun _ => ?_) (fun h => absurd rfl h)
    refine kx_iload d_W_560 rfl ?_
    refine kx_if_ne_n 577 d_W_562 (by decide) (by omega) (fun _ => ?_) (fun hk0 => ?_)
    · refine kx_goto 1105 d_W_577 (by decide) ?_
      refine kx_wide (kc1 := kc + 50) (ks1 := ks + 600) (by show _ + _ + _ + _ ≤ _; simp only [Nat.add_zero]; omega) (by show _ + _ + _ + _ ≤ _; simp only [Nat.add_zero]; omega) (kx_loc (L1 := [(0, .ref b), (1, .ref (ad 0)), (2, .ref (ma 0)), (3, .ref oa), (4, .int (nI (5 * k)))]) ⟨rfl, rfl, rfl, rfl, rfl, trivial⟩ ?_)
      exact kk w4 _ _ ⟨n9, ad9, X9, D9, F9, T9, pe9, bi9, ma9, A9, hS9, hF9⟩ (e4.trans g3)
    · have e2 := e2 hk0
      have g4 := g4 hk0
      subst e2
      have g5 := e4.trans g3
      refine kx_aload_n d_W_565 rfl (by rfl) ?_
      refine kx_iconst (nI 0) d_W_566 (by decide) ?_
      refine kx_lald (x := 33) d_W_567 g5 (by decide) (by decide) ?_
      rw [g4]
      refine kx_iload d_W_568 rfl ?_
      refine kx_i2l d_W_570 ?_
      refine kx_lcmp d_W_571 ?_
      rw [lg_self]
      refine kx_if_eq 577 d_W_572 (by decide) (fun _ => ?_) (fun h => absurd rfl h)
      refine kx_goto 1105 d_W_577 (by decide) ?_
      refine kx_wide (kc1 := kc + 50) (ks1 := ks + 600) (by show _ + _ + _ + _ ≤ _; simp only [Nat.add_zero]; omega) (by show _ + _ + _ + _ ≤ _; simp only [Nat.add_zero]; omega) (kx_loc (L1 := [(0, .ref b), (1, .ref (ad 0)), (2, .ref (ma 0)), (3, .ref oa), (4, .int (nI (5 * k)))]) ⟨rfl, rfl, rfl, rfl, rfl, trivial⟩ ?_)
      exact kk w4 _ _ ⟨n9, ad9, X9, D9, F9, T9, pe9, bi9, ma9, A9, hS9, hF9⟩ (e4.trans g3)
set_option maxRecDepth 20000 in
set_option maxHeartbeats 4000000 in
theorem c_W_directory {E : kx_E} {z : kx_Z} {b N : Nat} {xs : Nat → Int32} {a0 m0 oa k : Nat} {w : va_W} {f : Nat → Int64} {t : Int32} {kc ks : Nat} {Q : kx_O → va_W → Prop} (hX : kx_Sc E z b N xs) (hN : N ≤ 2560) (hk : 5 * k + 4 < N) (hW : LW E a0 m0 t w) (ho : w[33]? = some (oa, kx_aj E 1 f)) (h1 : kc + 50 ≤ 601024) (h2 : ks + 600 ≤ 7293034) (kk : ∀ w1 t1 f1, LW E a0 m0 t1 w1 → w1[33]? = some (oa, kx_aj E 1 f1) → kx_R E Y_W z 1105 [(0, .ref b), (1, .ref a0), (2, .ref m0), (3, .ref oa), (4, .int (nI (5 * k)))] [] w1 (kc + 50) (ks + 600) Q) : kx_R E Y_W z 580 [(0, .ref b), (1, .ref a0), (2, .ref m0), (3, .ref oa), (4, .int (nI (5 * k)))] [] w kc ks Q := by
  obtain ⟨n, ad, X, D, F, T, pe, bi, ma, A, hS, hF⟩ := hW
  have hS1 := hS
  obtain ⟨rfl, rfl, hC, hM, hI, hR, hZ⟩ := hS1
  obtain ⟨k9, b9, Qc, hc, hq⟩ := op_directory hS (xs (5 * k + 1)) (xs (5 * k + 2))
  refine kx_aload_n d_W_580 rfl (by rfl) ?_
  refine kx_aload_n d_W_581 rfl (by rfl) ?_
  refine kx_iload d_W_582 rfl ?_
  refine kx_iconst (nI 1) d_W_584 (by decide) ?_
  refine kx_iadd _ d_W_585 (nI_add _ _) ?_
  refine kx_sld d_W_586 hX (by omega) (by omega) ?_
  refine kx_aload_n d_W_587 rfl (by rfl) ?_
  refine kx_iload d_W_588 rfl ?_
  refine kx_iconst (nI 2) d_W_590 (by decide) ?_
  refine kx_iadd _ d_W_591 (nI_add _ _) ?_
  refine kx_sld d_W_592 hX (by omega) (by omega) ?_
  refine kx_aload_n d_W_593 rfl (by rfl) ?_
  refine kx_callSH (as := [.ref (ad 0), .int (xs (5 * k + 1)), .int (xs (5 * k + 2)), .ref oa]) (rest := []) d_W_594 s_W_96 rfl (by decide) (by decide) (by decide) (by show _ + _ ≤ 601024; simp only [Nat.add_zero]; omega) (by show _ + _ ≤ 7293034; simp only [Nat.add_zero]; omega) rfl (m_L_directory hC.bus ho hc (fun o w1 h => ⟨(hq o w1 h).1, (hq o w1 h).2.1⟩)) (fun X w1 h => by cases h.1) (fun v w1 hq9 => ?_)
  obtain ⟨hv, o1, w0, g, g1, g2, g3, g4⟩ := hq9
  cases hv
  obtain ⟨r1, r2, r3⟩ := hq o1 w0 g1
  obtain ⟨Qm, m1, m2⟩ := r3 w1 g2
  have h6 := ((g2.2 6 (by omega)).trans (r2 6 (by omega) (by omega))).trans hM.1
  have k3 := R1_3 r1
  refine kx_stk (st1 := [.int (nI k9)]) rfl ?_
  refine kx_istore d_W_597 (by decide) ?_
  refine kx_aload_n d_W_599 rfl (by rfl) ?_
  refine kx_aload_n d_W_600 rfl (by rfl) ?_
  refine kx_iload d_W_601 rfl ?_
  refine kx_iconst (nI 1) d_W_603 (by decide) ?_
  refine kx_iadd _ d_W_604 (nI_add _ _) ?_
  refine kx_sld d_W_605 hX (by omega) (by omega) ?_
  refine kx_aload_n d_W_606 rfl (by rfl) ?_
  refine kx_iload d_W_607 rfl ?_
  refine kx_iconst (nI 2) d_W_609 (by decide) ?_
  refine kx_iadd _ d_W_610 (nI_add _ _) ?_
  refine kx_sld d_W_611 hX (by omega) (by omega) ?_
  refine kx_callV (as := [.int (xs (5 * k + 1)), .int (xs (5 * k + 2))]) (rest := []) d_W_612 v_W_98 rfl h6 rfl rfl (by decide) (by decide) (by decide) (by show _ + _ ≤ 601024; simp only [Nat.add_zero]; omega) (by show _ + _ ≤ 7293034; simp only [Nat.add_zero]; omega) rfl m1 (fun X w1 h => ?_) (fun v w3 hq8 => ?_)
  · obtain ⟨_, h, -⟩ := m2 _ _ h
    cases h
  · obtain ⟨b8, e1, e2, e3, e4⟩ := m2 _ _ hq8
    cases e1
    obtain ⟨n9, ad9, X9, D9, F9, T9, pe9, bi9, ma9, A9, hS9, hF9⟩ := e3
    have hS8 := hS9
    obtain ⟨ea, em, hC9, hM9, -, -, -⟩ := hS8
    refine kx_stk (st1 := [.int b8]) rfl ?_
    refine kx_istore d_W_615 (by decide) ?_
    refine kx_aload_n d_W_617 rfl (by rfl) ?_
    have hth := m_M_thrown hM9
    have h69 := hM9.1
    rw [em] at hth h69
    refine kx_callV (as := []) (rest := []) d_W_618 v_W_72 rfl h69 rfl rfl (by decide) (by decide) (by decide) (by show _ + _ ≤ 601024; simp only [Nat.add_zero]; omega) (by show _ + _ ≤ 7293034; simp only [Nat.add_zero]; omega) rfl hth (fun X w1 h => by cases h.1) (fun v w4 hq7 => ?_)
    obtain ⟨hv7, hw7⟩ := hq7
    cases hv7
    subst hw7
    rw [hF9]
    refine kx_stk (st1 := [.int (nI k9)]) rfl ?_
    refine kx_iload d_W_621 rfl ?_
    refine kx_icmp_eq 628 d_W_623 (by decide) (fun _ => ?_) (fun h => absurd rfl h)
    refine kx_iload d_W_628 rfl ?_
    refine kx_if_ne_n 645 d_W_630 (by decide) (by omega) (fun _ => ?_) (fun hk0 => ?_)
    · refine kx_goto 1105 d_W_645 (by decide) ?_
      refine kx_wide (kc1 := kc + 50) (ks1 := ks + 600) (by show _ + _ + _ + _ ≤ _; simp only [Nat.add_zero]; omega) (by show _ + _ + _ + _ ≤ _; simp only [Nat.add_zero]; omega) (kx_loc (L1 := [(0, .ref b), (1, .ref (ad 0)), (2, .ref (ma 0)), (3, .ref oa), (4, .int (nI (5 * k)))]) ⟨rfl, rfl, rfl, rfl, rfl, trivial⟩ ?_)
      exact kk w4 _ _ ⟨n9, ad9, X9, D9, F9, T9, pe9, bi9, ma9, A9, hS9, hF9⟩ (e4.trans g3)
    · have e2 := e2 hk0
      have g4 := g4 hk0
      subst e2
      have g5 := e4.trans g3
      refine kx_aload_n d_W_633 rfl (by rfl) ?_
      refine kx_iconst (nI 0) d_W_634 (by decide) ?_
      refine kx_lald (x := 33) d_W_635 g5 (by decide) (by decide) ?_
      rw [g4]
      refine kx_iload d_W_636 rfl ?_
      refine kx_i2l d_W_638 ?_
      refine kx_lcmp d_W_639 ?_
      rw [lg_self]
      refine kx_if_eq 645 d_W_640 (by decide) (fun _ => ?_) (fun h => absurd rfl h)
      refine kx_goto 1105 d_W_645 (by decide) ?_
      refine kx_wide (kc1 := kc + 50) (ks1 := ks + 600) (by show _ + _ + _ + _ ≤ _; simp only [Nat.add_zero]; omega) (by show _ + _ + _ + _ ≤ _; simp only [Nat.add_zero]; omega) (kx_loc (L1 := [(0, .ref b), (1, .ref (ad 0)), (2, .ref (ma 0)), (3, .ref oa), (4, .int (nI (5 * k)))]) ⟨rfl, rfl, rfl, rfl, rfl, trivial⟩ ?_)
      exact kk w4 _ _ ⟨n9, ad9, X9, D9, F9, T9, pe9, bi9, ma9, A9, hS9, hF9⟩ (e4.trans g3)
set_option maxRecDepth 20000 in
set_option maxHeartbeats 4000000 in
theorem c_W_view {E : kx_E} {z : kx_Z} {b N : Nat} {xs : Nat → Int32} {a0 m0 oa k : Nat} {w : va_W} {f : Nat → Int64} {t : Int32} {kc ks : Nat} {Q : kx_O → va_W → Prop} (hX : kx_Sc E z b N xs) (hN : N ≤ 2560) (hk : 5 * k + 4 < N) (hW : LW E a0 m0 t w) (ho : w[33]? = some (oa, kx_aj E 1 f)) (h1 : kc + 50 ≤ 601024) (h2 : ks + 600 ≤ 7293034) (kk : ∀ w1 t1 f1, LW E a0 m0 t1 w1 → w1[33]? = some (oa, kx_aj E 1 f1) → kx_R E Y_W z 1105 [(0, .ref b), (1, .ref a0), (2, .ref m0), (3, .ref oa), (4, .int (nI (5 * k)))] [] w1 (kc + 50) (ks + 600) Q) : kx_R E Y_W z 648 [(0, .ref b), (1, .ref a0), (2, .ref m0), (3, .ref oa), (4, .int (nI (5 * k)))] [] w kc ks Q := by
  obtain ⟨n, ad, X, D, F, T, pe, bi, ma, A, hS, hF⟩ := hW
  have hS1 := hS
  obtain ⟨rfl, rfl, hC, hM, hI, hR, hZ⟩ := hS1
  obtain ⟨k9, b9, Qc, hc, hq⟩ := op_view hS (xs (5 * k + 1)) (xs (5 * k + 2)) (xs (5 * k + 3))
  refine kx_aload_n d_W_648 rfl (by rfl) ?_
  refine kx_aload_n d_W_649 rfl (by rfl) ?_
  refine kx_iload d_W_650 rfl ?_
  refine kx_iconst (nI 1) d_W_652 (by decide) ?_
  refine kx_iadd _ d_W_653 (nI_add _ _) ?_
  refine kx_sld d_W_654 hX (by omega) (by omega) ?_
  refine kx_aload_n d_W_655 rfl (by rfl) ?_
  refine kx_iload d_W_656 rfl ?_
  refine kx_iconst (nI 2) d_W_658 (by decide) ?_
  refine kx_iadd _ d_W_659 (nI_add _ _) ?_
  refine kx_sld d_W_660 hX (by omega) (by omega) ?_
  refine kx_aload_n d_W_661 rfl (by rfl) ?_
  refine kx_iload d_W_662 rfl ?_
  refine kx_iconst (nI 3) d_W_664 (by decide) ?_
  refine kx_iadd _ d_W_665 (nI_add _ _) ?_
  refine kx_sld d_W_666 hX (by omega) (by omega) ?_
  refine kx_aload_n d_W_667 rfl (by rfl) ?_
  refine kx_callSH (as := [.ref (ad 0), .int (xs (5 * k + 1)), .int (xs (5 * k + 2)), .int (xs (5 * k + 3)), .ref oa]) (rest := []) d_W_668 s_W_99 rfl (by decide) (by decide) (by decide) (by show _ + _ ≤ 601024; simp only [Nat.add_zero]; omega) (by show _ + _ ≤ 7293034; simp only [Nat.add_zero]; omega) rfl (m_L_view hC.bus ho hc (fun o w1 h => ⟨(hq o w1 h).1, (hq o w1 h).2.1⟩)) (fun X w1 h => by cases h.1) (fun v w1 hq9 => ?_)
  obtain ⟨hv, o1, w0, g, g1, g2, g3, g4⟩ := hq9
  cases hv
  obtain ⟨r1, r2, r3⟩ := hq o1 w0 g1
  obtain ⟨Qm, m1, m2⟩ := r3 w1 g2
  have h6 := ((g2.2 6 (by omega)).trans (r2 6 (by omega) (by omega))).trans hM.1
  have k3 := R1_3 r1
  refine kx_stk (st1 := [.int (nI k9)]) rfl ?_
  refine kx_istore d_W_671 (by decide) ?_
  refine kx_aload_n d_W_673 rfl (by rfl) ?_
  refine kx_aload_n d_W_674 rfl (by rfl) ?_
  refine kx_iload d_W_675 rfl ?_
  refine kx_iconst (nI 1) d_W_677 (by decide) ?_
  refine kx_iadd _ d_W_678 (nI_add _ _) ?_
  refine kx_sld d_W_679 hX (by omega) (by omega) ?_
  refine kx_aload_n d_W_680 rfl (by rfl) ?_
  refine kx_iload d_W_681 rfl ?_
  refine kx_iconst (nI 2) d_W_683 (by decide) ?_
  refine kx_iadd _ d_W_684 (nI_add _ _) ?_
  refine kx_sld d_W_685 hX (by omega) (by omega) ?_
  refine kx_aload_n d_W_686 rfl (by rfl) ?_
  refine kx_iload d_W_687 rfl ?_
  refine kx_iconst (nI 3) d_W_689 (by decide) ?_
  refine kx_iadd _ d_W_690 (nI_add _ _) ?_
  refine kx_sld d_W_691 hX (by omega) (by omega) ?_
  refine kx_callV (as := [.int (xs (5 * k + 1)), .int (xs (5 * k + 2)), .int (xs (5 * k + 3))]) (rest := []) d_W_692 v_W_102 rfl h6 rfl rfl (by decide) (by decide) (by decide) (by show _ + _ ≤ 601024; simp only [Nat.add_zero]; omega) (by show _ + _ ≤ 7293034; simp only [Nat.add_zero]; omega) rfl m1 (fun X w1 h => ?_) (fun v w3 hq8 => ?_)
  · obtain ⟨_, h, -⟩ := m2 _ _ h
    cases h
  · obtain ⟨b8, e1, e2, e3, e4⟩ := m2 _ _ hq8
    cases e1
    obtain ⟨n9, ad9, X9, D9, F9, T9, pe9, bi9, ma9, A9, hS9, hF9⟩ := e3
    have hS8 := hS9
    obtain ⟨ea, em, hC9, hM9, -, -, -⟩ := hS8
    refine kx_stk (st1 := [.int b8]) rfl ?_
    refine kx_istore d_W_695 (by decide) ?_
    refine kx_aload_n d_W_697 rfl (by rfl) ?_
    have hth := m_M_thrown hM9
    have h69 := hM9.1
    rw [em] at hth h69
    refine kx_callV (as := []) (rest := []) d_W_698 v_W_72 rfl h69 rfl rfl (by decide) (by decide) (by decide) (by show _ + _ ≤ 601024; simp only [Nat.add_zero]; omega) (by show _ + _ ≤ 7293034; simp only [Nat.add_zero]; omega) rfl hth (fun X w1 h => by cases h.1) (fun v w4 hq7 => ?_)
    obtain ⟨hv7, hw7⟩ := hq7
    cases hv7
    subst hw7
    rw [hF9]
    refine kx_stk (st1 := [.int (nI k9)]) rfl ?_
    refine kx_iload d_W_701 rfl ?_
    refine kx_icmp_eq 708 d_W_703 (by decide) (fun _ => ?_) (fun h => absurd rfl h)
    refine kx_iload d_W_708 rfl ?_
    refine kx_if_ne_n 725 d_W_710 (by decide) (by omega) (fun _ => ?_) (fun hk0 => ?_)
    · refine kx_goto 1105 d_W_725 (by decide) ?_
      refine kx_wide (kc1 := kc + 50) (ks1 := ks + 600) (by show _ + _ + _ + _ ≤ _; simp only [Nat.add_zero]; omega) (by show _ + _ + _ + _ ≤ _; simp only [Nat.add_zero]; omega) (kx_loc (L1 := [(0, .ref b), (1, .ref (ad 0)), (2, .ref (ma 0)), (3, .ref oa), (4, .int (nI (5 * k)))]) ⟨rfl, rfl, rfl, rfl, rfl, trivial⟩ ?_)
      exact kk w4 _ _ ⟨n9, ad9, X9, D9, F9, T9, pe9, bi9, ma9, A9, hS9, hF9⟩ (e4.trans g3)
    · have e2 := e2 hk0
      have g4 := g4 hk0
      subst e2
      have g5 := e4.trans g3
      refine kx_aload_n d_W_713 rfl (by rfl) ?_
      refine kx_iconst (nI 0) d_W_714 (by decide) ?_
      refine kx_lald (x := 33) d_W_715 g5 (by decide) (by decide) ?_
      rw [g4]
      refine kx_iload d_W_716 rfl ?_
      refine kx_i2l d_W_718 ?_
      refine kx_lcmp d_W_719 ?_
      rw [lg_self]
      refine kx_if_eq 725 d_W_720 (by decide) (fun _ => ?_) (fun h => absurd rfl h)
      refine kx_goto 1105 d_W_725 (by decide) ?_
      refine kx_wide (kc1 := kc + 50) (ks1 := ks + 600) (by show _ + _ + _ + _ ≤ _; simp only [Nat.add_zero]; omega) (by show _ + _ + _ + _ ≤ _; simp only [Nat.add_zero]; omega) (kx_loc (L1 := [(0, .ref b), (1, .ref (ad 0)), (2, .ref (ma 0)), (3, .ref oa), (4, .int (nI (5 * k)))]) ⟨rfl, rfl, rfl, rfl, rfl, trivial⟩ ?_)
      exact kk w4 _ _ ⟨n9, ad9, X9, D9, F9, T9, pe9, bi9, ma9, A9, hS9, hF9⟩ (e4.trans g3)
set_option maxRecDepth 20000 in
set_option maxHeartbeats 4000000 in
theorem c_W_put {E : kx_E} {z : kx_Z} {b N : Nat} {xs : Nat → Int32} {a0 m0 oa k : Nat} {w : va_W} {f : Nat → Int64} {t : Int32} {kc ks : Nat} {Q : kx_O → va_W → Prop} (hX : kx_Sc E z b N xs) (hN : N ≤ 2560) (hk : 5 * k + 4 < N) (hW : LW E a0 m0 t w) (ho : w[33]? = some (oa, kx_aj E 1 f)) (h1 : kc + 50 ≤ 601024) (h2 : ks + 600 ≤ 7293034) (kk : ∀ w1 t1 f1, LW E a0 m0 t1 w1 → w1[33]? = some (oa, kx_aj E 1 f1) → kx_R E Y_W z 1105 [(0, .ref b), (1, .ref a0), (2, .ref m0), (3, .ref oa), (4, .int (nI (5 * k)))] [] w1 (kc + 50) (ks + 600) Q) : kx_R E Y_W z 728 [(0, .ref b), (1, .ref a0), (2, .ref m0), (3, .ref oa), (4, .int (nI (5 * k)))] [] w kc ks Q := by
  obtain ⟨n, ad, X, D, F, T, pe, bi, ma, A, hS, hF⟩ := hW
  have hS1 := hS
  obtain ⟨rfl, rfl, hC, hM, hI, hR, hZ⟩ := hS1
  obtain ⟨k9, b9, Qc, hc, hq⟩ := op_put hS (xs (5 * k + 1)) (xs (5 * k + 2)) (xs (5 * k + 3))
  refine kx_aload_n d_W_728 rfl (by rfl) ?_
  refine kx_aload_n d_W_729 rfl (by rfl) ?_
  refine kx_iload d_W_730 rfl ?_
  refine kx_iconst (nI 1) d_W_732 (by decide) ?_
  refine kx_iadd _ d_W_733 (nI_add _ _) ?_
  refine kx_sld d_W_734 hX (by omega) (by omega) ?_
  refine kx_aload_n d_W_735 rfl (by rfl) ?_
  refine kx_iload d_W_736 rfl ?_
  refine kx_iconst (nI 2) d_W_738 (by decide) ?_
  refine kx_iadd _ d_W_739 (nI_add _ _) ?_
  refine kx_sld d_W_740 hX (by omega) (by omega) ?_
  refine kx_aload_n d_W_741 rfl (by rfl) ?_
  refine kx_iload d_W_742 rfl ?_
  refine kx_iconst (nI 3) d_W_744 (by decide) ?_
  refine kx_iadd _ d_W_745 (nI_add _ _) ?_
  refine kx_sld d_W_746 hX (by omega) (by omega) ?_
  refine kx_aload_n d_W_747 rfl (by rfl) ?_
  refine kx_callSH (as := [.ref (ad 0), .int (xs (5 * k + 1)), .int (xs (5 * k + 2)), .int (xs (5 * k + 3)), .ref oa]) (rest := []) d_W_748 s_W_103 rfl (by decide) (by decide) (by decide) (by show _ + _ ≤ 601024; simp only [Nat.add_zero]; omega) (by show _ + _ ≤ 7293034; simp only [Nat.add_zero]; omega) rfl (m_L_put hC.bus ho hc (fun o w1 h => ⟨(hq o w1 h).1, (hq o w1 h).2.1⟩)) (fun X w1 h => by cases h.1) (fun v w1 hq9 => ?_)
  obtain ⟨hv, o1, w0, g, g1, g2, g3, g4⟩ := hq9
  cases hv
  obtain ⟨r1, r2, r3⟩ := hq o1 w0 g1
  obtain ⟨Qm, m1, m2⟩ := r3 w1 g2
  have h6 := ((g2.2 6 (by omega)).trans (r2 6 (by omega) (by omega))).trans hM.1
  have k3 := R2_3 r1
  refine kx_stk (st1 := [.int (nI k9)]) rfl ?_
  refine kx_istore d_W_751 (by decide) ?_
  refine kx_aload_n d_W_753 rfl (by rfl) ?_
  refine kx_aload_n d_W_754 rfl (by rfl) ?_
  refine kx_iload d_W_755 rfl ?_
  refine kx_iconst (nI 1) d_W_757 (by decide) ?_
  refine kx_iadd _ d_W_758 (nI_add _ _) ?_
  refine kx_sld d_W_759 hX (by omega) (by omega) ?_
  refine kx_aload_n d_W_760 rfl (by rfl) ?_
  refine kx_iload d_W_761 rfl ?_
  refine kx_iconst (nI 2) d_W_763 (by decide) ?_
  refine kx_iadd _ d_W_764 (nI_add _ _) ?_
  refine kx_sld d_W_765 hX (by omega) (by omega) ?_
  refine kx_aload_n d_W_766 rfl (by rfl) ?_
  refine kx_iload d_W_767 rfl ?_
  refine kx_iconst (nI 3) d_W_769 (by decide) ?_
  refine kx_iadd _ d_W_770 (nI_add _ _) ?_
  refine kx_sld d_W_771 hX (by omega) (by omega) ?_
  refine kx_callV (as := [.int (xs (5 * k + 1)), .int (xs (5 * k + 2)), .int (xs (5 * k + 3))]) (rest := []) d_W_772 v_W_105 rfl h6 rfl rfl (by decide) (by decide) (by decide) (by show _ + _ ≤ 601024; simp only [Nat.add_zero]; omega) (by show _ + _ ≤ 7293034; simp only [Nat.add_zero]; omega) rfl m1 (fun X w1 h => ?_) (fun v w3 hq8 => ?_)
  · obtain ⟨_, h, -⟩ := m2 _ _ h
    cases h
  · obtain ⟨b8, e1, e2, e3, e4⟩ := m2 _ _ hq8
    cases e1
    obtain ⟨n9, ad9, X9, D9, F9, T9, pe9, bi9, ma9, A9, hS9, hF9⟩ := e3
    have hS8 := hS9
    obtain ⟨ea, em, hC9, hM9, -, -, -⟩ := hS8
    refine kx_stk (st1 := [.int b8]) rfl ?_
    refine kx_istore d_W_775 (by decide) ?_
    refine kx_aload_n d_W_777 rfl (by rfl) ?_
    have hth := m_M_thrown hM9
    have h69 := hM9.1
    rw [em] at hth h69
    refine kx_callV (as := []) (rest := []) d_W_778 v_W_72 rfl h69 rfl rfl (by decide) (by decide) (by decide) (by show _ + _ ≤ 601024; simp only [Nat.add_zero]; omega) (by show _ + _ ≤ 7293034; simp only [Nat.add_zero]; omega) rfl hth (fun X w1 h => by cases h.1) (fun v w4 hq7 => ?_)
    obtain ⟨hv7, hw7⟩ := hq7
    cases hv7
    subst hw7
    rw [hF9]
    refine kx_stk (st1 := [.int (nI k9)]) rfl ?_
    refine kx_iload d_W_781 rfl ?_
    refine kx_icmp_eq 788 d_W_783 (by decide) (fun _ => ?_) (fun h => absurd rfl h)
    refine kx_iload d_W_788 rfl ?_
    refine kx_if_ne_n 805 d_W_790 (by decide) (by omega) (fun _ => ?_) (fun hk0 => ?_)
    · refine kx_goto 1105 d_W_805 (by decide) ?_
      refine kx_wide (kc1 := kc + 50) (ks1 := ks + 600) (by show _ + _ + _ + _ ≤ _; simp only [Nat.add_zero]; omega) (by show _ + _ + _ + _ ≤ _; simp only [Nat.add_zero]; omega) (kx_loc (L1 := [(0, .ref b), (1, .ref (ad 0)), (2, .ref (ma 0)), (3, .ref oa), (4, .int (nI (5 * k)))]) ⟨rfl, rfl, rfl, rfl, rfl, trivial⟩ ?_)
      exact kk w4 _ _ ⟨n9, ad9, X9, D9, F9, T9, pe9, bi9, ma9, A9, hS9, hF9⟩ (e4.trans g3)
    · have e2 := e2 hk0
      have g4 := g4 hk0
      subst e2
      have g5 := e4.trans g3
      refine kx_aload_n d_W_793 rfl (by rfl) ?_
      refine kx_iconst (nI 0) d_W_794 (by decide) ?_
      refine kx_lald (x := 33) d_W_795 g5 (by decide) (by decide) ?_
      rw [g4]
      refine kx_iload d_W_796 rfl ?_
      refine kx_i2l d_W_798 ?_
      refine kx_lcmp d_W_799 ?_
      rw [lg_self]
      refine kx_if_eq 805 d_W_800 (by decide) (fun _ => ?_) (fun h => absurd rfl h)
      refine kx_goto 1105 d_W_805 (by decide) ?_
      refine kx_wide (kc1 := kc + 50) (ks1 := ks + 600) (by show _ + _ + _ + _ ≤ _; simp only [Nat.add_zero]; omega) (by show _ + _ + _ + _ ≤ _; simp only [Nat.add_zero]; omega) (kx_loc (L1 := [(0, .ref b), (1, .ref (ad 0)), (2, .ref (ma 0)), (3, .ref oa), (4, .int (nI (5 * k)))]) ⟨rfl, rfl, rfl, rfl, rfl, trivial⟩ ?_)
      exact kk w4 _ _ ⟨n9, ad9, X9, D9, F9, T9, pe9, bi9, ma9, A9, hS9, hF9⟩ (e4.trans g3)
set_option maxRecDepth 20000 in
set_option maxHeartbeats 4000000 in
theorem c_W_get {E : kx_E} {z : kx_Z} {b N : Nat} {xs : Nat → Int32} {a0 m0 oa k : Nat} {w : va_W} {f : Nat → Int64} {t : Int32} {kc ks : Nat} {Q : kx_O → va_W → Prop} (hX : kx_Sc E z b N xs) (hN : N ≤ 2560) (hk : 5 * k + 4 < N) (hW : LW E a0 m0 t w) (ho : w[33]? = some (oa, kx_aj E 1 f)) (h1 : kc + 50 ≤ 601024) (h2 : ks + 600 ≤ 7293034) (kk : ∀ w1 t1 f1, LW E a0 m0 t1 w1 → w1[33]? = some (oa, kx_aj E 1 f1) → kx_R E Y_W z 1105 [(0, .ref b), (1, .ref a0), (2, .ref m0), (3, .ref oa), (4, .int (nI (5 * k)))] [] w1 (kc + 50) (ks + 600) Q) : kx_R E Y_W z 808 [(0, .ref b), (1, .ref a0), (2, .ref m0), (3, .ref oa), (4, .int (nI (5 * k)))] [] w kc ks Q := by
  obtain ⟨n, ad, X, D, F, T, pe, bi, ma, A, hS, hF⟩ := hW
  have hS1 := hS
  obtain ⟨rfl, rfl, hC, hM, hI, hR, hZ⟩ := hS1
  obtain ⟨k9, b9, Qc, hc, hq⟩ := op_get hS (xs (5 * k + 1)) (xs (5 * k + 2)) (xs (5 * k + 3))
  refine kx_aload_n d_W_808 rfl (by rfl) ?_
  refine kx_aload_n d_W_809 rfl (by rfl) ?_
  refine kx_iload d_W_810 rfl ?_
  refine kx_iconst (nI 1) d_W_812 (by decide) ?_
  refine kx_iadd _ d_W_813 (nI_add _ _) ?_
  refine kx_sld d_W_814 hX (by omega) (by omega) ?_
  refine kx_aload_n d_W_815 rfl (by rfl) ?_
  refine kx_iload d_W_816 rfl ?_
  refine kx_iconst (nI 2) d_W_818 (by decide) ?_
  refine kx_iadd _ d_W_819 (nI_add _ _) ?_
  refine kx_sld d_W_820 hX (by omega) (by omega) ?_
  refine kx_aload_n d_W_821 rfl (by rfl) ?_
  refine kx_iload d_W_822 rfl ?_
  refine kx_iconst (nI 3) d_W_824 (by decide) ?_
  refine kx_iadd _ d_W_825 (nI_add _ _) ?_
  refine kx_sld d_W_826 hX (by omega) (by omega) ?_
  refine kx_aload_n d_W_827 rfl (by rfl) ?_
  refine kx_callSH (as := [.ref (ad 0), .int (xs (5 * k + 1)), .int (xs (5 * k + 2)), .int (xs (5 * k + 3)), .ref oa]) (rest := []) d_W_828 s_W_106 rfl (by decide) (by decide) (by decide) (by show _ + _ ≤ 601024; simp only [Nat.add_zero]; omega) (by show _ + _ ≤ 7293034; simp only [Nat.add_zero]; omega) rfl (m_L_get hC.bus ho hc (fun o w1 h => ⟨(hq o w1 h).1, (hq o w1 h).2.1⟩)) (fun X w1 h => by cases h.1) (fun v w1 hq9 => ?_)
  obtain ⟨hv, o1, w0, g, g1, g2, g3, g4⟩ := hq9
  cases hv
  obtain ⟨r1, r2, r3⟩ := hq o1 w0 g1
  obtain ⟨Qm, m1, m2⟩ := r3 w1 g2
  have h6 := ((g2.2 6 (by omega)).trans (r2 6 (by omega) (by omega))).trans hM.1
  have k3 := R2_3 r1
  refine kx_stk (st1 := [.int (nI k9)]) rfl ?_
  refine kx_istore d_W_831 (by decide) ?_
  refine kx_aload_n d_W_833 rfl (by rfl) ?_
  refine kx_aload_n d_W_834 rfl (by rfl) ?_
  refine kx_iload d_W_835 rfl ?_
  refine kx_iconst (nI 1) d_W_837 (by decide) ?_
  refine kx_iadd _ d_W_838 (nI_add _ _) ?_
  refine kx_sld d_W_839 hX (by omega) (by omega) ?_
  refine kx_aload_n d_W_840 rfl (by rfl) ?_
  refine kx_iload d_W_841 rfl ?_
  refine kx_iconst (nI 2) d_W_843 (by decide) ?_
  refine kx_iadd _ d_W_844 (nI_add _ _) ?_
  refine kx_sld d_W_845 hX (by omega) (by omega) ?_
  refine kx_aload_n d_W_846 rfl (by rfl) ?_
  refine kx_iload d_W_847 rfl ?_
  refine kx_iconst (nI 3) d_W_849 (by decide) ?_
  refine kx_iadd _ d_W_850 (nI_add _ _) ?_
  refine kx_sld d_W_851 hX (by omega) (by omega) ?_
  refine kx_callV (as := [.int (xs (5 * k + 1)), .int (xs (5 * k + 2)), .int (xs (5 * k + 3))]) (rest := []) d_W_852 v_W_108 rfl h6 rfl rfl (by decide) (by decide) (by decide) (by show _ + _ ≤ 601024; simp only [Nat.add_zero]; omega) (by show _ + _ ≤ 7293034; simp only [Nat.add_zero]; omega) rfl m1 (fun X w1 h => ?_) (fun v w3 hq8 => ?_)
  · obtain ⟨_, h, -⟩ := m2 _ _ h
    cases h
  · obtain ⟨b8, e1, e2, e3, e4⟩ := m2 _ _ hq8
    cases e1
    obtain ⟨n9, ad9, X9, D9, F9, T9, pe9, bi9, ma9, A9, hS9, hF9⟩ := e3
    have hS8 := hS9
    obtain ⟨ea, em, hC9, hM9, -, -, -⟩ := hS8
    refine kx_stk (st1 := [.int b8]) rfl ?_
    refine kx_istore d_W_855 (by decide) ?_
    refine kx_aload_n d_W_857 rfl (by rfl) ?_
    have hth := m_M_thrown hM9
    have h69 := hM9.1
    rw [em] at hth h69
    refine kx_callV (as := []) (rest := []) d_W_858 v_W_72 rfl h69 rfl rfl (by decide) (by decide) (by decide) (by show _ + _ ≤ 601024; simp only [Nat.add_zero]; omega) (by show _ + _ ≤ 7293034; simp only [Nat.add_zero]; omega) rfl hth (fun X w1 h => by cases h.1) (fun v w4 hq7 => ?_)
    obtain ⟨hv7, hw7⟩ := hq7
    cases hv7
    subst hw7
    rw [hF9]
    refine kx_stk (st1 := [.int (nI k9)]) rfl ?_
    refine kx_iload d_W_861 rfl ?_
    refine kx_icmp_eq 868 d_W_863 (by decide) (fun _ => ?_) (fun h => absurd rfl h)
    refine kx_iload d_W_868 rfl ?_
    refine kx_if_ne_n 885 d_W_870 (by decide) (by omega) (fun _ => ?_) (fun hk0 => ?_)
    · refine kx_goto 1105 d_W_885 (by decide) ?_
      refine kx_wide (kc1 := kc + 50) (ks1 := ks + 600) (by show _ + _ + _ + _ ≤ _; simp only [Nat.add_zero]; omega) (by show _ + _ + _ + _ ≤ _; simp only [Nat.add_zero]; omega) (kx_loc (L1 := [(0, .ref b), (1, .ref (ad 0)), (2, .ref (ma 0)), (3, .ref oa), (4, .int (nI (5 * k)))]) ⟨rfl, rfl, rfl, rfl, rfl, trivial⟩ ?_)
      exact kk w4 _ _ ⟨n9, ad9, X9, D9, F9, T9, pe9, bi9, ma9, A9, hS9, hF9⟩ (e4.trans g3)
    · have e2 := e2 hk0
      have g4 := g4 hk0
      subst e2
      have g5 := e4.trans g3
      refine kx_aload_n d_W_873 rfl (by rfl) ?_
      refine kx_iconst (nI 0) d_W_874 (by decide) ?_
      refine kx_lald (x := 33) d_W_875 g5 (by decide) (by decide) ?_
      rw [g4]
      refine kx_iload d_W_876 rfl ?_
      refine kx_i2l d_W_878 ?_
      refine kx_lcmp d_W_879 ?_
      rw [lg_self]
      refine kx_if_eq 885 d_W_880 (by decide) (fun _ => ?_) (fun h => absurd rfl h)
      refine kx_goto 1105 d_W_885 (by decide) ?_
      refine kx_wide (kc1 := kc + 50) (ks1 := ks + 600) (by show _ + _ + _ + _ ≤ _; simp only [Nat.add_zero]; omega) (by show _ + _ + _ + _ ≤ _; simp only [Nat.add_zero]; omega) (kx_loc (L1 := [(0, .ref b), (1, .ref (ad 0)), (2, .ref (ma 0)), (3, .ref oa), (4, .int (nI (5 * k)))]) ⟨rfl, rfl, rfl, rfl, rfl, trivial⟩ ?_)
      exact kk w4 _ _ ⟨n9, ad9, X9, D9, F9, T9, pe9, bi9, ma9, A9, hS9, hF9⟩ (e4.trans g3)
set_option maxRecDepth 20000 in
set_option maxHeartbeats 4000000 in
theorem c_W_side {E : kx_E} {z : kx_Z} {b N : Nat} {xs : Nat → Int32} {a0 m0 oa k : Nat} {w : va_W} {f : Nat → Int64} {t : Int32} {kc ks : Nat} {Q : kx_O → va_W → Prop} (hX : kx_Sc E z b N xs) (hN : N ≤ 2560) (hk : 5 * k + 4 < N) (hW : LW E a0 m0 t w) (ho : w[33]? = some (oa, kx_aj E 1 f)) (h1 : kc + 50 ≤ 601024) (h2 : ks + 600 ≤ 7293034) (kk : ∀ w1 t1 f1, LW E a0 m0 t1 w1 → w1[33]? = some (oa, kx_aj E 1 f1) → kx_R E Y_W z 1105 [(0, .ref b), (1, .ref a0), (2, .ref m0), (3, .ref oa), (4, .int (nI (5 * k)))] [] w1 (kc + 50) (ks + 600) Q) : kx_R E Y_W z 888 [(0, .ref b), (1, .ref a0), (2, .ref m0), (3, .ref oa), (4, .int (nI (5 * k)))] [] w kc ks Q := by
  obtain ⟨n, ad, X, D, F, T, pe, bi, ma, A, hS, hF⟩ := hW
  have hS1 := hS
  obtain ⟨rfl, rfl, hC, hM, hI, hR, hZ⟩ := hS1
  obtain ⟨k9, b9, Qc, hc, hq⟩ := op_side hS (xs (5 * k + 1)) (xs (5 * k + 2)) (xs (5 * k + 3))
  refine kx_aload_n d_W_888 rfl (by rfl) ?_
  refine kx_aload_n d_W_889 rfl (by rfl) ?_
  refine kx_iload d_W_890 rfl ?_
  refine kx_iconst (nI 1) d_W_892 (by decide) ?_
  refine kx_iadd _ d_W_893 (nI_add _ _) ?_
  refine kx_sld d_W_894 hX (by omega) (by omega) ?_
  refine kx_aload_n d_W_895 rfl (by rfl) ?_
  refine kx_iload d_W_896 rfl ?_
  refine kx_iconst (nI 2) d_W_898 (by decide) ?_
  refine kx_iadd _ d_W_899 (nI_add _ _) ?_
  refine kx_sld d_W_900 hX (by omega) (by omega) ?_
  refine kx_aload_n d_W_901 rfl (by rfl) ?_
  refine kx_iload d_W_902 rfl ?_
  refine kx_iconst (nI 3) d_W_904 (by decide) ?_
  refine kx_iadd _ d_W_905 (nI_add _ _) ?_
  refine kx_sld d_W_906 hX (by omega) (by omega) ?_
  refine kx_aload_n d_W_907 rfl (by rfl) ?_
  refine kx_callSH (as := [.ref (ad 0), .int (xs (5 * k + 1)), .int (xs (5 * k + 2)), .int (xs (5 * k + 3)), .ref oa]) (rest := []) d_W_908 s_W_109 rfl (by decide) (by decide) (by decide) (by show _ + _ ≤ 601024; simp only [Nat.add_zero]; omega) (by show _ + _ ≤ 7293034; simp only [Nat.add_zero]; omega) rfl (m_L_side hC.bus ho hc (fun o w1 h => ⟨(hq o w1 h).1, (hq o w1 h).2.1⟩)) (fun X w1 h => by cases h.1) (fun v w1 hq9 => ?_)
  obtain ⟨hv, o1, w0, g, g1, g2, g3, g4⟩ := hq9
  cases hv
  obtain ⟨r1, r2, r3⟩ := hq o1 w0 g1
  obtain ⟨Qm, m1, m2⟩ := r3 w1 g2
  have h6 := ((g2.2 6 (by omega)).trans (r2 6 (by omega) (by omega))).trans hM.1
  have k3 := R2_3 r1
  refine kx_stk (st1 := [.int (nI k9)]) rfl ?_
  refine kx_istore d_W_911 (by decide) ?_
  refine kx_aload_n d_W_913 rfl (by rfl) ?_
  refine kx_aload_n d_W_914 rfl (by rfl) ?_
  refine kx_iload d_W_915 rfl ?_
  refine kx_iconst (nI 1) d_W_917 (by decide) ?_
  refine kx_iadd _ d_W_918 (nI_add _ _) ?_
  refine kx_sld d_W_919 hX (by omega) (by omega) ?_
  refine kx_aload_n d_W_920 rfl (by rfl) ?_
  refine kx_iload d_W_921 rfl ?_
  refine kx_iconst (nI 2) d_W_923 (by decide) ?_
  refine kx_iadd _ d_W_924 (nI_add _ _) ?_
  refine kx_sld d_W_925 hX (by omega) (by omega) ?_
  refine kx_aload_n d_W_926 rfl (by rfl) ?_
  refine kx_iload d_W_927 rfl ?_
  refine kx_iconst (nI 3) d_W_929 (by decide) ?_
  refine kx_iadd _ d_W_930 (nI_add _ _) ?_
  refine kx_sld d_W_931 hX (by omega) (by omega) ?_
  refine kx_callV (as := [.int (xs (5 * k + 1)), .int (xs (5 * k + 2)), .int (xs (5 * k + 3))]) (rest := []) d_W_932 v_W_111 rfl h6 rfl rfl (by decide) (by decide) (by decide) (by show _ + _ ≤ 601024; simp only [Nat.add_zero]; omega) (by show _ + _ ≤ 7293034; simp only [Nat.add_zero]; omega) rfl m1 (fun X w1 h => ?_) (fun v w3 hq8 => ?_)
  · obtain ⟨_, h, -⟩ := m2 _ _ h
    cases h
  · obtain ⟨b8, e1, e2, e3, e4⟩ := m2 _ _ hq8
    cases e1
    obtain ⟨n9, ad9, X9, D9, F9, T9, pe9, bi9, ma9, A9, hS9, hF9⟩ := e3
    have hS8 := hS9
    obtain ⟨ea, em, hC9, hM9, -, -, -⟩ := hS8
    refine kx_stk (st1 := [.int b8]) rfl ?_
    refine kx_istore d_W_935 (by decide) ?_
    refine kx_aload_n d_W_937 rfl (by rfl) ?_
    have hth := m_M_thrown hM9
    have h69 := hM9.1
    rw [em] at hth h69
    refine kx_callV (as := []) (rest := []) d_W_938 v_W_72 rfl h69 rfl rfl (by decide) (by decide) (by decide) (by show _ + _ ≤ 601024; simp only [Nat.add_zero]; omega) (by show _ + _ ≤ 7293034; simp only [Nat.add_zero]; omega) rfl hth (fun X w1 h => by cases h.1) (fun v w4 hq7 => ?_)
    obtain ⟨hv7, hw7⟩ := hq7
    cases hv7
    subst hw7
    rw [hF9]
    refine kx_stk (st1 := [.int (nI k9)]) rfl ?_
    refine kx_iload d_W_941 rfl ?_
    refine kx_icmp_eq 948 d_W_943 (by decide) (fun _ => ?_) (fun h => absurd rfl h)
    refine kx_iload d_W_948 rfl ?_
    refine kx_if_ne_n 965 d_W_950 (by decide) (by omega) (fun _ => ?_) (fun hk0 => ?_)
    · refine kx_goto 1105 d_W_965 (by decide) ?_
      refine kx_wide (kc1 := kc + 50) (ks1 := ks + 600) (by show _ + _ + _ + _ ≤ _; simp only [Nat.add_zero]; omega) (by show _ + _ + _ + _ ≤ _; simp only [Nat.add_zero]; omega) (kx_loc (L1 := [(0, .ref b), (1, .ref (ad 0)), (2, .ref (ma 0)), (3, .ref oa), (4, .int (nI (5 * k)))]) ⟨rfl, rfl, rfl, rfl, rfl, trivial⟩ ?_)
      exact kk w4 _ _ ⟨n9, ad9, X9, D9, F9, T9, pe9, bi9, ma9, A9, hS9, hF9⟩ (e4.trans g3)
    · have e2 := e2 hk0
      have g4 := g4 hk0
      subst e2
      have g5 := e4.trans g3
      refine kx_aload_n d_W_953 rfl (by rfl) ?_
      refine kx_iconst (nI 0) d_W_954 (by decide) ?_
      refine kx_lald (x := 33) d_W_955 g5 (by decide) (by decide) ?_
      rw [g4]
      refine kx_iload d_W_956 rfl ?_
      refine kx_i2l d_W_958 ?_
      refine kx_lcmp d_W_959 ?_
      rw [lg_self]
      refine kx_if_eq 965 d_W_960 (by decide) (fun _ => ?_) (fun h => absurd rfl h)
      refine kx_goto 1105 d_W_965 (by decide) ?_
      refine kx_wide (kc1 := kc + 50) (ks1 := ks + 600) (by show _ + _ + _ + _ ≤ _; simp only [Nat.add_zero]; omega) (by show _ + _ + _ + _ ≤ _; simp only [Nat.add_zero]; omega) (kx_loc (L1 := [(0, .ref b), (1, .ref (ad 0)), (2, .ref (ma 0)), (3, .ref oa), (4, .int (nI (5 * k)))]) ⟨rfl, rfl, rfl, rfl, rfl, trivial⟩ ?_)
      exact kk w4 _ _ ⟨n9, ad9, X9, D9, F9, T9, pe9, bi9, ma9, A9, hS9, hF9⟩ (e4.trans g3)
set_option maxRecDepth 20000 in
set_option maxHeartbeats 4000000 in
theorem c_W_order {E : kx_E} {z : kx_Z} {b N : Nat} {xs : Nat → Int32} {a0 m0 oa k : Nat} {w : va_W} {f : Nat → Int64} {t : Int32} {kc ks : Nat} {Q : kx_O → va_W → Prop} (hX : kx_Sc E z b N xs) (hN : N ≤ 2560) (hk : 5 * k + 4 < N) (hW : LW E a0 m0 t w) (ho : w[33]? = some (oa, kx_aj E 1 f)) (h1 : kc + 50 ≤ 601024) (h2 : ks + 600 ≤ 7293034) (kk : ∀ w1 t1 f1, LW E a0 m0 t1 w1 → w1[33]? = some (oa, kx_aj E 1 f1) → kx_R E Y_W z 1105 [(0, .ref b), (1, .ref a0), (2, .ref m0), (3, .ref oa), (4, .int (nI (5 * k)))] [] w1 (kc + 50) (ks + 600) Q) : kx_R E Y_W z 968 [(0, .ref b), (1, .ref a0), (2, .ref m0), (3, .ref oa), (4, .int (nI (5 * k)))] [] w kc ks Q := by
  obtain ⟨n, ad, X, D, F, T, pe, bi, ma, A, hS, hF⟩ := hW
  have hS1 := hS
  obtain ⟨rfl, rfl, hC, hM, hI, hR, hZ⟩ := hS1
  obtain ⟨k9, b9, Qc, hc, hq⟩ := op_order hS (xs (5 * k + 1)) (xs (5 * k + 2))
  refine kx_aload_n d_W_968 rfl (by rfl) ?_
  refine kx_aload_n d_W_969 rfl (by rfl) ?_
  refine kx_iload d_W_970 rfl ?_
  refine kx_iconst (nI 1) d_W_972 (by decide) ?_
  refine kx_iadd _ d_W_973 (nI_add _ _) ?_
  refine kx_sld d_W_974 hX (by omega) (by omega) ?_
  refine kx_aload_n d_W_975 rfl (by rfl) ?_
  refine kx_iload d_W_976 rfl ?_
  refine kx_iconst (nI 2) d_W_978 (by decide) ?_
  refine kx_iadd _ d_W_979 (nI_add _ _) ?_
  refine kx_sld d_W_980 hX (by omega) (by omega) ?_
  refine kx_aload_n d_W_981 rfl (by rfl) ?_
  refine kx_callSH (as := [.ref (ad 0), .int (xs (5 * k + 1)), .int (xs (5 * k + 2)), .ref oa]) (rest := []) d_W_982 s_W_112 rfl (by decide) (by decide) (by decide) (by show _ + _ ≤ 601024; simp only [Nat.add_zero]; omega) (by show _ + _ ≤ 7293034; simp only [Nat.add_zero]; omega) rfl (m_L_order hC.bus ho hc (fun o w1 h => ⟨(hq o w1 h).1, (hq o w1 h).2.1⟩)) (fun X w1 h => by cases h.1) (fun v w1 hq9 => ?_)
  obtain ⟨hv, o1, w0, g, g1, g2, g3, g4⟩ := hq9
  cases hv
  obtain ⟨r1, r2, r3⟩ := hq o1 w0 g1
  obtain ⟨Qm, m1, m2⟩ := r3 w1 g2
  have h6 := ((g2.2 6 (by omega)).trans (r2 6 (by omega) (by omega))).trans hM.1
  have k3 := R1_3 r1
  refine kx_stk (st1 := [.int (nI k9)]) rfl ?_
  refine kx_istore d_W_985 (by decide) ?_
  refine kx_aload_n d_W_987 rfl (by rfl) ?_
  refine kx_aload_n d_W_988 rfl (by rfl) ?_
  refine kx_iload d_W_989 rfl ?_
  refine kx_iconst (nI 1) d_W_991 (by decide) ?_
  refine kx_iadd _ d_W_992 (nI_add _ _) ?_
  refine kx_sld d_W_993 hX (by omega) (by omega) ?_
  refine kx_aload_n d_W_994 rfl (by rfl) ?_
  refine kx_iload d_W_995 rfl ?_
  refine kx_iconst (nI 2) d_W_997 (by decide) ?_
  refine kx_iadd _ d_W_998 (nI_add _ _) ?_
  refine kx_sld d_W_999 hX (by omega) (by omega) ?_
  refine kx_callV (as := [.int (xs (5 * k + 1)), .int (xs (5 * k + 2))]) (rest := []) d_W_1000 v_W_114 rfl h6 rfl rfl (by decide) (by decide) (by decide) (by show _ + _ ≤ 601024; simp only [Nat.add_zero]; omega) (by show _ + _ ≤ 7293034; simp only [Nat.add_zero]; omega) rfl m1 (fun X w1 h => ?_) (fun v w3 hq8 => ?_)
  · obtain ⟨_, h, -⟩ := m2 _ _ h
    cases h
  · obtain ⟨b8, e1, e2, e3, e4⟩ := m2 _ _ hq8
    cases e1
    obtain ⟨n9, ad9, X9, D9, F9, T9, pe9, bi9, ma9, A9, hS9, hF9⟩ := e3
    have hS8 := hS9
    obtain ⟨ea, em, hC9, hM9, -, -, -⟩ := hS8
    refine kx_stk (st1 := [.int b8]) rfl ?_
    refine kx_istore d_W_1003 (by decide) ?_
    refine kx_aload_n d_W_1005 rfl (by rfl) ?_
    have hth := m_M_thrown hM9
    have h69 := hM9.1
    rw [em] at hth h69
    refine kx_callV (as := []) (rest := []) d_W_1006 v_W_72 rfl h69 rfl rfl (by decide) (by decide) (by decide) (by show _ + _ ≤ 601024; simp only [Nat.add_zero]; omega) (by show _ + _ ≤ 7293034; simp only [Nat.add_zero]; omega) rfl hth (fun X w1 h => by cases h.1) (fun v w4 hq7 => ?_)
    obtain ⟨hv7, hw7⟩ := hq7
    cases hv7
    subst hw7
    rw [hF9]
    refine kx_stk (st1 := [.int (nI k9)]) rfl ?_
    refine kx_iload d_W_1009 rfl ?_
    refine kx_icmp_eq 1016 d_W_1011 (by decide) (fun _ => ?_) (fun h => absurd rfl h)
    refine kx_iload d_W_1016 rfl ?_
    refine kx_if_ne_n 1033 d_W_1018 (by decide) (by omega) (fun _ => ?_) (fun hk0 => ?_)
    · refine kx_goto 1105 d_W_1033 (by decide) ?_
      refine kx_wide (kc1 := kc + 50) (ks1 := ks + 600) (by show _ + _ + _ + _ ≤ _; simp only [Nat.add_zero]; omega) (by show _ + _ + _ + _ ≤ _; simp only [Nat.add_zero]; omega) (kx_loc (L1 := [(0, .ref b), (1, .ref (ad 0)), (2, .ref (ma 0)), (3, .ref oa), (4, .int (nI (5 * k)))]) ⟨rfl, rfl, rfl, rfl, rfl, trivial⟩ ?_)
      exact kk w4 _ _ ⟨n9, ad9, X9, D9, F9, T9, pe9, bi9, ma9, A9, hS9, hF9⟩ (e4.trans g3)
    · have e2 := e2 hk0
      have g4 := g4 hk0
      subst e2
      have g5 := e4.trans g3
      refine kx_aload_n d_W_1021 rfl (by rfl) ?_
      refine kx_iconst (nI 0) d_W_1022 (by decide) ?_
      refine kx_lald (x := 33) d_W_1023 g5 (by decide) (by decide) ?_
      rw [g4]
      refine kx_iload d_W_1024 rfl ?_
      refine kx_i2l d_W_1026 ?_
      refine kx_lcmp d_W_1027 ?_
      rw [lg_self]
      refine kx_if_eq 1033 d_W_1028 (by decide) (fun _ => ?_) (fun h => absurd rfl h)
      refine kx_goto 1105 d_W_1033 (by decide) ?_
      refine kx_wide (kc1 := kc + 50) (ks1 := ks + 600) (by show _ + _ + _ + _ ≤ _; simp only [Nat.add_zero]; omega) (by show _ + _ + _ + _ ≤ _; simp only [Nat.add_zero]; omega) (kx_loc (L1 := [(0, .ref b), (1, .ref (ad 0)), (2, .ref (ma 0)), (3, .ref oa), (4, .int (nI (5 * k)))]) ⟨rfl, rfl, rfl, rfl, rfl, trivial⟩ ?_)
      exact kk w4 _ _ ⟨n9, ad9, X9, D9, F9, T9, pe9, bi9, ma9, A9, hS9, hF9⟩ (e4.trans g3)
set_option maxRecDepth 20000 in
set_option maxHeartbeats 4000000 in
theorem c_W_settled {E : kx_E} {z : kx_Z} {b N : Nat} {xs : Nat → Int32} {a0 m0 oa k : Nat} {w : va_W} {f : Nat → Int64} {t : Int32} {kc ks : Nat} {Q : kx_O → va_W → Prop} (hX : kx_Sc E z b N xs) (hN : N ≤ 2560) (hk : 5 * k + 4 < N) (hW : LW E a0 m0 t w) (ho : w[33]? = some (oa, kx_aj E 1 f)) (h1 : kc + 50 ≤ 601024) (h2 : ks + 600 ≤ 7293034) (kk : ∀ w1 t1 f1, LW E a0 m0 t1 w1 → w1[33]? = some (oa, kx_aj E 1 f1) → kx_R E Y_W z 1105 [(0, .ref b), (1, .ref a0), (2, .ref m0), (3, .ref oa), (4, .int (nI (5 * k)))] [] w1 (kc + 50) (ks + 600) Q) : kx_R E Y_W z 1036 [(0, .ref b), (1, .ref a0), (2, .ref m0), (3, .ref oa), (4, .int (nI (5 * k)))] [] w kc ks Q := by
  obtain ⟨n, ad, X, D, F, T, pe, bi, ma, A, hS, hF⟩ := hW
  have hS1 := hS
  obtain ⟨rfl, rfl, hC, hM, hI, hR, hZ⟩ := hS1
  obtain ⟨k9, b9, Qc, hc, hq⟩ := op_settled hS
  refine kx_aload_n d_W_1036 rfl (by rfl) ?_
  refine kx_callV (as := []) (rest := []) d_W_1037 v_W_115 rfl hC.bus rfl rfl (by decide) (by decide) (by decide) (by show _ + _ ≤ 601024; simp only [Nat.add_zero]; omega) (by show _ + _ ≤ 7293034; simp only [Nat.add_zero]; omega) rfl hc (fun X w1 h => ?_) (fun v w0 hq9 => ?_)
  · obtain ⟨r1, -, -⟩ := hq _ _ h
    rcases r1 with ⟨-, r1⟩ | ⟨-, x, r1, -⟩
    · cases r1
    · cases r1
  · obtain ⟨r1, r2, r3⟩ := hq _ _ hq9
    rcases r1 with ⟨r0, r1⟩ | ⟨-, x, r1, -⟩
    · cases r1
      subst r0
      obtain ⟨Qm, m1, m2⟩ := r3 w0 kx_off.rf
      have h6 := (r2 6 (by omega) (by omega)).trans hM.1
      refine kx_stk (st1 := [.int b9]) rfl ?_
      refine kx_aload_n d_W_1040 rfl (by rfl) ?_
      refine kx_callV (as := []) (rest := [.int b9]) d_W_1041 v_W_118 rfl h6 rfl rfl (by decide) (by decide) (Nat.le_of_ble_eq_true rfl) (by show _ + _ ≤ 601024; simp only [Nat.add_zero]; omega) (by show _ + _ ≤ 7293034; simp only [Nat.add_zero]; omega) rfl m1 (fun X w1 h => ?_) (fun v w3 hq8 => ?_)
      · obtain ⟨_, h, -⟩ := m2 _ _ h
        cases h
      · obtain ⟨b', e1, e2, e3, e4⟩ := m2 _ _ hq8
        cases e1
        have e2 := e2 rfl
        subst e2
        refine kx_stk (st1 := [.int b', .int b']) rfl ?_
        refine kx_icmp_eq 1105 d_W_1044 (by decide) (fun _ => ?_) (fun h => absurd rfl h)
        exact kx_wide (kc1 := kc + 50) (ks1 := ks + 600) (by show _ + _ + _ ≤ _; simp only [Nat.add_zero]; omega) (by show _ + _ + _ ≤ _; simp only [Nat.add_zero]; omega) (kk w3 _ f e3 (e4.trans ((r2 33 (by omega) (by omega)).trans ho)))
    · cases r1
set_option maxRecDepth 20000 in
set_option maxHeartbeats 4000000 in
theorem c_W_count {E : kx_E} {z : kx_Z} {b N : Nat} {xs : Nat → Int32} {a0 m0 oa k : Nat} {w : va_W} {f : Nat → Int64} {t : Int32} {kc ks : Nat} {Q : kx_O → va_W → Prop} (hX : kx_Sc E z b N xs) (hN : N ≤ 2560) (hk : 5 * k + 4 < N) (hW : LW E a0 m0 t w) (ho : w[33]? = some (oa, kx_aj E 1 f)) (h1 : kc + 50 ≤ 601024) (h2 : ks + 600 ≤ 7293034) (kk : ∀ w1 t1 f1, LW E a0 m0 t1 w1 → w1[33]? = some (oa, kx_aj E 1 f1) → kx_R E Y_W z 1105 [(0, .ref b), (1, .ref a0), (2, .ref m0), (3, .ref oa), (4, .int (nI (5 * k)))] [] w1 (kc + 50) (ks + 600) Q) : kx_R E Y_W z 1049 [(0, .ref b), (1, .ref a0), (2, .ref m0), (3, .ref oa), (4, .int (nI (5 * k)))] [] w kc ks Q := by
  obtain ⟨n, ad, X, D, F, T, pe, bi, ma, A, hS, hF⟩ := hW
  have hS1 := hS
  obtain ⟨rfl, rfl, hC, hM, hI, hR, hZ⟩ := hS1
  obtain ⟨k9, b9, Qc, hc, hq⟩ := op_count hS (xs (5 * k + 1))
  refine kx_aload_n d_W_1049 rfl (by rfl) ?_
  refine kx_aload_n d_W_1050 rfl (by rfl) ?_
  refine kx_iload d_W_1051 rfl ?_
  refine kx_iconst (nI 1) d_W_1053 (by decide) ?_
  refine kx_iadd _ d_W_1054 (nI_add _ _) ?_
  refine kx_sld d_W_1055 hX (by omega) (by omega) ?_
  refine kx_aload_n d_W_1056 rfl (by rfl) ?_
  refine kx_callSH (as := [.ref (ad 0), .int (xs (5 * k + 1)), .ref oa]) (rest := []) d_W_1057 s_W_119 rfl (by decide) (by decide) (by decide) (by show _ + _ ≤ 601024; simp only [Nat.add_zero]; omega) (by show _ + _ ≤ 7293034; simp only [Nat.add_zero]; omega) rfl (m_L_count hC.bus ho hc (fun o w1 h => ⟨(hq o w1 h).1, (hq o w1 h).2.1⟩)) (fun X w1 h => by cases h.1) (fun v w1 hq9 => ?_)
  obtain ⟨hv, o1, w0, g, g1, g2, g3, g4⟩ := hq9
  cases hv
  obtain ⟨r1, r2, r3⟩ := hq o1 w0 g1
  obtain ⟨Qm, m1, m2⟩ := r3 w1 g2
  have h6 := ((g2.2 6 (by omega)).trans (r2 6 (by omega) (by omega))).trans hM.1
  have k3 := R1_3 r1
  refine kx_stk (st1 := [.int (nI k9)]) rfl ?_
  refine kx_istore d_W_1060 (by decide) ?_
  refine kx_aload_n d_W_1062 rfl (by rfl) ?_
  refine kx_aload_n d_W_1063 rfl (by rfl) ?_
  refine kx_iload d_W_1064 rfl ?_
  refine kx_iconst (nI 1) d_W_1066 (by decide) ?_
  refine kx_iadd _ d_W_1067 (nI_add _ _) ?_
  refine kx_sld d_W_1068 hX (by omega) (by omega) ?_
  refine kx_callV (as := [.int (xs (5 * k + 1))]) (rest := []) d_W_1069 v_W_122 rfl h6 rfl rfl (by decide) (by decide) (by decide) (by show _ + _ ≤ 601024; simp only [Nat.add_zero]; omega) (by show _ + _ ≤ 7293034; simp only [Nat.add_zero]; omega) rfl m1 (fun X w1 h => ?_) (fun v w3 hq8 => ?_)
  · obtain ⟨_, h, -⟩ := m2 _ _ h
    cases h
  · obtain ⟨b8, e1, e2, e3, e4⟩ := m2 _ _ hq8
    cases e1
    obtain ⟨n9, ad9, X9, D9, F9, T9, pe9, bi9, ma9, A9, hS9, hF9⟩ := e3
    have hS8 := hS9
    obtain ⟨ea, em, hC9, hM9, -, -, -⟩ := hS8
    refine kx_stk (st1 := [.int b8]) rfl ?_
    refine kx_istore d_W_1072 (by decide) ?_
    refine kx_aload_n d_W_1074 rfl (by rfl) ?_
    have hth := m_M_thrown hM9
    have h69 := hM9.1
    rw [em] at hth h69
    refine kx_callV (as := []) (rest := []) d_W_1075 v_W_72 rfl h69 rfl rfl (by decide) (by decide) (by decide) (by show _ + _ ≤ 601024; simp only [Nat.add_zero]; omega) (by show _ + _ ≤ 7293034; simp only [Nat.add_zero]; omega) rfl hth (fun X w1 h => by cases h.1) (fun v w4 hq7 => ?_)
    obtain ⟨hv7, hw7⟩ := hq7
    cases hv7
    subst hw7
    rw [hF9]
    refine kx_stk (st1 := [.int (nI k9)]) rfl ?_
    refine kx_iload d_W_1078 rfl ?_
    refine kx_icmp_eq 1085 d_W_1080 (by decide) (fun _ => ?_) (fun h => absurd rfl h)
    refine kx_iload d_W_1085 rfl ?_
    refine kx_if_ne_n 1102 d_W_1087 (by decide) (by omega) (fun _ => ?_) (fun hk0 => ?_)
    · refine kx_goto 1105 d_W_1102 (by decide) ?_
      refine kx_wide (kc1 := kc + 50) (ks1 := ks + 600) (by show _ + _ + _ + _ ≤ _; simp only [Nat.add_zero]; omega) (by show _ + _ + _ + _ ≤ _; simp only [Nat.add_zero]; omega) (kx_loc (L1 := [(0, .ref b), (1, .ref (ad 0)), (2, .ref (ma 0)), (3, .ref oa), (4, .int (nI (5 * k)))]) ⟨rfl, rfl, rfl, rfl, rfl, trivial⟩ ?_)
      exact kk w4 _ _ ⟨n9, ad9, X9, D9, F9, T9, pe9, bi9, ma9, A9, hS9, hF9⟩ (e4.trans g3)
    · have e2 := e2 hk0
      have g4 := g4 hk0
      subst e2
      have g5 := e4.trans g3
      refine kx_aload_n d_W_1090 rfl (by rfl) ?_
      refine kx_iconst (nI 0) d_W_1091 (by decide) ?_
      refine kx_lald (x := 33) d_W_1092 g5 (by decide) (by decide) ?_
      rw [g4]
      refine kx_iload d_W_1093 rfl ?_
      refine kx_i2l d_W_1095 ?_
      refine kx_lcmp d_W_1096 ?_
      rw [lg_self]
      refine kx_if_eq 1102 d_W_1097 (by decide) (fun _ => ?_) (fun h => absurd rfl h)
      refine kx_goto 1105 d_W_1102 (by decide) ?_
      refine kx_wide (kc1 := kc + 50) (ks1 := ks + 600) (by show _ + _ + _ + _ ≤ _; simp only [Nat.add_zero]; omega) (by show _ + _ + _ + _ ≤ _; simp only [Nat.add_zero]; omega) (kx_loc (L1 := [(0, .ref b), (1, .ref (ad 0)), (2, .ref (ma 0)), (3, .ref oa), (4, .int (nI (5 * k)))]) ⟨rfl, rfl, rfl, rfl, rfl, trivial⟩ ?_)
      exact kk w4 _ _ ⟨n9, ad9, X9, D9, F9, T9, pe9, bi9, ma9, A9, hS9, hF9⟩ (e4.trans g3)
