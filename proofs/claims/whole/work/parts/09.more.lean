section KXT
variable {E : kx_E} {Y : kx_Y} {z : kx_Z} {pc : Nat} {L : kx_L} {st : List Value} {w : va_W} {kc ks : Nat} {Q : kx_O → va_W → Prop}
abbrev kx_up : List String := ["java/lang/RuntimeException", "java/lang/Exception"]
def kx_bad : List Cond := kx_dcs.map Cond.declares ++ kx_cas.map (fun x => Cond.castable x x)
theorem kx_badOk {args : Array Value} {s : State} (h4 : ∀ x ∈ kx_dcs, va_Nw (.declares x) s) (h9 : ∀ x ∈ kx_cas, va_Nw (.castable x x) s) : ∀ c ∈ kx_bad, c.before args s = true := by
  intro c hc
  rcases List.mem_append.mp hc with hc | hc
  · obtain ⟨x, hx9, rfl⟩ := List.mem_map.mp hc
    exact va_Nw.use rfl (h4 x hx9)
  · obtain ⟨x, hx9, rfl⟩ := List.mem_map.mp hc
    exact va_Nw.use rfl (h9 x hx9)
/-- 'throw new cls(text)' by the pool of own -/
def kx_TH (own : String) (ik is ic : Nat) (cls text : String) : Prop := Bundle.fit cls = true ∧ Cond.classLink own ik cls ∈ kx_WS ∧ Cond.initialized cls ∈ kx_WS ∧ (own, is, text) ∈ kx_strs ∧
  (∀ c ∈ (vx_atS own ic cls kx_up).filter goodWord, c ∈ lw_tbl) ∧ (∀ c ∈ (vx_atS own ic cls kx_up).filter (fun c => !goodWord c), c ∈ kx_bad) ∧ (∀ c ∈ vx_atS own ic cls kx_up, vx_ot c = true)
theorem kx_upfit : ∀ n ∈ kx_up, Bundle.fit n = true := by decide +kernel
theorem kx_throw {cls text : String} {ik is ic : Nat} (d0 : decode Y.1 pc = .ok (.new ik, 3)) (d3 : decode Y.1 (pc + 3) = .ok (.dup, 1)) (d4 : decode Y.1 (pc + 4) = .ok (.ldc is, 2)) (d6 : decode Y.1 (pc + 6) = .ok (.invokespecial ic, 3)) (d9 : decode Y.1 (pc + 9) = .ok (.athrow, 1))
    (ht : kx_TH Y.2.2.1 ik is ic cls text) (hh : Y.2.2.2.2.2.2.2.2 = []) (hdl : 5 ≤ Y.2.2.2.2.2.2.2.1) (hst : (st.map fun v => v.category).sum ≤ 60) (h1 : kc + 1 ≤ Y.2.2.2.2.2.1) (h2 : ks + 6 ≤ Y.2.2.2.2.2.2.1) (hQ : Q (.inr cls) w) : kx_R E Y z pc L st w kc ks Q := by
  obtain ⟨p, l, e, R, s, m, args, below, meth, c⟩ := z
  intro hC H ls locs hl hP hD hS
  obtain ⟨hx, hb, hml, hown, hts, hK, hbs, hlk, hret, hnm, htab, hR, hl0, hEx, hty⟩ := hC
  dsimp only at hx hb hml hown hts hK hbs hlk hret hnm htab hR hl0 hEx hS ⊢
  subst hR; subst hl0
  obtain ⟨g1, g2, g3, g4, g5, g6, g7⟩ := ht
  obtain ⟨e1, e2, e3, e4, -, -, -, e8, e9⟩ := hEx
  obtain ⟨sa, hsa⟩ := e3 _ g4
  have hat : ∀ c ∈ vx_atS Y.2.2.1 ic cls kx_up, c.before args s = true := vx_hat (B := kx_bad) (fun c hc => hts c (List.mem_filter.mpr ⟨g5 c hc, (List.mem_filter.mp hc).2⟩)) g6 (kx_badOk e4 e9)
  refine vx_throwS (A := kx_A E.2.2.2) hx hb e8 hown g1 kx_upfit (hts _ g2) (hts _ g3) hsa hat (fun c hc => ?_) e1 e2 hS (hl.1.trans hml.symm) d0 d3 d4 d6 d9 (fun x hx9 => ?_) ?_ ?_ h1 h2 hlk (fun t ha hz hk => ?_) hS.2.2 h1 h2
  · rcases List.mem_cons.mp hc with rfl | hc
    · unfold vx_ot; rw [(List.mem_filter.mp g2).2]; simp
    · rcases List.mem_cons.mp hc with rfl | hc
      · unfold vx_ot; rw [(List.mem_filter.mp g3).2]; simp
      · exact g7 c hc
  · rw [htab, hh] at hx9
    cases hx9
  · show 2 + 3 < 1 + _
    omega
  · show _ + (13 * (2 + 1) + 43) ≤ 100 + 30 * _
    omega
  · refine ⟨⟨w, hQ, hP.kept (fun k q hq => hk q.1 (hP k q hq).lt), hD⟩, Nat.le_trans hS.1 hz, fun q h3 h4 => ?_⟩
    rw [hk q (Nat.lt_of_lt_of_le h3 hS.1)]
    exact hS.2.1 q h3 h4
/-- System.arraycopy of ints, between two arrays of the world -/
def kx_CP (own : String) (idx : Nat) : Prop := Cond.methodLink own idx arraycopyName ∈ kx_WS ∧ Cond.native arraycopyName ∈ kx_WS ∧ Cond.static arraycopyName ∈ kx_WS ∧ Cond.initialized "java/lang/System" ∈ kx_WS
theorem kx_copy {idx x y a b n0 n1 sp dp n : Nat} {f g : Nat → Int32} (hd : decode Y.1 pc = .ok (.invokestatic idx, 3)) (hc : kx_CP Y.2.2.1 idx) (ha : w[x]? = some (a, kx_ai E n0 f)) (hb9 : w[y]? = some (b, kx_ai E n1 g)) (h0 : n0 < 2 ^ 31) (h1 : n1 < 2 ^ 31) (hs : sp + n ≤ n0) (ht : dp + n ≤ n1) (hst : (st.map fun v => v.category).sum ≤ 8) (hdl : 1 ≤ Y.2.2.2.2.2.2.2.1)
    (kk : kx_R E Y z (pc + 3) L st (w.set y (b, kx_ai E n1 (va_cpy f g sp dp n))) kc ks Q) : kx_R E Y z pc L (.int (nI n) :: .int (nI dp) :: .ref b :: .int (nI sp) :: .ref a :: st) w kc ks Q := by
  intro hC H ls locs hl hP hD hS
  obtain ⟨c1, c2, c3, c4⟩ := hc
  have hty := kx_tyAt (t := 0) (ty := .int) hC.2.2.2.2.2.2.2.2.2.2.2.2.2.2 rfl
  have hR := hC.2.2.2.2.2.2.2.2.2.2.2.1
  have en : (nI n).toNatClampNeg = n := nI_clamp (by omega)
  have es : (nI sp).toNatClampNeg = sp := nI_clamp (by omega)
  have ed : (nI dp).toNatClampNeg = dp := nI_clamp (by omega)
  refine va_copyi hC.1 hC.2.1 (hC.2.2.1.trans hl.1.symm) hC.2.2.2.1 (hC.2.2.2.2.1 _ c1) (hC.2.2.2.2.1 _ c2) (hC.2.2.2.2.1 _ c3) (hC.2.2.2.2.1 _ c4) hC.2.2.2.2.2.1 hP hD hS x y 0 0 ha hb9 hty hty rfl (nI_pos (by omega)) (nI_pos (by omega)) (nI_pos (by omega)) (by rw [es, en]; exact hs) (by rw [ed, en]; exact ht) (fun i _ => rfl) ?_ ?_ hd (fun H1 locs1 hP1 hD1 hS1 => ?_)
  · rw [hR]; show 1 ≤ 1 + _; omega
  · rw [hR]
    have hz : nativeFrameWords "java/lang/System" "arraycopy" 5 ≤ 100 := by decide +kernel
    show _ + (_ + 11) ≤ 100 + 30 * _
    omega
  · rw [es, ed, en] at hP1 hD1
    exact kk hC H1 ls locs1 hl hP1 hD1 hS1
def kx_MN (own : String) (idx : Nat) : Prop := Cond.methodLink own idx Lib.Math.min.name ∈ kx_WS ∧ Cond.static Lib.Math.min.name ∈ kx_WS ∧ Cond.initialized "java/lang/Math" ∈ kx_WS ∧ Cond.code Lib.Math.min.name Lib.Math.min.code 2 (some .int) ∈ kx_WS
theorem kx_min {idx a b : Nat} (hd : decode Y.1 pc = .ok (.invokestatic idx, 3)) (hc : kx_MN Y.2.2.1 idx) (ha : a < 2 ^ 31) (hb9 : b < 2 ^ 31) (hst : (st.map fun v => v.category).sum ≤ 8) (hdl : 1 ≤ Y.2.2.2.2.2.2.2.1) (h1 : kc ≤ Y.2.2.2.2.2.1) (h2 : ks ≤ Y.2.2.2.2.2.2.1)
    (kk : kx_R E Y z (pc + 3) L (.int (nI (min a b)) :: st) w kc ks Q) : kx_R E Y z pc L (.int (nI b) :: .int (nI a) :: st) w kc ks Q := by
  intro hC H ls locs hl hP hD hS
  obtain ⟨c1, c2, c3, c4⟩ := hc
  have hR := hC.2.2.2.2.2.2.2.2.2.2.2.1
  refine va_mmin hC.1 hC.2.1 (hC.2.2.1.trans hl.1.symm) hC.2.2.2.1 (hC.2.2.2.2.1 _ c1) (hC.2.2.2.2.1 _ c2) (hC.2.2.2.2.1 _ c3) (hC.2.2.2.2.1 _ c4) ?_ ?_ (by rw [hR]; exact h1) (by rw [hR]; exact h2) hd ?_
  · rw [hR]; show 1 ≤ 1 + _; omega
  · rw [hR]; show _ + 13 ≤ 100 + 30 * _; omega
  · have e : (if nI b < nI a then nI b else nI a) = nI (min a b) := by
      by_cases h : b < a
      · rw [if_pos ((nI_ltI hb9 ha).mpr h), Nat.min_eq_right (by omega)]
      · rw [if_neg (fun h9 => h ((nI_ltI hb9 ha).mp h9)), Nat.min_eq_left (by omega)]
    rw [e]
    exact kk hC H ls locs hl hP hD hS
end KXT
