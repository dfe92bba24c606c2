/-! Methods with handlers: their bodies, calls of them, calls that they catch -/
section KXH
variable {E : kx_E} {Y : kx_Y} {z : kx_Z} {pc : Nat} {L : kx_L} {st : List Value} {w : va_W} {kc ks : Nat} {Q : kx_O → va_W → Prop}
theorem kx_hdw {Y1 : kx_Y} (h : Y1.2.2.2.2.2.2.2.2 ≠ []) : kx_hd Y1 = Cond.codeWith Y1.2.2.2.2.1 Y1.1 Y1.2.1 Y1.2.2.2.1 Y1.2.2.2.2.2.2.2.2 := by
  obtain ⟨y1, y2, y3, y4, y5, y6, y7, y8, y9⟩ := Y1
  cases y9 with
  | nil => exact absurd rfl h
  | cons a t => rfl
theorem kx_ofH {as : List Value} (hy : plainName Y.2.2.2.2.1.cls = true) (hcls : Y.2.2.2.2.1.cls = Y.2.2.1) (hh : Y.2.2.2.2.2.2.2.2 ≠ []) (hn : (lg_sl as).length ≤ Y.2.1) (hc : ∀ q ∈ lv_args 0 as, q.2.category = 1)
    (body : ∀ z : kx_Z, kx_R E Y z 0 (lv_args 0 as) [] w 0 0 Q) : kx_S E Y as w Q := by
  have hw : kx_ws Y = Cond.codeWith Y.2.2.2.2.1 Y.1 Y.2.1 Y.2.2.2.1 Y.2.2.2.2.2.2.2.2 :: kx_WS := by unfold kx_ws; rw [kx_hdw hh]
  refine vx_ofWH (cc := Y.1) (maxL := Y.2.1) (ret := Y.2.2.2.1) (hh := Y.2.2.2.2.2.2.2.2) hy hw ?_
  intro p e s m args below meth c s₁ B hml hv
  obtain ⟨rfl, hP, hD, hK, hb, hEx, hty⟩ := hv
  have hts := atoms_spec (ws := kx_ws Y) B.pre
  have hl := lv_entry as (n := Y.2.1) hn
  have hcw : (Cond.codeWith Y.2.2.2.2.1 Y.1 Y.2.1 Y.2.2.2.1 Y.2.2.2.2.2.2.2.2).before as.toArray s = true := hts _ (by rw [hw]; exact List.mem_cons_self)
  rw [lg_entry_eq]
  generalize (lg_sl as ++ List.replicate (Y.2.1 - (lg_sl as).length) Slot.unset).toArray = ls at hl ⊢
  refine body (p, E.1, e, kx_rm Y, s, m, as.toArray, below, meth, c) ⟨B.exec, B.bytes, hml, ?_, fun c hc => hts c (by rw [hw]; exact List.mem_cons_of_mem _ hc), hK, hb, B.notSynchronized, B.returns, (name_of_methodNamed B.named B.method).1, vx_table (x := Y.2.2.2.2.1) B hcw, rfl, rfl, hEx, hty⟩ s.heap ls [] ⟨hl.1, hl.2.1, fun i v h => ?_⟩ hP hD va_S.rf
  · show s.vm.findClass Y.2.2.1 = some m.cls
    rw [← hcls]
    exact findClass_of_methodNamed B.named
  · have h1 := kx_argsIn as 0 i v h
    exact ⟨hc _ h1, hl.2.2 _ h1⟩
theorem kx_goH {as : List Value} (hy : plainName Y.2.2.2.2.1.cls = true) (hcls : Y.2.2.2.2.1.cls = Y.2.2.1) (hh : Y.2.2.2.2.2.2.2.2 ≠ []) (hn : as.length ≤ Y.2.1) (hc : kx_c1 as)
    (body : ∀ z : kx_Z, kx_R E Y z 0 (kx_ag 0 as) [] w 0 0 Q) : kx_S E Y as w Q :=
  kx_ofH hy hcls hh (by rw [kx_sl_len as hc]; exact hn) (by rw [kx_ag_eq as 0 hc]; exact kx_ag_in as 0 hc) (by rw [kx_ag_eq as 0 hc]; exact body)
/-- a call by a name, of a method with a table of its own: n arguments -/
def kx_LH (own : String) (idx n : Nat) (Y1 : kx_Y) : Prop := Y1.2.2.2.2.2.2.2.2 ≠ [] ∧ kx_hd Y1 ∈ kx_WS ∧ Cond.methodLink own idx Y1.2.2.2.2.1 ∈ kx_WS ∧ Cond.static Y1.2.2.2.2.1 ∈ kx_WS ∧ Cond.initialized Y1.2.2.2.2.1.cls ∈ kx_WS ∧
  Y1.2.2.2.2.1.cls ≠ "java/lang/invoke/MethodHandle" ∧ Y1.2.2.2.2.1.cls ≠ "java/lang/invoke/VarHandle" ∧ (parseMethodDescriptor Y1.2.2.2.2.1.desc).map (fun d => d.parameters.length) = some n
theorem kx_callSH {Y1 : kx_Y} {as rest : List Value} {idx n : Nat} {Q1 : kx_O → va_W → Prop} (hd : decode Y.1 pc = .ok (.invokestatic idx, 3)) (hl9 : kx_LH Y.2.2.1 idx n Y1) (hn : as.length = n)
    (hlv : Y1.2.2.2.2.2.2.2.1 + 1 ≤ Y.2.2.2.2.2.2.2.1) (hnl : Y1.2.1 ≤ 11) (hr : (rest.map fun v => v.category).sum ≤ 8) (h1 : kc + Y1.2.2.2.2.2.1 ≤ Y.2.2.2.2.2.1) (h2 : ks + Y1.2.2.2.2.2.2.1 ≤ Y.2.2.2.2.2.2.1) (hst : st = as.reverse ++ rest)
    (hM : kx_S E Y1 as w Q1) (kx : ∀ X w1, ¬ Q1 (.inr X) w1)
    (kk : ∀ v w1, Q1 (.inl v) w1 → kx_R E Y z (pc + 3) L (v.toList ++ rest) w1 (kc + Y1.2.2.2.2.2.1) (ks + Y1.2.2.2.2.2.2.1) Q) : kx_R E Y z pc L st w kc ks Q := by
  subst hst
  obtain ⟨p, l, e, R, s, m, args, below, meth, c⟩ := z
  intro hC H ls locs hl hP hD hS
  have hCC := hC
  obtain ⟨hx, hb, hml, hown, hts, hK, hbs, hlk, hret, hnm, htab, hR, hl0, hEx, hty⟩ := hC
  obtain ⟨g1, g2, g3, g4, g6, g8, g9, g10⟩ := hl9
  dsimp only at hx hb hml hown hts hK hbs hlk hret hnm htab hR hl0 hEx hS ⊢
  subst hR; subst hl0
  have hG : GoodIn kx_WS (va_wsS Y.2.2.1 idx Y1.2.2.2.2.1 (kx_ws Y1)) := by
    intro c hc
    unfold va_wsS at hc
    rcases List.mem_append.mp hc with hc | hc
    · simp only [List.mem_cons, List.not_mem_nil, or_false] at hc
      rcases hc with rfl | rfl | rfl
      · exact kx_good g3
      · exact kx_good g4
      · exact kx_good g6
    · rcases List.mem_cons.mp hc with rfl | hc
      · exact kx_good g2
      · exact kx_good hc
  have hwc : kx_ws Y1 = Cond.codeWith Y1.2.2.2.2.1 Y1.1 Y1.2.1 Y1.2.2.2.1 Y1.2.2.2.2.2.2.2.2 :: kx_WS := by unfold kx_ws; rw [kx_hdw g1]
  refine kx_run (vx_runSX (As := as) (rest := rest) (n := n) ⟨hx, hb, hml, hown, hts⟩ hM (vx_cwSW n hts hG hwc rfl rfl ⟨g8, g9, g10⟩ (kx_room hlv hnl)) ⟨kx_blind, fun U hU hW => kx_pre hU hW hP hD hK hbs hEx hty hS⟩ rfl hn hl.1 rfl (by show 2 * 0 + _ ≤ 8; omega) hd ⟨h1, h2⟩) hS ?_ ?_
  · intro v w1 H1 locs1 hq hP1 hD1 hS1
    exact kk v w1 hq hCC H1 ls locs1 hl hP1 hD1 hS1
  · intro X ce q w1 H1 locs1 hq hP1 hD1 hS1 hce hcv hcl
    exact absurd hq (kx X w1)
/-- a call of a method that may throw, with a handler for each name that it throws -/
def kx_HD (Y : kx_Y) (pc : Nat) (X : String) (tgt : Nat) : Prop := ∃ (pre suf : List (Nat × Nat × Nat × Nat)) (h : Nat × Nat × Nat × Nat), Y.2.2.2.2.2.2.2.2 = pre ++ h :: suf ∧ h.1 ≤ pc ∧ pc < h.2.1 ∧ h.2.2.1 = tgt ∧ h.2.2.2 ≠ 0 ∧ Cond.classLink Y.2.2.1 h.2.2.2 X ∈ kx_WS ∧ X ∈ kx_cas ∧
  ∀ g ∈ pre, g.2.2.2 ≠ 0 ∧ ∃ nm, Cond.classLink Y.2.2.1 g.2.2.2 nm ∈ kx_WS ∧ (X, nm) ∈ kx_ncs
theorem kx_callVH {Y1 : kx_Y} {as rest : List Value} {idx n ci x a : Nat} {fs : List Value} {Q1 : kx_O → va_W → Prop} {r : vw_C} (hd : decode Y.1 pc = .ok (.invokevirtual idx, 3)) (hl9 : kx_LV Y.2.2.1 idx n Y1) (hn : as.length = n) (hw : w[x]? = some (a, .inr (ci, fs))) (hci : vwCl[ci]? = some r) (hr9 : r.1 = Y1.2.2.1)
    (hlv : Y1.2.2.2.2.2.2.2.1 + 1 ≤ Y.2.2.2.2.2.2.2.1) (hnl : Y1.2.1 ≤ 11) (hr : (rest.map fun v => v.category).sum ≤ 8) (h1 : kc + Y1.2.2.2.2.2.1 ≤ Y.2.2.2.2.2.1) (h2 : ks + Y1.2.2.2.2.2.2.1 ≤ Y.2.2.2.2.2.2.1) (hst : st = as.reverse ++ .ref a :: rest)
    (hM : kx_S E Y1 (.ref a :: as) w Q1) (kx : ∀ X w1, Q1 (.inr X) w1 → ∃ tgt, kx_HD Y pc X tgt ∧ ∀ q, kx_R E Y z tgt L [.ref q] w1 (kc + Y1.2.2.2.2.2.1) (ks + Y1.2.2.2.2.2.2.1) Q)
    (kk : ∀ v w1, Q1 (.inl v) w1 → kx_R E Y z (pc + 3) L (v.toList ++ rest) w1 (kc + Y1.2.2.2.2.2.1) (ks + Y1.2.2.2.2.2.2.1) Q) : kx_R E Y z pc L st w kc ks Q := by
  subst hst
  obtain ⟨p, l, e, R, s, m, args, below, meth, c⟩ := z
  intro hC H ls locs hl hP hD hS
  have hCC := hC
  obtain ⟨hx, hb, hml, hown, hts, hK, hbs, hlk, hret, hnm, htab, hR, hl0, hEx, hty⟩ := hC
  obtain ⟨g1, g2, g3, g4, g5, g6, g7, g8, g9, g10⟩ := hl9
  dsimp only at hx hb hml hown hts hK hbs hlk hret hnm htab hR hl0 hEx hS ⊢
  subst hR; subst hl0
  have hG : GoodIn kx_WS (wsV Y.2.2.1 idx Y1.2.2.2.2.1.cls Y1.2.2.2.2.1 (kx_ws Y1)) := by
    intro c hc
    unfold wsV at hc
    rcases List.mem_append.mp hc with hc | hc
    · simp only [List.mem_cons, List.not_mem_nil, or_false] at hc
      rcases hc with rfl | rfl | rfl | rfl
      · exact kx_good g3
      · exact kx_good g4
      · exact kx_good g5
      · exact kx_good g6
    · rcases List.mem_cons.mp hc with rfl | hc
      · exact kx_good g2
      · exact kx_good hc
  have hwc : kx_ws Y1 = Cond.code Y1.2.2.2.2.1 Y1.1 Y1.2.1 Y1.2.2.2.1 :: kx_WS := by unfold kx_ws; rw [kx_hdc g1]
  refine kx_run (vx_runV (As := as) (rest := rest) (n := n) (C := Y1.2.2.2.2.1.cls) ⟨hx, hb, hml, hown, hts⟩ hM (cwV n hts hG hwc rfl rfl ⟨rfl, g8, g9, g10⟩ (kx_room hlv hnl)) ⟨kx_blind, ?_, fun U hU hW => kx_pre hU hW hP hD hK hbs hEx hty hS⟩ rfl hn hl.1 rfl (by show 2 * 0 + _ ≤ 8; omega) hd ⟨h1, h2⟩) hS ?_ ?_
  · obtain ⟨cell, q1, q2, q3⟩ := va_recv hK hP hci hw
    exact ⟨cell, q1, q2, by rw [g7, ← hr9]; exact q3⟩
  · intro v w1 H1 locs1 hq hP1 hD1 hS1
    exact kk v w1 hq hCC H1 ls locs1 hl hP1 hD1 hS1
  · intro X ce q w1 H1 locs1 hq hP1 hD1 hS1 hce hcv hcl
    obtain ⟨tgt, ⟨pre, suf, h, e1, e2, e3, rfl, e4, e5, e6, e7⟩, e8⟩ := kx X w1 hq
    refine vx_catch (own := Y.2.2.1) (name := X) hown (tableOf pre) ⟨h.1, h.2.1, h.2.2.1, h.2.2.2⟩ (tableOf suf) ?_ (fun y hy => ?_) ?_ e4 (hts _ e5) (va_Nw.use rfl (hEx.2.2.2.2.2.2.2.2 X e6)) hce hcv hcl (e8 q hCC H1 ls locs1 hl hP1 hD1 hS1)
    · rw [htab, e1]
      unfold tableOf
      rw [List.map_append, List.map_cons]
    · unfold tableOf at hy
      obtain ⟨g, hg, rfl⟩ := List.mem_map.mp hy
      obtain ⟨n0, nm, l1, l2⟩ := e7 g hg
      exact Or.inr ⟨n0, nm, hts _ l1, hEx.2.2.2.2.1 (X, nm) l2⟩
    · show (decide (h.1 ≤ pc) && decide (pc < h.2.1)) = true
      rw [decide_eq_true e2, decide_eq_true e3]; rfl
theorem kx_wide {kc1 ks1 : Nat} (h1 : kc ≤ kc1) (h2 : ks ≤ ks1) (kk : kx_R E Y z pc L st w kc1 ks1 Q) : kx_R E Y z pc L st w kc ks Q := fun hC H ls locs hl hP hD hS => W.widen h1 h2 (kk hC H ls locs hl hP hD hS)
end KXH
