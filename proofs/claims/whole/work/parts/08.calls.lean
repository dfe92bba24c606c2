section KXC
variable {E : kx_E} {Y : kx_Y} {z : kx_Z} {pc : Nat} {L : kx_L} {st : List Value} {w : va_W} {kc ks : Nat} {Q : kx_O → va_W → Prop}
theorem kx_blind {as : List Value} : FrameBlind (va_Pc as (kx_Wd E w)) := by
  intro a U g mk h
  obtain ⟨h0, h1, h2, h3, h4, h5, h6⟩ := h
  exact ⟨h0, h1, h2, va_K.moved (u := U) (U := U.calling g mk a) (Vm.Alike.refl U.vm) h3, h4, h5.calling g mk a, h6⟩
theorem kx_good {c : Cond} (h : c ∈ kx_WS) : c ∈ kx_WS ∧ ((c.onTables && c.keeps) = true ∨ ∃ ty, c = .arrayClass ty) := ⟨h, good_of_word (List.mem_filter.mp h).2⟩
theorem kx_argsIn : ∀ (as : List Value) (k i : Nat) (v : Value), kx_lk (lv_args k as) i = some v → (i, v) ∈ lv_args k as := by
  have key : ∀ (l : kx_L) (i : Nat) (v : Value), kx_lk l i = some v → (i, v) ∈ l := by
    intro l
    induction l with
    | nil => intro i v h; cases h
    | cons q t ih =>
      obtain ⟨j, u⟩ := q
      intro i v h
      by_cases e : j = i
      · subst e
        rw [kx_lk_self] at h
        cases h
        exact List.mem_cons_self
      · rw [kx_lk_ne e] at h
        exact List.mem_cons_of_mem _ (ih i v h)
  exact fun as k i v h => key _ i v h
theorem kx_of {as : List Value} (hy : plainName Y.2.2.2.2.1.cls = true) (hcls : Y.2.2.2.2.1.cls = Y.2.2.1) (hh : Y.2.2.2.2.2.2.2.2 = []) (hn : (lg_sl as).length ≤ Y.2.1) (hc : ∀ q ∈ lv_args 0 as, q.2.category = 1)
    (body : ∀ z : kx_Z, kx_R E Y z 0 (lv_args 0 as) [] w 0 0 Q) : kx_S E Y as w Q := by
  have hw : kx_ws Y = Cond.code Y.2.2.2.2.1 Y.1 Y.2.1 Y.2.2.2.1 :: kx_WS := by unfold kx_ws kx_hd; rw [hh]
  refine vx_ofW (cc := Y.1) (maxL := Y.2.1) (ret := Y.2.2.2.1) hy hw ?_
  intro p e s m args below meth c s₁ B hml ht hv
  obtain ⟨rfl, hP, hD, hK, hb, hEx, hty⟩ := hv
  have hts := atoms_spec (ws := kx_ws Y) B.pre
  have hl := lv_entry as (n := Y.2.1) hn
  rw [lg_entry_eq]
  generalize (lg_sl as ++ List.replicate (Y.2.1 - (lg_sl as).length) Slot.unset).toArray = ls at hl ⊢
  refine body (p, E.1, e, kx_rm Y, s, m, as.toArray, below, meth, c) ⟨B.exec, B.bytes, hml, ?_, fun c hc => hts c (List.mem_cons_of_mem _ hc), hK, hb, B.notSynchronized, B.returns, (name_of_methodNamed B.named B.method).1, ?_, rfl, rfl, hEx, hty⟩ s.heap ls [] ⟨hl.1, hl.2.1, fun i v h => ?_⟩ hP hD va_S.rf
  · show s.vm.findClass Y.2.2.1 = some m.cls
    rw [← hcls]
    exact findClass_of_methodNamed B.named
  · show c.exceptionTable.toList = tableOf Y.2.2.2.2.2.2.2.2
    rw [hh, List.eq_nil_iff_forall_not_mem.mpr (fun x hx => ht x hx)]
    rfl
  · have h1 := kx_argsIn as 0 i v h
    exact ⟨hc _ h1, hl.2.2 _ h1⟩
/-- on from a call -/
theorem kx_run {p : Program} {l : Launch} {e : Env} {R : Room} {s : State} {m : MethodId} {args a : Array Value} {below : List Frame} {meth : Method} {c : Code} {H : Heap} {locs : List Loc} {cells slots mc ms : Nat} {P : State → Prop} {ls : Array Slot} {st0 rest : List Value} {Q1 : kx_O → va_W → Prop}
    (hr : vx_Run p l e R s m args below meth c H locs cells slots mc ms (F0 m pc ls st0) rest (kx_Qs E Q1 a) (kx_Xs E Q1) (kx_A E.2.2.2)) (hS : va_S (kx_A E.2.2.2) s.heap H locs)
    (kk : ∀ (v : Option Value) (w1 : va_W) (H1 : Heap) (locs1 : List Loc), Q1 (.inl v) w1 → va_P E.2.1 vwCl w1 H1 → va_D (kx_A E.2.2.2) w1 → va_S (kx_A E.2.2.2) s.heap H1 locs1 → W p l e R s m args below meth c H1 locs1 (cells + mc) (slots + ms) P (F0 m (pc + 3) ls (v.toList ++ rest)))
    (kx : ∀ (X : String) (ce : Cell) (q : Addr) (w1 : va_W) (H1 : Heap) (locs1 : List Loc), Q1 (.inr X) w1 → va_P E.2.1 vwCl w1 H1 → va_D (kx_A E.2.2.2) w1 → va_S (kx_A E.2.2.2) s.heap H1 locs1 → H1[q]? = some ce → ce.vm = .none → s.vm.findClass X = some ce.cls → vx_W p l e R s m args below meth c H1 locs1 (cells + mc) (slots + ms) P (F0 m pc ls rest) q) :
    W p l e R s m args below meth c H locs cells slots P (F0 m pc ls st0) := by
  intro T hT X
  rcases hr T hT X with ⟨v, st₀, t, T', L, h0, X', hL, e1, e2, ⟨⟨v1, w1, hv, hq, hP1, hD1⟩, hF⟩, st⟩ | ⟨q, st₀, t, T', L, X1, ce, h0, X', hL, e1, e2, ⟨⟨w1, hq, hP1, hD1⟩, hF⟩, hce, hcv, hcl, st⟩
  · cases hv
    obtain ⟨k1, k2, k3⟩ := vx_keep h0 e1 hS (fun q _ h => h) (fun q h => h) hL hF
    obtain ⟨t2, a1, b1⟩ := kk v w1 T'.heap (locs ++ L) hq (by rw [e1]; exact hP1) hD1 k3 T' rfl X'
    exact ⟨t2, st t2 a1, b1⟩
  · obtain ⟨k1, k2, k3⟩ := vx_keep h0 e1 hS (fun q _ h => h) (fun q h => h) hL hF
    obtain ⟨t2, a1, b1⟩ := kx X1 ce q w1 T'.heap (locs ++ L) hq (by rw [e1]; exact hP1) hD1 k3 (by rw [e1]; exact hce) hcv hcl T' rfl X'
    exact ⟨t2, st.trans a1, b1⟩
/-- a call by a name, of a method without a table of its own: n arguments -/
def kx_LV (own : String) (idx n : Nat) (Y1 : kx_Y) : Prop := Y1.2.2.2.2.2.2.2.2 = [] ∧ kx_hd Y1 ∈ kx_WS ∧ Cond.methodLink own idx Y1.2.2.2.2.1 ∈ kx_WS ∧ Cond.instanceMethod Y1.2.2.2.2.1 ∈ kx_WS ∧ Cond.selects Y1.2.2.2.2.1.cls Y1.2.2.2.2.1 Y1.2.2.2.2.1 ∈ kx_WS ∧ Cond.initialized Y1.2.2.2.2.1.cls ∈ kx_WS ∧ Y1.2.2.2.2.1.cls = Y1.2.2.1 ∧
  Y1.2.2.2.2.1.cls ≠ "java/lang/invoke/MethodHandle" ∧ Y1.2.2.2.2.1.cls ≠ "java/lang/invoke/VarHandle" ∧ (parseMethodDescriptor Y1.2.2.2.2.1.desc).map (fun d => d.parameters.length) = some n
def kx_LS (own : String) (idx n : Nat) (Y1 : kx_Y) : Prop := Y1.2.2.2.2.2.2.2.2 = [] ∧ kx_hd Y1 ∈ kx_WS ∧ Cond.methodLink own idx Y1.2.2.2.2.1 ∈ kx_WS ∧ Cond.static Y1.2.2.2.2.1 ∈ kx_WS ∧ Cond.initialized Y1.2.2.2.2.1.cls ∈ kx_WS ∧
  Y1.2.2.2.2.1.cls ≠ "java/lang/invoke/MethodHandle" ∧ Y1.2.2.2.2.1.cls ≠ "java/lang/invoke/VarHandle" ∧ (parseMethodDescriptor Y1.2.2.2.2.1.desc).map (fun d => d.parameters.length) = some n
def kx_LI (own : String) (idx n : Nat) (Y1 : kx_Y) : Prop := Y1.2.2.2.2.2.2.2.2 = [] ∧ Y1.2.2.2.1 = none ∧ Y1.2.2.2.2.1.name = "<init>" ∧ kx_hd Y1 ∈ kx_WS ∧ Cond.methodLink own idx Y1.2.2.2.2.1 ∈ kx_WS ∧ Cond.instanceMethod Y1.2.2.2.2.1 ∈ kx_WS ∧ Cond.initialized Y1.2.2.2.2.1.cls ∈ kx_WS ∧
  Y1.2.2.2.2.1.cls ≠ "java/lang/invoke/MethodHandle" ∧ Y1.2.2.2.2.1.cls ≠ "java/lang/invoke/VarHandle" ∧ (parseMethodDescriptor Y1.2.2.2.2.1.desc).map (fun d => d.parameters.length) = some n
theorem kx_pre {as : List Value} {s U : State} {H : Heap} {locs : List Loc} (hU : U.heap = H) (hW : s.WarmedH U.vm) (hP : va_P E.2.1 vwCl w H) (hD : va_D (kx_A E.2.2.2) w) (hK : va_K E.2.1 vwCl E.2.2.1 s) (hb : E.2.2.2 ≤ s.heap.size) (hEx : kx_Ex E s) (hty : kx_ty E) (hS : va_S (kx_A E.2.2.2) s.heap H locs) : va_Pc as (kx_Wd E w) as.toArray U :=
  ⟨rfl, by rw [hU]; exact hP, hD, va_K.moved hW.alike hK, by rw [hU]; exact Nat.le_trans hb hS.1, kx_Ex.go hW (fun a h1 h2 => by rw [hU]; exact hS.2.1 a h1 h2) hEx, hty⟩
theorem kx_room {Y1 : kx_Y} (h1 : Y1.2.2.2.2.2.2.2.1 + 1 ≤ Y.2.2.2.2.2.2.2.1) (h2 : Y1.2.1 ≤ 11) : (kx_rm Y1).frames + 1 ≤ (kx_rm Y).frames ∧ 8 + (Y1.2.1 + 11) + (kx_rm Y1).locals ≤ (kx_rm Y).locals := by
  constructor
  · show 1 + _ + 1 ≤ 1 + _
    omega
  · show 8 + (_ + 11) + (100 + 30 * _) ≤ 100 + 30 * _
    omega
theorem kx_hdc {Y1 : kx_Y} (h : Y1.2.2.2.2.2.2.2.2 = []) : kx_hd Y1 = Cond.code Y1.2.2.2.2.1 Y1.1 Y1.2.1 Y1.2.2.2.1 := by unfold kx_hd; rw [h]
theorem kx_callV {Y1 : kx_Y} {as rest : List Value} {idx n ci x a : Nat} {fs : List Value} {Q1 : kx_O → va_W → Prop} {r : vw_C} (hd : decode Y.1 pc = .ok (.invokevirtual idx, 3)) (hl9 : kx_LV Y.2.2.1 idx n Y1) (hn : as.length = n) (hw : w[x]? = some (a, .inr (ci, fs))) (hci : vwCl[ci]? = some r) (hr9 : r.1 = Y1.2.2.1)
    (hlv : Y1.2.2.2.2.2.2.2.1 + 1 ≤ Y.2.2.2.2.2.2.2.1) (hnl : Y1.2.1 ≤ 11) (hr : (rest.map fun v => v.category).sum ≤ 8) (h1 : kc + Y1.2.2.2.2.2.1 ≤ Y.2.2.2.2.2.1) (h2 : ks + Y1.2.2.2.2.2.2.1 ≤ Y.2.2.2.2.2.2.1) (hst : st = as.reverse ++ .ref a :: rest)
    (hM : kx_S E Y1 (.ref a :: as) w Q1) (kx : ∀ X w1, Q1 (.inr X) w1 → Y.2.2.2.2.2.2.2.2 = [] ∧ Q (.inr X) w1)
    (kk : ∀ v w1, Q1 (.inl v) w1 → kx_R E Y z (pc + 3) L (v.toList ++ rest) w1 (kc + Y1.2.2.2.2.2.1) (ks + Y1.2.2.2.2.2.2.1) Q) : kx_R E Y z pc L st w kc ks Q := by
  subst hst
  obtain ⟨p, l, e, R, s, m, args, below, meth, c⟩ := z
  intro hC H ls locs hl hP hD hS
  have hCC := hC
  obtain ⟨hx, hb, hml, hown, hts, hK, hbs, hlk, hret, hnm, htab, hR, hl0, hEx, hty⟩ := hC
  obtain ⟨g1, g2, g3, g4, g5, g6, g7, g8, g9, g10⟩ := hl9
  dsimp only at hx hb hml hown hts hK hbs hlk hret hnm htab hR hl0 hEx hS ⊢
  subst hR; subst hl0
  have hG : GoodIn kx_WS (wsV Y.2.2.1 idx Y1.2.2.2.2.1.cls Y1.2.2.2.2.1 (kx_ws Y1)) := by
    intro c hc
    unfold wsV at hc
    rcases List.mem_append.mp hc with hc | hc
    · simp only [List.mem_cons, List.not_mem_nil, or_false] at hc
      rcases hc with rfl | rfl | rfl | rfl
      · exact kx_good g3
      · exact kx_good g4
      · exact kx_good g5
      · exact kx_good g6
    · rcases List.mem_cons.mp hc with rfl | hc
      · exact kx_good g2
      · exact kx_good hc
  have hwc : kx_ws Y1 = Cond.code Y1.2.2.2.2.1 Y1.1 Y1.2.1 Y1.2.2.2.1 :: kx_WS := by unfold kx_ws; rw [kx_hdc g1]
  refine kx_run (vx_runV (As := as) (rest := rest) (n := n) (C := Y1.2.2.2.2.1.cls) ⟨hx, hb, hml, hown, hts⟩ hM (cwV n hts hG hwc rfl rfl ⟨rfl, g8, g9, g10⟩ (kx_room hlv hnl)) ⟨kx_blind, ?_, fun U hU hW => kx_pre hU hW hP hD hK hbs hEx hty hS⟩ rfl hn hl.1 rfl (by show 2 * 0 + _ ≤ 8; omega) hd ⟨h1, h2⟩) hS ?_ ?_
  · obtain ⟨cell, q1, q2, q3⟩ := va_recv hK hP hci hw
    exact ⟨cell, q1, q2, by rw [g7, ← hr9]; exact q3⟩
  · intro v w1 H1 locs1 hq hP1 hD1 hS1
    exact kk v w1 hq hCC H1 ls locs1 hl hP1 hD1 hS1
  · intro X ce q w1 H1 locs1 hq hP1 hD1 hS1 hce hcv hcl
    obtain ⟨e1, e2⟩ := kx X w1 hq
    refine vx_out (fun x hx => ?_) hlk hce hcv hcl (fun t ht ha => ⟨⟨w1, e2, by rw [ht]; exact hP1, hD1⟩, hS1.F ht⟩) hS1.2.2 h1 h2
    rw [htab, e1] at hx
    cases hx
theorem kx_callS {Y1 : kx_Y} {as rest : List Value} {idx n : Nat} {Q1 : kx_O → va_W → Prop} (hd : decode Y.1 pc = .ok (.invokestatic idx, 3)) (hl9 : kx_LS Y.2.2.1 idx n Y1) (hn : as.length = n)
    (hlv : Y1.2.2.2.2.2.2.2.1 + 1 ≤ Y.2.2.2.2.2.2.2.1) (hnl : Y1.2.1 ≤ 11) (hr : (rest.map fun v => v.category).sum ≤ 8) (h1 : kc + Y1.2.2.2.2.2.1 ≤ Y.2.2.2.2.2.1) (h2 : ks + Y1.2.2.2.2.2.2.1 ≤ Y.2.2.2.2.2.2.1) (hst : st = as.reverse ++ rest)
    (hM : kx_S E Y1 as w Q1) (kx : ∀ X w1, Q1 (.inr X) w1 → Y.2.2.2.2.2.2.2.2 = [] ∧ Q (.inr X) w1)
    (kk : ∀ v w1, Q1 (.inl v) w1 → kx_R E Y z (pc + 3) L (v.toList ++ rest) w1 (kc + Y1.2.2.2.2.2.1) (ks + Y1.2.2.2.2.2.2.1) Q) : kx_R E Y z pc L st w kc ks Q := by
  subst hst
  obtain ⟨p, l, e, R, s, m, args, below, meth, c⟩ := z
  intro hC H ls locs hl hP hD hS
  have hCC := hC
  obtain ⟨hx, hb, hml, hown, hts, hK, hbs, hlk, hret, hnm, htab, hR, hl0, hEx, hty⟩ := hC
  obtain ⟨g1, g2, g3, g4, g6, g8, g9, g10⟩ := hl9
  dsimp only at hx hb hml hown hts hK hbs hlk hret hnm htab hR hl0 hEx hS ⊢
  subst hR; subst hl0
  have hG : GoodIn kx_WS (va_wsS Y.2.2.1 idx Y1.2.2.2.2.1 (kx_ws Y1)) := by
    intro c hc
    unfold va_wsS at hc
    rcases List.mem_append.mp hc with hc | hc
    · simp only [List.mem_cons, List.not_mem_nil, or_false] at hc
      rcases hc with rfl | rfl | rfl
      · exact kx_good g3
      · exact kx_good g4
      · exact kx_good g6
    · rcases List.mem_cons.mp hc with rfl | hc
      · exact kx_good g2
      · exact kx_good hc
  have hwc : kx_ws Y1 = Cond.code Y1.2.2.2.2.1 Y1.1 Y1.2.1 Y1.2.2.2.1 :: kx_WS := by unfold kx_ws; rw [kx_hdc g1]
  refine kx_run (vx_runS (As := as) (rest := rest) (n := n) ⟨hx, hb, hml, hown, hts⟩ hM (va_cwS n hts hG hwc rfl rfl ⟨g8, g9, g10⟩ (kx_room hlv hnl)) ⟨kx_blind, fun U hU hW => kx_pre hU hW hP hD hK hbs hEx hty hS⟩ rfl hn hl.1 rfl (by show 2 * 0 + _ ≤ 8; omega) hd ⟨h1, h2⟩) hS ?_ ?_
  · intro v w1 H1 locs1 hq hP1 hD1 hS1
    exact kk v w1 hq hCC H1 ls locs1 hl hP1 hD1 hS1
  · intro X ce q w1 H1 locs1 hq hP1 hD1 hS1 hce hcv hcl
    obtain ⟨e1, e2⟩ := kx X w1 hq
    refine vx_out (fun x hx => ?_) hlk hce hcv hcl (fun t ht ha => ⟨⟨w1, e2, by rw [ht]; exact hP1, hD1⟩, hS1.F ht⟩) hS1.2.2 h1 h2
    rw [htab, e1] at hx
    cases hx
theorem kx_met {as : List Value} (hM : kx_S E Y as w Q) (hno : ∀ X w1, ¬ Q (.inr X) w1) : Met E.1 Y.2.2.2.2.1 (kx_ws Y) (kx_rm Y) (va_Pc as (kx_Wd E w)) (kx_Qs E Q) Y.2.2.2.2.2.1 Y.2.2.2.2.2.2.1 (kx_A E.2.2.2) := by
  intro p e ha hc hk s m args below hf happ hP hK
  obtain ⟨n, o, h1, h2, h3, h4⟩ := hM p e ha hc hk s m args below hf happ hP hK
  refine ⟨n, o, h1, h2, h3, ?_⟩
  rcases h4 with h | ⟨q, -, X, ce, L, ⟨⟨w1, hq, -⟩, -⟩, -⟩
  · exact h
  · exact absurd hq (hno X w1)
theorem kx_vr {p : Program} {l : Launch} {e : Env} {R : Room} {s : State} {m : MethodId} {args : Array Value} {below : List Frame} {meth : Method} {c : Code} {H : Heap} {locs : List Loc} {cells slots mc ms : Nat} {g : JFrame} {rest : List Value} {Qa : State → Outcome → State → Prop} {XC : String → State → State → Prop} {free : Addr → Prop}
    (h : va_Run p l e R s m args below meth c H locs cells slots mc ms g rest Qa free) : vx_Run p l e R s m args below meth c H locs cells slots mc ms g rest Qa XC free := fun T hT X => Or.inl (h T hT X)
theorem kx_callI {Y1 : kx_Y} {as rest : List Value} {idx n a : Nat} {Q1 : kx_O → va_W → Prop} (hd : decode Y.1 pc = .ok (.invokespecial idx, 3)) (hl9 : kx_LI Y.2.2.1 idx n Y1) (hn : as.length = n)
    (hlv : Y1.2.2.2.2.2.2.2.1 + 1 ≤ Y.2.2.2.2.2.2.2.1) (hnl : Y1.2.1 ≤ 11) (hr : (rest.map fun v => v.category).sum ≤ 8) (h1 : kc + Y1.2.2.2.2.2.1 ≤ Y.2.2.2.2.2.1) (h2 : ks + Y1.2.2.2.2.2.2.1 ≤ Y.2.2.2.2.2.2.1) (hst : st = as.reverse ++ .ref a :: rest)
    (hM : kx_S E Y1 (.ref a :: as) w Q1) (hno : ∀ X w1, ¬ Q1 (.inr X) w1)
    (kk : ∀ v w1, Q1 (.inl v) w1 → kx_R E Y z (pc + 3) L (v.toList ++ rest) w1 (kc + Y1.2.2.2.2.2.1) (ks + Y1.2.2.2.2.2.2.1) Q) : kx_R E Y z pc L st w kc ks Q := by
  subst hst
  obtain ⟨p, l, e, R, s, m, args, below, meth, c⟩ := z
  intro hC H ls locs hl hP hD hS
  have hCC := hC
  obtain ⟨hx, hb, hml, hown, hts, hK, hbs, hlk, hret, hnm, htab, hR, hl0, hEx, hty⟩ := hC
  obtain ⟨g1, gr, gn, g2, g3, g4, g6, g8, g9, g10⟩ := hl9
  dsimp only at hx hb hml hown hts hK hbs hlk hret hnm htab hR hl0 hEx hS ⊢
  subst hR; subst hl0
  have hG : GoodIn kx_WS (kx_ws Y1) := by
    intro c hc
    rcases List.mem_cons.mp hc with rfl | hc
    · exact kx_good g2
    · exact kx_good hc
  have hwc : kx_ws Y1 = Cond.code Y1.2.2.2.2.1 Y1.1 Y1.2.1 none :: kx_WS := by unfold kx_ws; rw [kx_hdc g1, gr]
  refine kx_run (kx_vr (va_runI (As := as) (rest := rest) (n := n) ⟨hx, hb, hml, hown, hts⟩ (kx_met hM hno) (cwI n hts hG hwc rfl rfl (hts _ g6) (hts _ g3) (hts _ g4) gn ⟨g8, g9, g10⟩ (kx_room hlv hnl)) ⟨kx_blind, fun U hU hW => kx_pre hU hW hP hD hK hbs hEx hty hS⟩ rfl hn hl.1 rfl (by show 2 * 0 + _ ≤ 8; omega) hd ⟨h1, h2⟩)) hS ?_ ?_
  · intro v w1 H1 locs1 hq hP1 hD1 hS1
    exact kk v w1 hq hCC H1 ls locs1 hl hP1 hD1 hS1
  · intro X ce q w1 H1 locs1 hq
    exact absurd hq (hno X w1)
end KXC
