section KXV
abbrev kx_nse : String := "java/util/NoSuchElementException"
abbrev kx_rte : String := "java/lang/RuntimeException"
abbrev kx_bN : ByteArray := prog_17_method_4_code
def kx_atN (own : String) (ic : Nat) : List Cond := (kx_ownN own ic kx_nse kx_rte 13 kx_bN ["java/lang/Exception"]).filter vx_no
def kx_TN (own : String) (ik is ic : Nat) (text : String) : Prop := Cond.classLink own ik kx_nse ∈ kx_WS ∧ Cond.initialized kx_nse ∈ kx_WS ∧ (own, is, text) ∈ kx_strs ∧
  (∀ c ∈ (kx_atN own ic).filter goodWord, c ∈ lw_tbl) ∧ (∀ c ∈ (kx_atN own ic).filter (fun c => !goodWord c), c ∈ kx_bad) ∧ (∀ c ∈ kx_atN own ic, vx_ot c = true)
variable {E : kx_E} {Y : kx_Y} {z : kx_Z} {pc : Nat} {L : kx_L} {st : List Value} {w : va_W} {kc ks : Nat} {Q : kx_O → va_W → Prop}
theorem kx_throwN {text : String} {ik is ic : Nat} (d0 : decode Y.1 pc = .ok (.new ik, 3)) (d3 : decode Y.1 (pc + 3) = .ok (.dup, 1)) (d4 : decode Y.1 (pc + 4) = .ok (.ldc is, 2)) (d6 : decode Y.1 (pc + 6) = .ok (.invokespecial ic, 3)) (d9 : decode Y.1 (pc + 9) = .ok (.athrow, 1))
    (ht : kx_TN Y.2.2.1 ik is ic text) (hh : Y.2.2.2.2.2.2.2.2 = []) (hdl : 5 ≤ Y.2.2.2.2.2.2.2.1) (hst : (st.map fun v => v.category).sum ≤ 60) (h1 : kc + 1 ≤ Y.2.2.2.2.2.1) (h2 : ks + 6 ≤ Y.2.2.2.2.2.2.1) (hQ : Q (.inr kx_nse) w) : kx_R E Y z pc L st w kc ks Q := by
  obtain ⟨p, l, e, R, s, m, args, below, meth, c⟩ := z
  intro hC H ls locs hl hP hD hS
  obtain ⟨hexec, hb, hml, hown, hts, hK, hbs, hlk, hret, hnm, htab, hR, hl0, hEx, hty⟩ := hC
  dsimp only at hexec hb hml hown hts hK hbs hlk hret hnm htab hR hl0 hEx hS ⊢
  subst hR; subst hl0
  obtain ⟨g2, g3, g4, g5, g6, g7⟩ := ht
  obtain ⟨e1, e2, e3, e4, -, -, -, e8, e9⟩ := hEx
  obtain ⟨sa, hsa⟩ := e3 _ g4
  have hat : ∀ c ∈ kx_atN Y.2.2.1 ic, c.before args s = true := vx_hat (B := kx_bad) (fun c hc => hts c (List.mem_filter.mpr ⟨g5 c hc, (List.mem_filter.mp hc).2⟩)) g6 (kx_badOk e4 e9)
  have hsize : ls.size = c.maxLocals := hl.1.trans hml.symm
  have hout : ∀ x ∈ c.exceptionTable.toList, covers x (pc + 9) = false := fun x hx9 => by
    rw [htab, hh] at hx9
    cases hx9
  intro T hT X
  have htr : e.platform.stackTraces = false := (show e.platform.stackTraces = E.1.stackTraces by rw [X.admits.platform]).trans e8
  have hcells : kc + 1 ≤ (kx_rm Y).cells := h1
  have hslots : ks + 6 ≤ (kx_rm Y).slots := h2
  have V := vx_rebase X (R' := { frames := (kx_rm Y).frames, locals := (kx_rm Y).locals, cells := 1, slots := 6 }) (Nat.le_refl _) (Nat.le_refl _) hcells hslots
  obtain ⟨s', hA⟩ : ∃ z, z = (T.setVm s.vm).setFrames (.invoking m args :: below) := ⟨_, rfl⟩
  rw [← hA] at V
  have hvm : s'.vm = s.vm := by rw [hA]; rfl
  have hhp : s'.heap = H := by rw [hA]; exact hT
  have hW0 : s.WarmedH s'.vm := by rw [hvm]; exact State.WarmedH.refl s
  have hat' : ∀ c ∈ kx_atN Y.2.2.1 ic, c.before args s' = true := fun c hc => vx_ot_at hW0 hvm.symm (g7 c hc) (hat c hc)
  have hot : ∀ {c : Cond}, c ∈ kx_WS → vx_ot c = true := fun {c} hc => by unfold vx_ot; rw [(List.mem_filter.mp hc).2]; simp
  have hk' : (Cond.classLink Y.2.2.1 ik kx_nse).before args s' = true := vx_ot_at hW0 hvm.symm (hot g2) (hts _ g2)
  have hini' : (Cond.initialized kx_nse).before args s' = true := vx_ot_at hW0 hvm.symm (hot g3) (hts _ g3)
  have hU' : vx_Zq Bundle.tN "UNASSIGNED_STACK" Bundle.steD (kx_A E.2.2.2) s' s'.heap := by rw [hhp]; exact vx_Zq.moved hW0.alike (e1.kept hS.2.1)
  have hN' : vx_Zq Bundle.tN "SUPPRESSED_SENTINEL" Bundle.listD (kx_A E.2.2.2) s' s'.heap := by rw [hhp]; exact vx_Zq.moved hW0.alike (e2.kept hS.2.1)
  have h : ∀ c ∈ kx_ownN Y.2.2.1 ic kx_nse kx_rte 13 kx_bN ["java/lang/Exception"], c.before args s' = true := vx_own hat' (vx_isRefq hU'.1) (vx_isRefq hN'.1) hU'.2.word hN'.2.word
  have hown' : s'.vm.findClass Y.2.2.1 = some m.cls := by rw [hvm]; exact hown
  have hins : (Cond.instantiable kx_nse 6).before args s' = true := h _ (by simp [kx_ownN])
  obtain ⟨vm₁, cX, kX, hfX, hkX, -, -, X₁, st1⟩ := V.newCold hexec (own := Y.2.2.1) (C := kx_nse) (index := ik) (n := 6) hown' hk' hins hini'
    (g := F0 m pc ls st) rfl (by rw [hb]; exact d0) (Nat.le_refl _) (Nat.le_refl _)
  generalize hT1 : (T.setVm vm₁).pushCell { cls := cX, slots := kX.instanceTypes.map defaultValue, vm := .none } = T1 at X₁ st1
  have hcat : (Value.ref T.heap.size).category = 1 := rfl
  have hcellA : T1.heap[T.heap.size]? = some (freshCell cX kX) := by rw [← hT1]; exact State.heap_pushCell_size _ _
  have d3' : decode c.code (pc + 3) = .ok (.dup, 1) := by rw [hb]; exact d3
  have d4' : decode c.code (pc + 4) = .ok (.ldc is, 2) := by rw [hb]; exact d4
  have hstr' : vk_R Y.2.2.1 is text sa s' := vk_R.warm hW0 hsa
  obtain ⟨U, hsteps, hrun, hend, hW, hsame, ce, hce, hO, hOc⟩ := kx_ctorThrow X₁ hexec htr (own := Y.2.2.1) (cls := kx_nse) (sup := kx_rte) (names := ["java/lang/Exception"]) (ic := ic) (ix := 13) (bytes := kx_bN) hown' (by decide +kernel) (by decide +kernel) (by decide +kernel) (by decide +kernel) (by decide +kernel) (by decide +kernel) (by decide +kernel) h (fun x hx => nomatch hx) hfX hkX hcellA (by rw [hhp, hT]; exact Nat.le_refl _) (msg := .ref sa) rfl
    (g := { method := m, pc := pc + 6, locals := ls, stack := .ref sa :: .ref T.heap.size :: .ref T.heap.size :: st, locked := none }) rfl hsize rfl rfl (rest := st) rfl
    (by rw [hb]; exact d6) (by rw [hb]; exact d9) hout (by show 1 + 4 < 1 + _; omega) (by simp only [List.map_cons, List.sum_cons, hcat]; show 2 * 0 + (1 + _) + (13 * (1 + 2) + 42) ≤ 100 + 30 * _; omega) hlk
  obtain ⟨f1, f2⟩ := vx_frame hsame
  rw [hhp] at f1 f2
  have hWs : s.WarmedH U.vm := State.WarmedH.trans hW0 hW
  have hcl : s.vm.findClass kx_nse = some ce.cls := by
    have h9 := hOc
    rw [hvm] at h9
    exact h9
  have hall : s.sameButNew ({ U with vm := s.vm } : State) locs Y.2.2.2.2.2.1 Y.2.2.2.2.2.2.1 := by
    subst hA
    obtain ⟨e1, e2⟩ := hsame
    rw [State.setFrames_setFrames] at e1
    have h2 : (T.setVm s.vm).sameButNew ({ U with vm := s.vm } : State) [] (0 + 1) (0 + 6) := ⟨e1, e2⟩
    have h3 := X.same.trans h2
    rw [List.append_nil] at h3
    exact h3.mono h1 ‹ks + 6 ≤ Y.2.2.2.2.2.2.1›
  have hkp : ∀ q : Nat, q < H.size → U.heap[q]? = H[q]? := fun q hq => f2 q hq (fun z hz => nomatch hz)
  refine ⟨U, ?_, .threw T.heap.size, hrun, hend, Or.inr ⟨T.heap.size, rfl, kx_nse, ce, locs, ⟨⟨w, hQ, hP.kept (fun k q hq => hkp q.1 (hP k q hq).lt), hD⟩, Nat.le_trans hS.1 f1, fun q h3 h4 => ?_⟩, hce, hO, hcl, hWs, hall, hS.2.2⟩⟩
  · refine st1 _ ?_
    show Steps p.tables e below (T1.setTop { method := m, pc := pc + 3, locals := ls, stack := .ref T.heap.size :: st, locked := none }) _
    jvm_step X₁.here [X₁.here.top, hexec, d3', Value.category]
    exact X₁.ldcString hexec (own := Y.2.2.1) (text := text) (index := is) (a := sa) hown' hstr'.1 hstr'.2
      (g := { method := m, pc := pc + 4, locals := ls, stack := .ref T.heap.size :: .ref T.heap.size :: st, locked := none }) rfl d4' _ hsteps
  · rw [hkp q (Nat.lt_of_lt_of_le h3 hS.1)]
    exact hS.2.1 q h3 h4
end KXV
