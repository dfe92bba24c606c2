/-! The judgement of a body over a named world: the world is a list of cells, a cell's name is its place in the list. -/
section KXA
abbrev kx_Z : Type := Program × Launch × Env × Room × State × MethodId × Array Value × List Frame × Method × Code
/-- a method: code, locals, owner, answer, name, cells, slots, level, handlers -/
abbrev kx_Y : Type := ByteArray × Nat × String × Option FieldType × MethodName × Nat × Nat × Nat × List (Nat × Nat × Nat × Nat)
/-- the launch, numbers and slots, arrays' numbers, the first address of the world -/
abbrev kx_E : Type := Launch × va_G × List (ClassId × FieldType) × Nat
/-- how a call ends: an answer, or the name of what it threw -/
abbrev kx_O : Type := Option Value ⊕ String
abbrev kx_L : Type := List (Nat × Value)
def kx_lk : kx_L → Nat → Option Value
  | [], _ => none
  | (j, v) :: t, i => cond (Nat.beq j i) (some v) (kx_lk t i)
def kx_sub : kx_L → kx_L → Prop
  | [], _ => True
  | (i, v) :: t, L => kx_lk L i = some v ∧ kx_sub t L
def kx_dd : kx_L → kx_L
  | [] => []
  | (j, v) :: t => (j, v) :: (kx_dd t).filter (fun q => !(q.1 == j))
theorem kx_lk_self {L : kx_L} {i : Nat} {v : Value} : kx_lk ((i, v) :: L) i = some v := by
  show cond (Nat.beq i i) _ _ = _
  rw [Nat.beq_refl]; rfl
theorem kx_lk_ne {L : kx_L} {i j : Nat} {v : Value} (h : j ≠ i) : kx_lk ((j, v) :: L) i = kx_lk L i := by
  show cond (Nat.beq j i) _ _ = _
  have e : Nat.beq j i = false := by
    cases h1 : Nat.beq j i with
    | true => exact absurd (Nat.eq_of_beq_eq_true h1) h
    | false => rfl
  rw [e]; rfl
theorem kx_dd_lk : ∀ (L : kx_L) (q : Nat × Value), q ∈ kx_dd L → kx_lk L q.1 = some q.2
  | [], q, h => by cases h
  | (j, v) :: t, q, h => by
    rcases List.mem_cons.mp h with rfl | h
    · exact kx_lk_self
    · obtain ⟨h1, h2⟩ := List.mem_filter.mp h
      have hne : j ≠ q.1 := by
        intro e; subst e; simp at h2
      rw [kx_lk_ne hne]
      exact kx_dd_lk t q h1
theorem kx_lk_dd : ∀ (L : kx_L) (i : Nat) (v : Value), kx_lk L i = some v → (i, v) ∈ kx_dd L
  | [], i, v, h => by cases h
  | (j, u) :: t, i, v, h => by
    by_cases e : j = i
    · subst e
      rw [kx_lk_self] at h
      cases h
      exact List.mem_cons_self
    · rw [kx_lk_ne e] at h
      refine List.mem_cons_of_mem _ (List.mem_filter.mpr ⟨kx_lk_dd t i v h, ?_⟩)
      simp [Ne.symm e]
def kx_Lc (ls : Array Slot) (nL : Nat) (L : kx_L) : Prop := ls.size = nL ∧ lv_wf ls ∧ ∀ i v, kx_lk L i = some v → v.category = 1 ∧ ls[i]? = some (.val v)
theorem kx_Lc.has {ls : Array Slot} {nL : Nat} {L : kx_L} (h : kx_Lc ls nL L) : lv_has ls nL (kx_dd L) :=
  ⟨h.1, h.2.1, fun q hq => (h.2.2 q.1 q.2 (kx_dd_lk L q hq)).2⟩
theorem kx_Lc.put {ls ls' : Array Slot} {nL i : Nat} {v : Value} {L : kx_L} (h : kx_Lc ls nL L) (hv : v.category = 1)
    (h' : lv_has ls' nL ((i, v) :: (kx_dd L).filter (fun q => !(q.1 == i) && !(q.1 + 1 == i && q.2.category == 2)))) : kx_Lc ls' nL ((i, v) :: L) := by
  refine ⟨h'.1, h'.2.1, fun j u hu => ?_⟩
  by_cases e : i = j
  · subst e
    rw [kx_lk_self] at hu
    cases hu
    exact ⟨hv, h'.2.2 (i, v) List.mem_cons_self⟩
  · rw [kx_lk_ne e] at hu
    have hc := (h.2.2 j u hu).1
    refine ⟨hc, h'.2.2 (j, u) (List.mem_cons_of_mem _ (List.mem_filter.mpr ⟨kx_lk_dd L j u hu, ?_⟩))⟩
    simp [Ne.symm e, hc]
theorem kx_Lc.sub {ls : Array Slot} {nL : Nat} : ∀ {L' L : kx_L}, kx_Lc ls nL L → kx_sub L' L → kx_Lc ls nL L' := by
  intro L' L h hs
  refine ⟨h.1, h.2.1, ?_⟩
  induction L' with
  | nil => intro i v hv; cases hv
  | cons q t ih =>
    obtain ⟨j, u⟩ := q
    intro i v hv
    by_cases e : j = i
    · subst e
      rw [kx_lk_self] at hv
      cases hv
      exact h.2.2 _ _ hs.1
    · rw [kx_lk_ne e] at hv
      exact ih hs.2 i v hv
end KXA
section KXB
abbrev kx_A (b : Nat) : Nat → Prop := fun q => b ≤ q
/-- how a call of the world's methods ends -/
def kx_Qs (E : kx_E) (Q : kx_O → va_W → Prop) : Array Value → State → Outcome → State → Prop := fun _ st oc t =>
  (∃ (v : Option Value) (w : va_W), oc = .returned v ∧ Q (.inl v) w ∧ va_P E.2.1 vwCl w t.heap ∧ va_D (kx_A E.2.2.2) w) ∧ va_F (kx_A E.2.2.2) st t
def kx_Xs (E : kx_E) (Q : kx_O → va_W → Prop) : String → State → State → Prop := fun X st t =>
  (∃ w : va_W, Q (.inr X) w ∧ va_P E.2.1 vwCl w t.heap ∧ va_D (kx_A E.2.2.2) w) ∧ va_F (kx_A E.2.2.2) st t
def kx_rm (Y : kx_Y) : Room := { frames := 1 + Y.2.2.2.2.2.2.2.1, cells := Y.2.2.2.2.2.1, slots := Y.2.2.2.2.2.2.1, locals := 100 + 30 * Y.2.2.2.2.2.2.2.1 }
def kx_strs : List (String × Nat × String) := [("ConsistBus", 32, "id or mask out of range"), ("ConsistBus", 43, "the id is taken, or the train is full"), ("ConsistBus", 160, "there is no such car"), ("ConsistBus", 163, "there is no such end"), ("ConsistBus", 71, "an end is coupled, or both cars are of one run"), ("ConsistBus", 87, "the end is not coupled"), ("ConsistBus", 98, "rounds out of range"), ("ConsistBus", 109, "there is no such fact"), ("ConsistBus", 126, "byte or value out of range"), ("ConsistBus", 132, "byte out of range"), ("ConsistBus", 137, "there is no such function"), ("ConsistBus", 156, "there is no such count")]
def kx_dcs : List MethodName := [⟨"java/lang/RuntimeException", "<init>", "(Ljava/lang/String;)V"⟩, ⟨"java/lang/Exception", "<init>", "(Ljava/lang/String;)V"⟩, ⟨"java/lang/Throwable", "<init>", "(Ljava/lang/String;)V"⟩]
def kx_cas : List String := ["java/lang/IllegalArgumentException", "java/lang/IllegalStateException", "java/util/NoSuchElementException"]
def kx_ncs : List (String × String) := [("java/lang/IllegalArgumentException", "java/lang/IllegalStateException"), ("java/lang/IllegalArgumentException", "java/util/NoSuchElementException"), ("java/lang/IllegalStateException", "java/lang/IllegalArgumentException"), ("java/lang/IllegalStateException", "java/util/NoSuchElementException"), ("java/util/NoSuchElementException", "java/lang/IllegalArgumentException"), ("java/util/NoSuchElementException", "java/lang/IllegalStateException")]
/-- what throwing, catching and arrays of references want of the start -/
def kx_Ex (E : kx_E) (U : State) : Prop :=
  vx_Zq Bundle.tN "UNASSIGNED_STACK" Bundle.steD (kx_A E.2.2.2) U U.heap ∧ vx_Zq Bundle.tN "SUPPRESSED_SENTINEL" Bundle.listD (kx_A E.2.2.2) U U.heap ∧
  (∀ q ∈ kx_strs, ∃ sa, vk_R q.1 q.2.1 q.2.2 sa U) ∧ (∀ x ∈ kx_dcs, va_Nw (.declares x) U) ∧ (∀ q ∈ kx_ncs, va_Nc q.1 q.2 U) ∧ va_AO "ConsistBus$Car" U ∧ va_AO "ConsistBus$End" U ∧ E.1.stackTraces = false ∧ (∀ x ∈ kx_cas, va_Nw (.castable x x) U)
theorem kx_Ex.go {E : kx_E} {s U : State} (hW : s.WarmedH U.vm) (hk : ∀ a : Nat, a < s.heap.size → ¬ kx_A E.2.2.2 a → U.heap[a]? = s.heap[a]?) (h : kx_Ex E s) : kx_Ex E U := by
  obtain ⟨h1, h2, h3, h4, h5, h6, h7, h8, h9⟩ := h
  exact ⟨(h1.kept hk).moved hW.alike, (h2.kept hk).moved hW.alike, fun q hq => by obtain ⟨sa, h⟩ := h3 q hq; exact ⟨sa, h.warm hW⟩, fun x hx => va_Nw.warmD hW (h4 x hx), fun q hq => (h5 q hq).moved hW.alike, h6.moved hW.alike, h7.moved hW.alike, h8, fun x hx => va_Nw.warmC hW (h9 x hx)⟩
theorem kx_Ex.calling {E : kx_E} {U : State} (g : JFrame) (mk : MethodId) (a : Array Value) (h : kx_Ex E U) : kx_Ex E (U.calling g mk a) := by
  obtain ⟨h1, h2, h3, h4, h5, h6, h7, h8, h9⟩ := h
  exact ⟨h1.moved (U := U.calling g mk a) (Vm.Alike.refl U.vm), h2.moved (U := U.calling g mk a) (Vm.Alike.refl U.vm), fun q hq => by obtain ⟨sa, h⟩ := h3 q hq; exact ⟨sa, h.same rfl⟩, fun x hx => va_Nw.same rfl rfl (h4 x hx), fun q hq => (h5 q hq).moved (Vm.Alike.refl U.vm), h6.moved (Vm.Alike.refl U.vm), h7.moved (Vm.Alike.refl U.vm), h8, fun x hx => va_Nw.same rfl rfl (h9 x hx)⟩
/-- the arrays of the claim: int, boolean, long, and two of references -/
def kx_ty (E : kx_E) : Prop := E.2.2.1.map (·.2) = kx_tys
def kx_ci (E : kx_E) (t : Nat) : ClassId := (E.2.2.1.getD t (0, .int)).1
def kx_hd (Y : kx_Y) : Cond := match Y.2.2.2.2.2.2.2.2 with
  | [] => .code Y.2.2.2.2.1 Y.1 Y.2.1 Y.2.2.2.1
  | hh => .codeWith Y.2.2.2.2.1 Y.1 Y.2.1 Y.2.2.2.1 hh
def kx_ws (Y : kx_Y) : List Cond := kx_hd Y :: kx_WS
/-- what a body stands on -/
def kx_C (E : kx_E) (Y : kx_Y) (z : kx_Z) : Prop :=
  z.1.tables.exec = Jvm.exec ∧ z.2.2.2.2.2.2.2.2.2.code = Y.1 ∧ z.2.2.2.2.2.2.2.2.2.maxLocals = Y.2.1 ∧ z.2.2.2.2.1.vm.findClass Y.2.2.1 = some z.2.2.2.2.2.1.cls ∧
  (∀ c ∈ kx_WS, c.before z.2.2.2.2.2.2.1 z.2.2.2.2.1 = true) ∧ va_K E.2.1 vwCl E.2.2.1 z.2.2.2.2.1 ∧ E.2.2.2 ≤ z.2.2.2.2.1.heap.size ∧ z.2.2.2.2.2.2.2.2.1.locks = false ∧
  z.2.2.2.2.2.2.2.2.1.sig.returnType = Y.2.2.2.1 ∧ z.2.2.2.2.2.2.2.2.1.name = Y.2.2.2.2.1.name ∧ z.2.2.2.2.2.2.2.2.2.exceptionTable.toList = tableOf Y.2.2.2.2.2.2.2.2 ∧ z.2.2.2.1 = kx_rm Y ∧ z.2.1 = E.1 ∧
  kx_Ex E z.2.2.2.2.1 ∧ kx_ty E
/-- the machine, at pc with locals L and operands st in the world w, comes to an end with Q -/
def kx_R (E : kx_E) (Y : kx_Y) (z : kx_Z) (pc : Nat) (L : kx_L) (st : List Value) (w : va_W) (kc ks : Nat) (Q : kx_O → va_W → Prop) : Prop :=
  kx_C E Y z → ∀ (H : Heap) (ls : Array Slot) (locs : List Loc), kx_Lc ls Y.2.1 L → va_P E.2.1 vwCl w H → va_D (kx_A E.2.2.2) w → va_S (kx_A E.2.2.2) z.2.2.2.2.1.heap H locs →
    W z.1 z.2.1 z.2.2.1 z.2.2.2.1 z.2.2.2.2.1 z.2.2.2.2.2.1 z.2.2.2.2.2.2.1 z.2.2.2.2.2.2.2.1 z.2.2.2.2.2.2.2.2.1 z.2.2.2.2.2.2.2.2.2 H locs kc ks
      (vx_MQ z.2.2.2.2.2.2.2.1 (kx_Qs E Q) (kx_Xs E Q) z.2.2.2.2.2.2.1 z.2.2.2.2.1 Y.2.2.2.2.2.1 Y.2.2.2.2.2.2.1 (kx_A E.2.2.2)) (F0 z.2.2.2.2.2.1 pc ls st)
/-- the world, as a state has it -/
def kx_Wd (E : kx_E) (w : va_W) (U : State) : Prop := va_P E.2.1 vwCl w U.heap ∧ va_D (kx_A E.2.2.2) w ∧ va_K E.2.1 vwCl E.2.2.1 U ∧ E.2.2.2 ≤ U.heap.size ∧ kx_Ex E U ∧ kx_ty E
/-- a method's contract at one world -/
def kx_S (E : kx_E) (Y : kx_Y) (as : List Value) (w : va_W) (Q : kx_O → va_W → Prop) : Prop :=
  vx_Met E.1 Y.2.2.2.2.1 (kx_ws Y) (kx_rm Y) (va_Pc as (kx_Wd E w)) (kx_Qs E Q) (kx_Xs E Q) Y.2.2.2.2.2.1 Y.2.2.2.2.2.2.1 (kx_A E.2.2.2)
end KXB
