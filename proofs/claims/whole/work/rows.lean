section
-- ===== PART A: goes FIRST, ahead of the names: the tables' words, and 'selects' of the private methods out of them =====
/-- a private method of a class that the tables say can be made, by its rows of tables_1 -/
def lw_okq (q : MethodName × Nat) : Prop := (q.1.cls ≠ "java/lang/invoke/MethodHandle" ∧ q.1.cls ≠ "java/lang/invoke/VarHandle") ∧ Cond.instantiable q.1.cls q.2 ∈ tables_1 ∧ Cond.privateMethod q.1 ∈ tables_1 ∧ Cond.instanceMethod q.1 ∈ tables_1
theorem lw_p0 : lw_okq (⟨"ConsistBus$Car", "agreesAt", "(LConsistBus$End;)Z"⟩, 11) := ⟨⟨by decide +kernel, by decide +kernel⟩, List.mem_of_getElem? (i := 81) (by decide +kernel), List.mem_of_getElem? (i := 79) (by decide +kernel), List.mem_of_getElem? (i := 80) (by decide +kernel)⟩
theorem lw_p1 : lw_okq (⟨"ConsistBus", "trueRun", "(LConsistBus$Car;)LConsistBus$Row;"⟩, 9) := ⟨⟨by decide +kernel, by decide +kernel⟩, List.mem_of_getElem? (i := 17) (by decide +kernel), List.mem_of_getElem? (i := 88) (by decide +kernel), List.mem_of_getElem? (i := 89) (by decide +kernel)⟩
theorem lw_p2 : lw_okq (⟨"java/lang/Throwable", "fillInStackTrace", "(I)Ljava/lang/Throwable;"⟩, 6) := ⟨⟨by decide +kernel, by decide +kernel⟩, List.mem_of_getElem? (i := 153) (by decide +kernel), List.mem_of_getElem? (i := 151) (by decide +kernel), List.mem_of_getElem? (i := 152) (by decide +kernel)⟩
theorem lw_p3 : lw_okq (⟨"ConsistBus", "endOf", "(II)LConsistBus$End;"⟩, 9) := ⟨⟨by decide +kernel, by decide +kernel⟩, List.mem_of_getElem? (i := 17) (by decide +kernel), List.mem_of_getElem? (i := 337) (by decide +kernel), List.mem_of_getElem? (i := 338) (by decide +kernel)⟩
theorem lw_p4 : lw_okq (⟨"ConsistBus", "carOf", "(I)LConsistBus$Car;"⟩, 9) := ⟨⟨by decide +kernel, by decide +kernel⟩, List.mem_of_getElem? (i := 17) (by decide +kernel), List.mem_of_getElem? (i := 341) (by decide +kernel), List.mem_of_getElem? (i := 342) (by decide +kernel)⟩
theorem lw_p5 : lw_okq (⟨"ConsistBus", "carWithId", "(I)LConsistBus$Car;"⟩, 9) := ⟨⟨by decide +kernel, by decide +kernel⟩, List.mem_of_getElem? (i := 17) (by decide +kernel), List.mem_of_getElem? (i := 345) (by decide +kernel), List.mem_of_getElem? (i := 346) (by decide +kernel)⟩
theorem lw_p6 : lw_okq (⟨"ConsistBus", "freeNumber", "()I"⟩, 9) := ⟨⟨by decide +kernel, by decide +kernel⟩, List.mem_of_getElem? (i := 17) (by decide +kernel), List.mem_of_getElem? (i := 371) (by decide +kernel), List.mem_of_getElem? (i := 372) (by decide +kernel)⟩
theorem lw_p7 : lw_okq (⟨"ConsistBus", "playRound", "(I)I"⟩, 9) := ⟨⟨by decide +kernel, by decide +kernel⟩, List.mem_of_getElem? (i := 17) (by decide +kernel), List.mem_of_getElem? (i := 416) (by decide +kernel), List.mem_of_getElem? (i := 417) (by decide +kernel)⟩
theorem lw_p8 : lw_okq (⟨"ConsistBus$Car", "fillFrame", "(LConsistBus$End;)V"⟩, 11) := ⟨⟨by decide +kernel, by decide +kernel⟩, List.mem_of_getElem? (i := 81) (by decide +kernel), List.mem_of_getElem? (i := 424) (by decide +kernel), List.mem_of_getElem? (i := 425) (by decide +kernel)⟩
theorem lw_p9 : lw_okq (⟨"ConsistBus$End", "fallSilent", "()V"⟩, 9) := ⟨⟨by decide +kernel, by decide +kernel⟩, List.mem_of_getElem? (i := 204) (by decide +kernel), List.mem_of_getElem? (i := 448) (by decide +kernel), List.mem_of_getElem? (i := 449) (by decide +kernel)⟩
theorem lw_p10 : lw_okq (⟨"ConsistBus$Car", "renewDirectory", "([Z)V"⟩, 11) := ⟨⟨by decide +kernel, by decide +kernel⟩, List.mem_of_getElem? (i := 81) (by decide +kernel), List.mem_of_getElem? (i := 462) (by decide +kernel), List.mem_of_getElem? (i := 463) (by decide +kernel)⟩
theorem lw_p11 : lw_okq (⟨"ConsistBus$Car", "draftDirectory", "([Z)V"⟩, 11) := ⟨⟨by decide +kernel, by decide +kernel⟩, List.mem_of_getElem? (i := 81) (by decide +kernel), List.mem_of_getElem? (i := 466) (by decide +kernel), List.mem_of_getElem? (i := 467) (by decide +kernel)⟩
theorem lw_p12 : lw_okq (⟨"ConsistBus$Car", "growOlder", "()V"⟩, 11) := ⟨⟨by decide +kernel, by decide +kernel⟩, List.mem_of_getElem? (i := 81) (by decide +kernel), List.mem_of_getElem? (i := 485) (by decide +kernel), List.mem_of_getElem? (i := 486) (by decide +kernel)⟩
theorem lw_p13 : lw_okq (⟨"ConsistBus$Car", "heed", "(LConsistBus$Frame;)I"⟩, 11) := ⟨⟨by decide +kernel, by decide +kernel⟩, List.mem_of_getElem? (i := 81) (by decide +kernel), List.mem_of_getElem? (i := 489) (by decide +kernel), List.mem_of_getElem? (i := 490) (by decide +kernel)⟩
theorem lw_p14 : lw_okq (⟨"ConsistBus$Car", "takeNews", "(LConsistBus$Frame;)V"⟩, 11) := ⟨⟨by decide +kernel, by decide +kernel⟩, List.mem_of_getElem? (i := 81) (by decide +kernel), List.mem_of_getElem? (i := 493) (by decide +kernel), List.mem_of_getElem? (i := 494) (by decide +kernel)⟩
theorem lw_p15 : lw_okq (⟨"ConsistBusModel", "find", "(I)I"⟩, 31) := ⟨⟨by decide +kernel, by decide +kernel⟩, List.mem_of_getElem? (i := 595) (by decide +kernel), List.mem_of_getElem? (i := 704) (by decide +kernel), List.mem_of_getElem? (i := 705) (by decide +kernel)⟩
def lw_privs_1 : List (MethodName × Nat) := [(⟨"ConsistBus$Car", "agreesAt", "(LConsistBus$End;)Z"⟩, 11), (⟨"ConsistBus", "trueRun", "(LConsistBus$Car;)LConsistBus$Row;"⟩, 9), (⟨"java/lang/Throwable", "fillInStackTrace", "(I)Ljava/lang/Throwable;"⟩, 6), (⟨"ConsistBus", "endOf", "(II)LConsistBus$End;"⟩, 9), (⟨"ConsistBus", "carOf", "(I)LConsistBus$Car;"⟩, 9), (⟨"ConsistBus", "carWithId", "(I)LConsistBus$Car;"⟩, 9), (⟨"ConsistBus", "freeNumber", "()I"⟩, 9), (⟨"ConsistBus", "playRound", "(I)I"⟩, 9), (⟨"ConsistBus$Car", "fillFrame", "(LConsistBus$End;)V"⟩, 11), (⟨"ConsistBus$End", "fallSilent", "()V"⟩, 9), (⟨"ConsistBus$Car", "renewDirectory", "([Z)V"⟩, 11), (⟨"ConsistBus$Car", "draftDirectory", "([Z)V"⟩, 11), (⟨"ConsistBus$Car", "growOlder", "()V"⟩, 11), (⟨"ConsistBus$Car", "heed", "(LConsistBus$Frame;)I"⟩, 11), (⟨"ConsistBus$Car", "takeNews", "(LConsistBus$Frame;)V"⟩, 11), (⟨"ConsistBusModel", "find", "(I)I"⟩, 31)]
theorem lw_r1 : ∀ q ∈ lw_privs_1, lw_okq q := List.forall_mem_cons.mpr ⟨lw_p0, List.forall_mem_cons.mpr ⟨lw_p1, List.forall_mem_cons.mpr ⟨lw_p2, List.forall_mem_cons.mpr ⟨lw_p3, List.forall_mem_cons.mpr ⟨lw_p4, List.forall_mem_cons.mpr ⟨lw_p5, List.forall_mem_cons.mpr ⟨lw_p6, List.forall_mem_cons.mpr ⟨lw_p7, List.forall_mem_cons.mpr ⟨lw_p8, List.forall_mem_cons.mpr ⟨lw_p9, List.forall_mem_cons.mpr ⟨lw_p10, List.forall_mem_cons.mpr ⟨lw_p11, List.forall_mem_cons.mpr ⟨lw_p12, List.forall_mem_cons.mpr ⟨lw_p13, List.forall_mem_cons.mpr ⟨lw_p14, List.forall_mem_cons.mpr ⟨lw_p15, fun _ h => absurd h List.not_mem_nil⟩⟩⟩⟩⟩⟩⟩⟩⟩⟩⟩⟩⟩⟩⟩⟩
theorem lw_p16 : lw_okq (⟨"ConsistBusModel", "goes", "(ZZZ)Z"⟩, 31) := ⟨⟨by decide +kernel, by decide +kernel⟩, List.mem_of_getElem? (i := 595) (by decide +kernel), List.mem_of_getElem? (i := 708) (by decide +kernel), List.mem_of_getElem? (i := 709) (by decide +kernel)⟩
theorem lw_p17 : lw_okq (⟨"ConsistBusModel", "forget", "(I)V"⟩, 31) := ⟨⟨by decide +kernel, by decide +kernel⟩, List.mem_of_getElem? (i := 595) (by decide +kernel), List.mem_of_getElem? (i := 712) (by decide +kernel), List.mem_of_getElem? (i := 713) (by decide +kernel)⟩
theorem lw_p18 : lw_okq (⟨"ConsistBusModel", "together", "(II)Z"⟩, 31) := ⟨⟨by decide +kernel, by decide +kernel⟩, List.mem_of_getElem? (i := 595) (by decide +kernel), List.mem_of_getElem? (i := 723) (by decide +kernel), List.mem_of_getElem? (i := 724) (by decide +kernel)⟩
theorem lw_p19 : lw_okq (⟨"ConsistBusModel", "run", "(I)I"⟩, 31) := ⟨⟨by decide +kernel, by decide +kernel⟩, List.mem_of_getElem? (i := 595) (by decide +kernel), List.mem_of_getElem? (i := 727) (by decide +kernel), List.mem_of_getElem? (i := 728) (by decide +kernel)⟩
theorem lw_p20 : lw_okq (⟨"ConsistBusModel", "turn", "(I)V"⟩, 31) := ⟨⟨by decide +kernel, by decide +kernel⟩, List.mem_of_getElem? (i := 595) (by decide +kernel), List.mem_of_getElem? (i := 731) (by decide +kernel), List.mem_of_getElem? (i := 732) (by decide +kernel)⟩
theorem lw_p21 : lw_okq (⟨"ConsistBusModel", "round", "(I)I"⟩, 31) := ⟨⟨by decide +kernel, by decide +kernel⟩, List.mem_of_getElem? (i := 595) (by decide +kernel), List.mem_of_getElem? (i := 747) (by decide +kernel), List.mem_of_getElem? (i := 748) (by decide +kernel)⟩
theorem lw_p22 : lw_okq (⟨"ConsistBusModel", "copy", "()V"⟩, 31) := ⟨⟨by decide +kernel, by decide +kernel⟩, List.mem_of_getElem? (i := 595) (by decide +kernel), List.mem_of_getElem? (i := 751) (by decide +kernel), List.mem_of_getElem? (i := 752) (by decide +kernel)⟩
theorem lw_p23 : lw_okq (⟨"ConsistBusModel", "hears", "(II)Z"⟩, 31) := ⟨⟨by decide +kernel, by decide +kernel⟩, List.mem_of_getElem? (i := 595) (by decide +kernel), List.mem_of_getElem? (i := 755) (by decide +kernel), List.mem_of_getElem? (i := 756) (by decide +kernel)⟩
theorem lw_p24 : lw_okq (⟨"ConsistBusModel", "look", "(II)V"⟩, 31) := ⟨⟨by decide +kernel, by decide +kernel⟩, List.mem_of_getElem? (i := 595) (by decide +kernel), List.mem_of_getElem? (i := 759) (by decide +kernel), List.mem_of_getElem? (i := 760) (by decide +kernel)⟩
theorem lw_p25 : lw_okq (⟨"ConsistBusModel", "settle", "(I)V"⟩, 31) := ⟨⟨by decide +kernel, by decide +kernel⟩, List.mem_of_getElem? (i := 595) (by decide +kernel), List.mem_of_getElem? (i := 763) (by decide +kernel), List.mem_of_getElem? (i := 764) (by decide +kernel)⟩
theorem lw_p26 : lw_okq (⟨"ConsistBusModel", "seen", "(I)I"⟩, 31) := ⟨⟨by decide +kernel, by decide +kernel⟩, List.mem_of_getElem? (i := 595) (by decide +kernel), List.mem_of_getElem? (i := 767) (by decide +kernel), List.mem_of_getElem? (i := 768) (by decide +kernel)⟩
theorem lw_p27 : lw_okq (⟨"ConsistBusModel", "learn", "(II)V"⟩, 31) := ⟨⟨by decide +kernel, by decide +kernel⟩, List.mem_of_getElem? (i := 595) (by decide +kernel), List.mem_of_getElem? (i := 771) (by decide +kernel), List.mem_of_getElem? (i := 772) (by decide +kernel)⟩
theorem lw_p28 : lw_okq (⟨"ConsistBusModel", "agrees", "(I)Z"⟩, 31) := ⟨⟨by decide +kernel, by decide +kernel⟩, List.mem_of_getElem? (i := 595) (by decide +kernel), List.mem_of_getElem? (i := 775) (by decide +kernel), List.mem_of_getElem? (i := 776) (by decide +kernel)⟩
theorem lw_p29 : lw_okq (⟨"ConsistBusModel", "place", "(II)I"⟩, 31) := ⟨⟨by decide +kernel, by decide +kernel⟩, List.mem_of_getElem? (i := 595) (by decide +kernel), List.mem_of_getElem? (i := 779) (by decide +kernel), List.mem_of_getElem? (i := 780) (by decide +kernel)⟩
theorem lw_p30 : lw_okq (⟨"ConsistBusModel", "stateOf", "(I)I"⟩, 31) := ⟨⟨by decide +kernel, by decide +kernel⟩, List.mem_of_getElem? (i := 595) (by decide +kernel), List.mem_of_getElem? (i := 791) (by decide +kernel), List.mem_of_getElem? (i := 792) (by decide +kernel)⟩
def lw_privs_2 : List (MethodName × Nat) := [(⟨"ConsistBusModel", "goes", "(ZZZ)Z"⟩, 31), (⟨"ConsistBusModel", "forget", "(I)V"⟩, 31), (⟨"ConsistBusModel", "together", "(II)Z"⟩, 31), (⟨"ConsistBusModel", "run", "(I)I"⟩, 31), (⟨"ConsistBusModel", "turn", "(I)V"⟩, 31), (⟨"ConsistBusModel", "round", "(I)I"⟩, 31), (⟨"ConsistBusModel", "copy", "()V"⟩, 31), (⟨"ConsistBusModel", "hears", "(II)Z"⟩, 31), (⟨"ConsistBusModel", "look", "(II)V"⟩, 31), (⟨"ConsistBusModel", "settle", "(I)V"⟩, 31), (⟨"ConsistBusModel", "seen", "(I)I"⟩, 31), (⟨"ConsistBusModel", "learn", "(II)V"⟩, 31), (⟨"ConsistBusModel", "agrees", "(I)Z"⟩, 31), (⟨"ConsistBusModel", "place", "(II)I"⟩, 31), (⟨"ConsistBusModel", "stateOf", "(I)I"⟩, 31)]
theorem lw_r2 : ∀ q ∈ lw_privs_2, lw_okq q := List.forall_mem_cons.mpr ⟨lw_p16, List.forall_mem_cons.mpr ⟨lw_p17, List.forall_mem_cons.mpr ⟨lw_p18, List.forall_mem_cons.mpr ⟨lw_p19, List.forall_mem_cons.mpr ⟨lw_p20, List.forall_mem_cons.mpr ⟨lw_p21, List.forall_mem_cons.mpr ⟨lw_p22, List.forall_mem_cons.mpr ⟨lw_p23, List.forall_mem_cons.mpr ⟨lw_p24, List.forall_mem_cons.mpr ⟨lw_p25, List.forall_mem_cons.mpr ⟨lw_p26, List.forall_mem_cons.mpr ⟨lw_p27, List.forall_mem_cons.mpr ⟨lw_p28, List.forall_mem_cons.mpr ⟨lw_p29, List.forall_mem_cons.mpr ⟨lw_p30, fun _ h => absurd h List.not_mem_nil⟩⟩⟩⟩⟩⟩⟩⟩⟩⟩⟩⟩⟩⟩⟩
def lw_privs : List (MethodName × Nat) := lw_privs_1 ++ (lw_privs_2)
def lw_tbl : List Cond := k2_sels lw_privs ++ tables_1
theorem lw_privs_ok : ∀ q ∈ lw_privs, lw_okq q := by
  show ∀ q ∈ lw_privs_1 ++ (lw_privs_2), lw_okq q
  exact List.forall_mem_append.mpr ⟨lw_r1, lw_r2⟩
end
section
/-! ===== BEGIN words of one list among another's, by their places ===== -/
theorem goodIn_r {big : List Cond} (ws : List Cond) (ps : List Nat) (hp : ws = ps.filterMap (fun i => big[i]?)) (h : ws.all goodWord = true) : GoodIn big ws := by
  intro w hw
  have h1 := List.all_eq_true.mp h w hw
  rw [hp] at hw
  obtain ⟨i, -, hi⟩ := List.mem_filterMap.mp hw
  have hm : w ∈ big := by first | exact List.mem_of_getElem? hi | exact List.getElem?_mem hi
  exact ⟨hm, good_of_word h1⟩
theorem goodIn_app {big a b : List Cond} (ha : GoodIn big a) (hb : GoodIn big b) : GoodIn big (a ++ b) := fun w h => (List.mem_append.mp h).elim (ha w) (hb w)
theorem goodIn_ca {big a b : List Cond} {c : Cond} (ha : GoodIn big (c :: a)) (hb : GoodIn big b) : GoodIn big (c :: (a ++ b)) := fun w h => (List.mem_cons.mp h).elim (fun e => ha w (List.mem_cons.mpr (Or.inl e))) (fun h => (List.mem_append.mp h).elim (fun h => ha w (List.mem_cons.mpr (Or.inr h))) (hb w))
theorem goodIn_sub {big ws : List Cond} (hm : ∀ w ∈ ws, w ∈ big) (h : ws.all goodWord = true) : GoodIn big ws := fun w hw => ⟨hm w hw, good_of_word (List.all_eq_true.mp h w hw)⟩
/-! ===== END ===== -/

/-! ===== BEGIN exceptions that leave a method, and their catching by the caller (launches without stack traces) ===== -/
section VXA
/-! The laws vx_back, vx_callV, vx_callS, vx_callSW, vx_throw0, vx_throwS follow proofs of the library, with one case more: JvmDerived/Free/Laws.lean (Back.of_free), Shelf42/LK1.lean (callV, callS), Shelf/KitTraced.lean (throwNew0V, throwNewS). -/
/-- where a method has thrown q: the class by its name, the cell, what was written, the world -/
def vx_T (XC : String → State → State → Prop) (st : State) (q : Addr) (t : State) (mc ms : Nat) (free : Addr → Prop) : Prop :=
  ∃ (E : String) (ce : Cell) (L : List Loc), XC E st t ∧ t.heap[q]? = some ce ∧ ce.vm = .none ∧ st.vm.findClass E = some ce.cls ∧ st.WarmedH t.vm ∧ st.sameButNew ({ t with vm := st.vm } : State) L mc ms ∧ ∀ z ∈ L, free z.base
def vx_Q (Qc : Array Value → State → Outcome → State → Prop) (XC : String → State → State → Prop) (mc ms : Nat) (free : Addr → Prop) : Array Value → State → Outcome → State → Prop := fun a st o t =>
  (Qc a st o t ∧ ∃ L, FrameEnd st o t L mc ms ∧ ∀ q ∈ L, free q.base) ∨ ∃ q, o = .threw q ∧ vx_T XC st q t mc ms free
/-- a callee that returns or throws -/
def vx_Met (l : Launch) (y : MethodName) (ws : List Cond) (rm : Room) (Pc : Array Value → State → Prop) (Qc : Array Value → State → Outcome → State → Prop) (XC : String → State → State → Prop) (mc ms : Nat) (free : Addr → Prop) : Prop :=
  MetFree l y (headSpec ws rm) Pc (fun _ _ _ _ _ => True) (vx_Q Qc XC mc ms free)
def vx_Post (XC : String → State → State → Prop) (mc ms : Nat) (free : Addr → Prop) : Pt → Array Value → Addr → Pt → Prop := fun A a q B =>
  ∃ (g : JFrame) (mk : MethodId) (t : State) (L : List Loc) (E : String) (ce : Cell), B.U.heap = t.heap ∧ B.U.vm = t.vm ∧ XC E (A.U.calling g mk a) t ∧ t.heap[q]? = some ce ∧ ce.vm = .none ∧ A.U.vm.findClass E = some ce.cls ∧ B.locs = A.locs ++ L ∧ (∀ z ∈ L, free z.base) ∧ B.cells = A.cells + mc ∧ B.slots = A.slots + ms
def vx_Back (l : Launch) (R : Room) (p : Program) (e : Env) (below : List Frame) (s : State) (sargs : Array Value) (y : MethodName) (len W9 : Nat)
    (Pre : Pt → Array Value → Prop) (Post : Pt → Array Value → Option Value → Pt → Prop) (PostX : Pt → Array Value → Addr → Pt → Prop) : Prop :=
  ∀ (m : MethodId) (meth : Method) (c : Code) (A : Pt) (g : JFrame) (ig : Instr) (mk : MethodId) (a : Array Value),
    Stand p l e R s m sargs below meth c A.U A.locs A.cells A.slots → g.method = m → g.locals.size = c.maxLocals → decode c.code g.pc = .ok (ig, len) →
    2 * g.monitorRoom + (g.stack.map fun v => v.category).sum ≤ W9 → A.U.methodNamed? y = some mk → Pre A a →
    (∃ (v : Option Value) (B : Pt), Stand p l e R s m sargs below meth c B.U B.locs B.cells B.slots ∧ Post A a v B ∧
      Steps p.tables e below (doInvoke e (A.U.setTop g) [] mk a).1 (B.U.setTop { g with pc := g.pc + len, stack := v.toList ++ g.stack })) ∨
    (∃ (q : Addr) (B : Pt), Stand p l e R s m sargs below meth c B.U B.locs B.cells B.slots ∧ PostX A a q B ∧
      Steps p.tables e below (doInvoke e (A.U.setTop g) [] mk a).1 ((B.U.setTop g).pushFrame (.throwing q)))
section Payer
variable {l : Launch} {R : Room} {p : Program} {e : Env} {below : List Frame} {s : State} {sargs : Array Value} {y : MethodName} {len W9 : Nat}
theorem vx_back {ws : List Cond} {rm : Room} {Pc : Array Value → State → Prop} {Qc : Array Value → State → Outcome → State → Prop} {XC : String → State → State → Prop} {mc ms : Nat} {free : Addr → Prop} {bytes : ByteArray} {maxL : Nat} {ret : Option FieldType}
    (hM : vx_Met l y ws rm Pc Qc XC mc ms free) (hblind : FrameBlind Pc) (hrc : rm.cells = mc) (hrs : rm.slots = ms)
    (hframes : rm.frames + 1 ≤ R.frames) (hlocals : W9 + (maxL + 11) + rm.locals ≤ R.locals)
    (hws : ∀ w ∈ ws, ∀ a' U, s.WarmedH U.vm → w.before a' U = true) (hcode : Cond.code y bytes maxL ret ∈ ws) (hinit : ∀ a' U, s.WarmedH U.vm → (Cond.initialized y.cls).before a' U = true) :
    vx_Back l R p e below s sargs y len W9 (PreOf R mc ms Pc) (PostOf Qc mc ms free) (vx_Post XC mc ms free) := by
  intro m meth c A g ig mk a X hg hsize hdg hW hn hp
  have h1 : (headSpec ws rm).pre.before a A.U = true := atoms_intro fun w hw => hws w hw _ _ X.warmed
  have h2 : (Cond.code y bytes maxL ret).before a A.U = true := hws _ hcode _ _ X.warmed
  have h3 : (Cond.initialized y.cls).before a A.U = true := hinit _ _ X.warmed
  have h4 : A.cells + (headSpec ws rm).room.cells ≤ R.cells := by rw [show (headSpec ws rm).room.cells = mc from hrc]; exact hp.1
  have h5 : A.slots + (headSpec ws rm).room.slots ≤ R.slots := by rw [show (headSpec ws rm).room.slots = ms from hrs]; exact hp.2.1
  have hPc : Pc a (A.U.calling g mk a) := hblind _ _ _ _ hp.2.2
  obtain ⟨U, Ls, c0, s0⟩ := A
  dsimp only [Pt.U, Pt.locs, Pt.cells, Pt.slots] at h1 h2 h3 h4 h5 X hn hPc ⊢
  obtain ⟨methY, cY, hmY, hcY, -, hlY, -, -, -, -⟩ := Cond.code_spec hn h2
  obtain ⟨kY, hkY, -⟩ := className_of_methodNamed hn
  have hinitY : kY.init = .initialized := Cond.initialized_spec (findClass_of_methodNamed hn) hkY h3
  have h : At U g.method c below := by rw [hg]; exact X.here
  have hlocals9 : W9 + (maxL + 11) + (headSpec ws rm).room.locals ≤ R.locals := hlocals
  have happ : (headSpec ws rm).appliesLoose y e.platform (U.calling g mk a) = true :=
    Spec.appliesLoose_calling (g := g) h hdg hn hkY hinitY
      (X.room_calling (g := g) (R' := (headSpec ws rm).room) hsize hmY hcY hframes (by rw [hlY]; omega) h4 h5) h1
  obtain ⟨mid, hmid⟩ := h.above
  have hfr : (U.setTop g).frames = (.java g :: mid) ++ below := by rw [State.frames_setTop' g h.top, hmid]; rfl
  obtain ⟨o, s₂, hsteps, -, hend, hq⟩ := Steps.callFree hM p X.admits X.cas X.clock (acts := []) hfr happ hPc trivial
  have hq' : vx_Q Qc XC mc ms free a (U.calling g mk a) o s₂ := hq
  rw [State.frames_setTop' g h.top] at hend
  obtain ⟨g₀, hg0⟩ := Option.isSome_iff_exists.mp h.top
  obtain ⟨r, hr⟩ := State.topJava?_eq_some.mp hg0
  have hr' : (({ U with heap := s₂.heap, slotsUsed := s₂.slotsUsed } : State).setVm s₂.vm).frames = .java g₀ :: r := hr
  rcases hq' with ⟨hqc, L, hfe, hL⟩ | ⟨q, rfl, E, ce, L, hx, hce, hcv, hcl, hW₂, hsm, hL⟩
  · obtain ⟨⟨v, rfl⟩, hW₂, e2, q2, q3, q4, q5, q6⟩ := id hfe
    have e3 : s₂ = ({ (U.calling g mk a).setFrames s₂.frames with heap := s₂.heap, slotsUsed := s₂.slotsUsed } : State).setVm s₂.vm := by
      have : s₂ = ({ s₂ with vm := (U.calling g mk a).vm } : State).setVm s₂.vm := rfl
      rw [e2] at this
      exact this
    obtain ⟨c₂, i₂, len₂, hc₂, hd₂, hf₂⟩ := hend
    have hW' : U.WarmedH s₂.vm := hW₂
    have hcc : c₂ = c := by
      have h1 : s₂.code? g.method = U.code? g.method := by
        rw [State.code?_eq, State.code?_eq, hW'.alike.method?]
      exact Option.some.inj (hc₂.symm.trans (h1.trans h.code))
    subst hcc
    have hlen : len₂ = len := by rw [hdg] at hd₂; cases hd₂; rfl
    subst hlen
    have hs₂ : s₂ = (({ U with heap := s₂.heap, slotsUsed := s₂.slotsUsed } : State).setVm s₂.vm).setTop { g with pc := g.pc + len₂, stack := v.toList ++ g.stack } := by
      refine e3.trans ?_
      rw [hf₂, State.calling_eq h.top, State.setFrames_setFrames, State.setTop_of_frames _ hr', hr]
      rfl
    have hsame : U.sameButNew ({ U with heap := s₂.heap, slotsUsed := s₂.slotsUsed } : State) L mc ms := by
      refine ⟨?_, q2, q3, q4, q5, q6⟩
      obtain ⟨t, ht, -⟩ := State.frames_cons hr
      show ({ U with heap := s₂.heap, slotsUsed := s₂.slotsUsed } : State) = { U.setFrames U.frames with heap := s₂.heap, slotsUsed := s₂.slotsUsed }
      rw [State.setFrames_self ht]
    subst hg
    refine Or.inl ⟨v, ⟨(({ U with heap := s₂.heap, slotsUsed := s₂.slotsUsed } : State).setVm s₂.vm), Ls ++ L, c0 + mc, s0 + ms⟩,
      ⟨X.admits, X.cas, X.clock, X.frames, X.room, X.hears, X.method, X.code, (X.here.setHeapUsed s₂.heap s₂.slotsUsed).setVm hW'.alike, X.tail, State.WarmedH.trans X.warmed hW', X.limits, X.bytes, X.same.trans (hsame.setVm s.vm)⟩,
      ⟨g, mk, s₂, L, rfl, rfl, hqc, rfl, hL, rfl, rfl⟩, ?_⟩
    show Steps p.tables e below _ ((({ U with heap := s₂.heap, slotsUsed := s₂.slotsUsed } : State).setVm s₂.vm).setTop { g with pc := g.pc + len₂, stack := v.toList ++ g.stack })
    rw [← hs₂]
    exact hsteps
  · obtain ⟨e2, q2, q3, q4, q5, q6⟩ := id hsm
    have e3 : s₂ = ({ (U.calling g mk a).setFrames s₂.frames with heap := s₂.heap, slotsUsed := s₂.slotsUsed } : State).setVm s₂.vm := by
      have : s₂ = ({ s₂ with vm := (U.calling g mk a).vm } : State).setVm s₂.vm := rfl
      rw [e2] at this
      exact this
    have hf₂ : s₂.frames = .throwing q :: .java g :: U.frames.tail := hend
    have hW' : U.WarmedH s₂.vm := hW₂
    have hs₂ : s₂ = ((({ U with heap := s₂.heap, slotsUsed := s₂.slotsUsed } : State).setVm s₂.vm).setTop g).pushFrame (.throwing q) := by
      refine e3.trans ?_
      rw [hf₂, State.calling_eq h.top, State.setFrames_setFrames, State.pushFrame, State.frames_setTop _ hr', State.setTop_of_frames _ hr', State.setFrames_setFrames, hr]
      rfl
    have hsame : U.sameButNew ({ U with heap := s₂.heap, slotsUsed := s₂.slotsUsed } : State) L mc ms := by
      refine ⟨?_, q2, q3, q4, q5, q6⟩
      obtain ⟨t, ht, -⟩ := State.frames_cons hr
      show ({ U with heap := s₂.heap, slotsUsed := s₂.slotsUsed } : State) = { U.setFrames U.frames with heap := s₂.heap, slotsUsed := s₂.slotsUsed }
      rw [State.setFrames_self ht]
    subst hg
    refine Or.inr ⟨q, ⟨(({ U with heap := s₂.heap, slotsUsed := s₂.slotsUsed } : State).setVm s₂.vm), Ls ++ L, c0 + mc, s0 + ms⟩,
      ⟨X.admits, X.cas, X.clock, X.frames, X.room, X.hears, X.method, X.code, (X.here.setHeapUsed s₂.heap s₂.slotsUsed).setVm hW'.alike, X.tail, State.WarmedH.trans X.warmed hW', X.limits, X.bytes, X.same.trans (hsame.setVm s.vm)⟩,
      ⟨g, mk, s₂, L, E, ce, rfl, rfl, hx, hce, hcv, hcl, rfl, hL, rfl, rfl⟩, ?_⟩
    show Steps p.tables e below _ (((({ U with heap := s₂.heap, slotsUsed := s₂.slotsUsed } : State).setVm s₂.vm).setTop g).pushFrame (.throwing q))
    rw [← hs₂]
    exact hsteps
end Payer
section Calls
variable {p : Program} {l : Launch} {e : Env} {R : Room} {s : State} {m : MethodId} {args : Array Value} {below : List Frame} {meth : Method} {c : Code} {T : State} {locs : List Loc} {cells slots : Nat}
theorem vx_callV (X : Stand p l e R s m args below meth c T locs cells slots) (hexec : p.tables.exec = Jvm.exec) {own C : String} {index : Nat} {y : MethodName} {bytes : ByteArray} {maxL : Nat} {ret : Option FieldType}
    (hown : s.vm.findClass own = some m.cls) (hlink : (Cond.methodLink own index y).before args s = true) (hinst : (Cond.instanceMethod y).before args s = true) (hsel : (Cond.selects C y y).before args s = true)
    (hcode : (Cond.code y bytes maxL ret).before args s = true) (hy : y.cls ≠ "java/lang/invoke/MethodHandle" ∧ y.cls ≠ "java/lang/invoke/VarHandle")
    {W9 : Nat} {Pre : Pt → Array Value → Prop} {Post : Pt → Array Value → Option Value → Pt → Prop} {PostX : Pt → Array Value → Addr → Pt → Prop} (hK : vx_Back l R p e below s args y 3 W9 Pre Post PostX)
    {b : Addr} {cellB : Cell} (hcell : T.heap[b]? = some cellB) (hobj : cellB.vm.isStatics = false) (hcls : s.vm.findClass C = some cellB.cls)
    {g : JFrame} (hg : g.method = m) (hsize : g.locals.size = c.maxLocals) {argsL rest : List Value} (hlen : ∀ sig, parseMethodDescriptor y.desc = some sig → argsL.length = sig.parameters.length)
    (hstack : g.stack = argsL.reverse ++ .ref b :: rest) (hW : 2 * g.monitorRoom + (rest.map fun v => v.category).sum ≤ W9) (hdg : decode c.code g.pc = .ok (.invokevirtual index, 3))
    (hpre : ∀ vm₁, s.WarmedH vm₁ → Pre ⟨T.setVm vm₁, locs, cells, slots⟩ (Value.ref b :: argsL).toArray) :
    (∃ (v : Option Value) (vm₁ : Vm) (B : Pt), s.WarmedH vm₁ ∧ Stand p l e R s m args below meth c B.U B.locs B.cells B.slots ∧ Post ⟨T.setVm vm₁, locs, cells, slots⟩ (Value.ref b :: argsL).toArray v B ∧
      ∀ target, Steps p.tables e below (B.U.setTop { g with pc := g.pc + 3, stack := v.toList ++ rest }) target → Steps p.tables e below (T.setTop g) target) ∨
    (∃ (q : Addr) (vm₁ : Vm) (B : Pt), s.WarmedH vm₁ ∧ Stand p l e R s m args below meth c B.U B.locs B.cells B.slots ∧ PostX ⟨T.setVm vm₁, locs, cells, slots⟩ (Value.ref b :: argsL).toArray q B ∧
      Steps p.tables e below (T.setTop g) ((B.U.setTop { g with stack := rest }).pushFrame (.throwing q))) := by
  obtain ⟨mk, methM, hnamed, hmethM, hstM, habM⟩ := Cond.instanceMethod_spec hinst
  obtain ⟨methM', cM, hmethM', -, -, -, -, -, -, hsigM⟩ := Cond.code_spec hnamed hcode
  cases hmethM.symm.trans hmethM'
  obtain ⟨c2, r2, m2, q1, q2, q3, q4, kP, hkP, hkPi⟩ := Cond.selects_spec hsel
  cases hcls.symm.trans q1
  cases (State.methodFound?_of_named hnamed hy).symm.trans q2
  cases hnamed.symm.trans q3
  have hselP : selectMethod e.platform s.vm cellB.cls mk = .method mk := by rw [Launch.admits_selectMethod X.admits]; exact q4
  obtain ⟨vm₁, X₁, hstep₁⟩ := X.invokevirtual hexec hown hlink hnamed hmethM hstM hkP hkPi hy (a := b) (cell := cellB) hcell
    (fun z h => by rw [h] at hobj; cases hobj) hselP hmethM habM hkP hkPi (g := g) hg (argsL := argsL) (rest := rest) (hlen _ hsigM) hstack hdg
  rcases hK m meth c ⟨T.setVm vm₁, locs, cells, slots⟩ { g with stack := rest } (.invokevirtual index) mk (Value.ref b :: argsL).toArray X₁ hg hsize hdg hW (X₁.named hnamed) (hpre vm₁ X₁.warmed) with ⟨v, B, X', hpost, hsteps⟩ | ⟨q, B, X', hpost, hsteps⟩
  · exact Or.inl ⟨v, vm₁, B, X₁.warmed, X', hpost, fun target h => hstep₁ _ fun acts => by rw [doInvoke_state]; exact hsteps.trans h⟩
  · exact Or.inr ⟨q, vm₁, B, X₁.warmed, X', hpost, hstep₁ _ fun acts => by rw [doInvoke_state]; exact hsteps⟩
theorem vx_callS (X : Stand p l e R s m args below meth c T locs cells slots) (hexec : p.tables.exec = Jvm.exec) {own : String} {index : Nat} {y : MethodName} {bytes : ByteArray} {maxL : Nat} {ret : Option FieldType}
    (hown : s.vm.findClass own = some m.cls) (hlink : (Cond.methodLink own index y).before args s = true) (hstat : (Cond.static y).before args s = true) (hinit : (Cond.initialized y.cls).before args s = true)
    (hcode : (Cond.code y bytes maxL ret).before args s = true) (hy : y.cls ≠ "java/lang/invoke/MethodHandle" ∧ y.cls ≠ "java/lang/invoke/VarHandle")
    {W9 : Nat} {Pre : Pt → Array Value → Prop} {Post : Pt → Array Value → Option Value → Pt → Prop} {PostX : Pt → Array Value → Addr → Pt → Prop} (hK : vx_Back l R p e below s args y 3 W9 Pre Post PostX)
    {g : JFrame} (hg : g.method = m) (hsize : g.locals.size = c.maxLocals) {argsL rest : List Value} (hlen : ∀ sig, parseMethodDescriptor y.desc = some sig → argsL.length = sig.parameters.length)
    (hstack : g.stack = argsL.reverse ++ rest) (hW : 2 * g.monitorRoom + (rest.map fun v => v.category).sum ≤ W9) (hdg : decode c.code g.pc = .ok (.invokestatic index, 3))
    (hpre : ∀ vm₁, s.WarmedH vm₁ → Pre ⟨T.setVm vm₁, locs, cells, slots⟩ argsL.toArray) :
    (∃ (v : Option Value) (vm₁ : Vm) (B : Pt), s.WarmedH vm₁ ∧ Stand p l e R s m args below meth c B.U B.locs B.cells B.slots ∧ Post ⟨T.setVm vm₁, locs, cells, slots⟩ argsL.toArray v B ∧
      ∀ target, Steps p.tables e below (B.U.setTop { g with pc := g.pc + 3, stack := v.toList ++ rest }) target → Steps p.tables e below (T.setTop g) target) ∨
    (∃ (q : Addr) (vm₁ : Vm) (B : Pt), s.WarmedH vm₁ ∧ Stand p l e R s m args below meth c B.U B.locs B.cells B.slots ∧ PostX ⟨T.setVm vm₁, locs, cells, slots⟩ argsL.toArray q B ∧
      Steps p.tables e below (T.setTop g) ((B.U.setTop { g with stack := rest }).pushFrame (.throwing q))) := by
  obtain ⟨mk, hnamed⟩ := Cond.code_named hcode
  obtain ⟨methM, cM, hmethM, -, -, -, -, -, -, hsigM⟩ := Cond.code_spec hnamed hcode
  have hstatic : methM.isStatic = true := Cond.static_spec hnamed hmethM hstat
  obtain ⟨kP, hkP, -⟩ := className_of_methodNamed hnamed
  have hinitP : kP.init = .initialized := Cond.initialized_spec (findClass_of_methodNamed hnamed) hkP hinit
  obtain ⟨vm₁, X₁, hstep₁⟩ := X.invokestatic hexec hown hlink hnamed hmethM hstatic hkP hinitP hy (g := g) hg (argsL := argsL) (rest := rest) (hlen _ hsigM) hstack hdg
  rcases hK m meth c ⟨T.setVm vm₁, locs, cells, slots⟩ { g with stack := rest } (.invokestatic index) mk argsL.toArray X₁ hg hsize hdg hW (X₁.named hnamed) (hpre vm₁ X₁.warmed) with ⟨v, B, X', hpost, hsteps⟩ | ⟨q, B, X', hpost, hsteps⟩
  · exact Or.inl ⟨v, vm₁, B, X₁.warmed, X', hpost, fun target h => hstep₁ _ fun acts => by rw [doInvoke_state]; exact hsteps.trans h⟩
  · exact Or.inr ⟨q, vm₁, B, X₁.warmed, X', hpost, hstep₁ _ fun acts => by rw [doInvoke_state]; exact hsteps⟩
end Calls
theorem vx_cls {s : State} {T : State} {vm₁ : Vm} {E : String} {k : ClassId} (hW : s.WarmedH vm₁) (h : (T.setVm vm₁).vm.findClass E = some k) : s.vm.findClass E = some k := by
  have h1 : vm₁.findClass E = some k := h
  rw [hW.alike.findClass] at h1
  exact h1
/-- the method's frame g, with q thrown over it -/
def vx_W (p : Program) (l : Launch) (e : Env) (R : Room) (s : State) (m : MethodId) (args : Array Value) (below : List Frame) (meth : Method) (c : Code) (H : Heap) (locs : List Loc) (cells slots : Nat) (Q : State → Prop) (g : JFrame) (q : Addr) : Prop :=
  ∀ T : State, T.heap = H → Stand p l e R s m args below meth c T locs cells slots → ∃ t, Steps p.tables e below ((T.setTop g).pushFrame (.throwing q)) t ∧ Q t
def vx_Run (p : Program) (l : Launch) (e : Env) (R : Room) (s : State) (m : MethodId) (args : Array Value) (below : List Frame) (meth : Method) (c : Code) (H : Heap) (locs : List Loc) (cells slots mc ms : Nat) (g : JFrame) (rest : List Value) (Qa : State → Outcome → State → Prop) (XC : String → State → State → Prop) (free : Addr → Prop) : Prop :=
  ∀ T : State, T.heap = H → Stand p l e R s m args below meth c T locs cells slots →
    (∃ (v : Option Value) (st₀ t T' : State) (L : List Loc), st₀.heap = H ∧ Stand p l e R s m args below meth c T' (locs ++ L) (cells + mc) (slots + ms) ∧ (∀ q ∈ L, free q.base) ∧ T'.heap = t.heap ∧ T'.vm = t.vm ∧ Qa st₀ (.returned v) t ∧
      Goes p e below T g T' { g with pc := g.pc + 3, stack := v.toList ++ rest }) ∨
    (∃ (q : Addr) (st₀ t T' : State) (L : List Loc) (E : String) (ce : Cell), st₀.heap = H ∧ Stand p l e R s m args below meth c T' (locs ++ L) (cells + mc) (slots + ms) ∧ (∀ z ∈ L, free z.base) ∧ T'.heap = t.heap ∧ T'.vm = t.vm ∧ XC E st₀ t ∧ t.heap[q]? = some ce ∧ ce.vm = .none ∧ s.vm.findClass E = some ce.cls ∧
      Steps p.tables e below (T.setTop g) ((T'.setTop { g with stack := rest }).pushFrame (.throwing q)))
def vx_X {S : Type} (px : S → Prop) (B : String → S → State → Prop) (A : Nat → Prop) : String → State → State → Prop := fun E st t => ∃ u : S, px u ∧ B E u t ∧ va_F A st t
section Runs
variable {p : Program} {l : Launch} {e : Env} {R : Room} {s : State} {m : MethodId} {args : Array Value} {below : List Frame} {meth : Method} {c : Code} {H : Heap} {locs : List Loc} {cells slots : Nat}
variable {y : MethodName} {bytes cc : ByteArray} {maxL nL mc ms n index : Nat} {ret : Option FieldType} {ws : List Cond} {rm : Room} {Pc : Array Value → State → Prop} {Qc : Array Value → State → Outcome → State → Prop} {XC : String → State → State → Prop} {free : Addr → Prop} {Ts : List Cond} {own C : String} {b : Addr} {As rest : List Value} {g : JFrame}
theorem vx_callBack (cb : CallB R s args own index y bytes maxL ret ws rm mc ms n) (hM : vx_Met l y ws rm Pc Qc XC mc ms free) (hbl : FrameBlind Pc) : vx_Back l R p e below s args y 3 8 (PreOf R mc ms Pc) (PostOf Qc mc ms free) (vx_Post XC mc ms free) := by
  obtain ⟨hrc, hrs, hfr, hlo, hws, hcw, -, hini, -⟩ := cb
  exact vx_back (bytes := bytes) (maxL := maxL) (ret := ret) hM hbl hrc hrs hfr hlo hws hcw (fun a' U hW => word_at hW (Or.inl (by first | rfl | simp [Cond.onTables, Cond.keeps, Cond.steady])) hini)
theorem vx_runV (S : CallFix p m c cc nL s args Ts own) (hM : vx_Met l y ws rm Pc Qc XC mc ms free) (cw : CallW R s args own C index y bytes maxL ret ws rm mc ms n) (hp : PreV s H C b Pc As)
    (hg : g.method = m) (hn : As.length = n) (hsize : g.locals.size = nL) (hstack : g.stack = As.reverse ++ .ref b :: rest) (hW : 2 * g.monitorRoom + (rest.map fun v => v.category).sum ≤ 8) (hdg : decode cc g.pc = .ok (.invokevirtual index, 3)) (hf : cells + mc ≤ R.cells ∧ slots + ms ≤ R.slots) :
    vx_Run p l e R s m args below meth c H locs cells slots mc ms g rest (Qc (Value.ref b :: As).toArray) XC free := by
  have hK : vx_Back l R p e below s args y 3 8 (PreOf R mc ms Pc) (PostOf Qc mc ms free) (vx_Post XC mc ms free) := vx_callBack cw.1 hM hp.1
  obtain ⟨⟨-, -, -, -, -, -, hcode, -, hy, hlen, hl⟩, hin, hse⟩ := cw
  obtain ⟨hx, hb, hml, ho, -⟩ := S
  obtain ⟨-, ⟨cellB, hcB, hoB, hclB⟩, hPc⟩ := hp
  intro T hT X
  rcases vx_callV X hx (C := C) (bytes := bytes) (maxL := maxL) (ret := ret) ho hl hin hse hcode hy hK (by rw [hT]; exact hcB) hoB hclB hg (hsize.trans hml.symm) (argsL := As) (rest := rest) (fun sig h => hn.trans (hlen sig h)) hstack hW (by rw [hb]; exact hdg)
    (fun vm₁ hW₁ => ⟨hf.1, hf.2, hPc (T.setVm vm₁) hT hW₁⟩) with ⟨v, vm₁, ⟨U', l2, c2, s2⟩, hW₁, X', ⟨g', mk, t, L, e1, e2, hq, h1, hL, h2, h3⟩, st⟩ | ⟨q, vm₁, ⟨U', l2, c2, s2⟩, hW₁, X', ⟨g', mk, t, L, E, ce, e1, e2, hq, hce, hcv, hcl, h1, hL, h2, h3⟩, st⟩
  · dsimp only [Pt.U, Pt.locs, Pt.cells, Pt.slots] at X' e1 e2 h1 h2 h3 st
    subst h1; subst h2; subst h3
    exact Or.inl ⟨v, (T.setVm vm₁).calling g' mk (Value.ref b :: As).toArray, t, U', L, hT, X', hL, e1, e2, hq, st⟩
  · dsimp only [Pt.U, Pt.locs, Pt.cells, Pt.slots] at X' e1 e2 h1 h2 h3 st hcl
    subst h1; subst h2; subst h3
    exact Or.inr ⟨q, (T.setVm vm₁).calling g' mk (Value.ref b :: As).toArray, t, U', L, E, ce, hT, X', hL, e1, e2, hq, hce, hcv, vx_cls hW₁ hcl, st⟩
theorem vx_runS (S : CallFix p m c cc nL s args Ts own) (hM : vx_Met l y ws rm Pc Qc XC mc ms free) (cw : CallB R s args own index y bytes maxL ret ws rm mc ms n ∧ (Cond.static y).before args s = true) (hp : PreS s H Pc As)
    (hg : g.method = m) (hn : As.length = n) (hsize : g.locals.size = nL) (hstack : g.stack = As.reverse ++ rest) (hW : 2 * g.monitorRoom + (rest.map fun v => v.category).sum ≤ 8) (hdg : decode cc g.pc = .ok (.invokestatic index, 3)) (hf : cells + mc ≤ R.cells ∧ slots + ms ≤ R.slots) :
    vx_Run p l e R s m args below meth c H locs cells slots mc ms g rest (Qc As.toArray) XC free := by
  have hK : vx_Back l R p e below s args y 3 8 (PreOf R mc ms Pc) (PostOf Qc mc ms free) (vx_Post XC mc ms free) := vx_callBack cw.1 hM hp.1
  obtain ⟨⟨-, -, -, -, -, -, hcode, hini, hy, hlen, hl⟩, hstt⟩ := cw
  obtain ⟨hx, hb, hml, ho, -⟩ := S
  intro T hT X
  rcases vx_callS X hx (bytes := bytes) (maxL := maxL) (ret := ret) ho hl hstt hini hcode hy hK hg (hsize.trans hml.symm) (argsL := As) (rest := rest) (fun sig h => hn.trans (hlen sig h)) hstack hW (by rw [hb]; exact hdg)
    (fun vm₁ hW₁ => ⟨hf.1, hf.2, hp.2 (T.setVm vm₁) hT hW₁⟩) with ⟨v, vm₁, ⟨U', l2, c2, s2⟩, hW₁, X', ⟨g', mk, t, L, e1, e2, hq, h1, hL, h2, h3⟩, st⟩ | ⟨q, vm₁, ⟨U', l2, c2, s2⟩, hW₁, X', ⟨g', mk, t, L, E, ce, e1, e2, hq, hce, hcv, hcl, h1, hL, h2, h3⟩, st⟩
  · dsimp only [Pt.U, Pt.locs, Pt.cells, Pt.slots] at X' e1 e2 h1 h2 h3 st
    subst h1; subst h2; subst h3
    exact Or.inl ⟨v, (T.setVm vm₁).calling g' mk As.toArray, t, U', L, hT, X', hL, e1, e2, hq, st⟩
  · dsimp only [Pt.U, Pt.locs, Pt.cells, Pt.slots] at X' e1 e2 h1 h2 h3 st hcl
    subst h1; subst h2; subst h3
    exact Or.inr ⟨q, (T.setVm vm₁).calling g' mk As.toArray, t, U', L, E, ce, hT, X', hL, e1, e2, hq, hce, hcv, vx_cls hW₁ hcl, st⟩
end Runs
section Rows
variable {p : Program} {l : Launch} {e : Env} {R : Room} {s : State} {m : MethodId} {args : Array Value} {below : List Frame} {meth : Method} {c : Code} {H : Heap} {locs : List Loc} {cells slots : Nat} {Q : State → Prop}
variable {mc ms : Nat} {free : Addr → Prop} {A0 A1 : Nat → Prop} {H0 : Heap} {a : Array Value} {pc : Nat} {ls : Array Slot} {st0 rest : List Value}
theorem vx_keep {st₀ t T' : State} {L : List Loc} (h0 : st₀.heap = H) (e1 : T'.heap = t.heap) (hS : va_S A0 H0 H locs) (hA : ∀ q, q < H.size → A1 q → A0 q) (hf : ∀ q, free q → A0 q) (hL : ∀ q ∈ L, free q.base) (hF : va_F A1 st₀ t) :
    H.size ≤ T'.heap.size ∧ (∀ q : Nat, q < H.size → ¬ A1 q → T'.heap[q]? = H[q]?) ∧ va_S A0 H0 T'.heap (locs ++ L) := by
  obtain ⟨hz, hk⟩ := hF
  rw [h0] at hz hk
  exact ⟨by rw [e1]; exact hz, fun q h1 h2 => by rw [e1]; exact hk q h1 h2,
    ⟨Nat.le_trans hS.1 (by rw [e1]; exact hz), fun q h1 h2 => by rw [e1, hk q (Nat.lt_of_lt_of_le h1 hS.1) (fun z => h2 (hA q (Nat.lt_of_lt_of_le h1 hS.1) z))]; exact hS.2.1 q h1 h2, fun q hq => by
      rcases List.mem_append.mp hq with h | h
      · exact hS.2.2 q h
      · exact hf _ (hL q h)⟩⟩
theorem vx_calli {S SX : Type} {post : Int32 → S → Prop} {px : SX → Prop} {B : S → State → Prop} {BX : String → SX → State → Prop} {AX : Nat → Prop} (hr : vx_Run p l e R s m args below meth c H locs cells slots mc ms (F0 m pc ls st0) rest (va_Qi post B A1 a) (vx_X px BX AX) free) (hS : va_S A0 H0 H locs) (hA : ∀ q, q < H.size → A1 q → A0 q) (hf : ∀ q, free q → A0 q) (hAX : ∀ q, q < H.size → AX q → A0 q)
    (kx : ∀ (E : String) (ce : Cell) (q9 : Addr) (u : SX) (t : State) (H1 : Heap) (locs1 : List Loc), t.heap = H1 → s.vm.Alike t.vm → px u → BX E u t → H.size ≤ H1.size → (∀ q : Nat, q < H.size → ¬ AX q → H1[q]? = H[q]?) → va_S A0 H0 H1 locs1 → H1[q9]? = some ce → ce.vm = .none → s.vm.findClass E = some ce.cls → vx_W p l e R s m args below meth c H1 locs1 (cells + mc) (slots + ms) Q (F0 m pc ls rest) q9)
    (kk : ∀ (r : Int32) (u : S) (t : State) (H1 : Heap) (locs1 : List Loc), t.heap = H1 → s.vm.Alike t.vm → post r u → B u t → H.size ≤ H1.size → (∀ q : Nat, q < H.size → ¬ A1 q → H1[q]? = H[q]?) → va_S A0 H0 H1 locs1 → W p l e R s m args below meth c H1 locs1 (cells + mc) (slots + ms) Q (F0 m (pc + 3) ls (.int r :: rest))) : W p l e R s m args below meth c H locs cells slots Q (F0 m pc ls st0) := by
  intro T hT X
  rcases hr T hT X with ⟨v, st₀, t, T', L, h0, X', hL, e1, e2, ⟨⟨r, u, hv, hp, hb⟩, hF⟩, st⟩ | ⟨q, st₀, t, T', L, E, ce, h0, X', hL, e1, e2, ⟨u, hp, hb, hF⟩, hce, hcv, hcl, st⟩
  · cases hv
    obtain ⟨k1, k2, k3⟩ := vx_keep h0 e1 hS hA hf hL hF
    obtain ⟨t2, a1, b1⟩ := kk r u t T'.heap (locs ++ L) e1.symm (by rw [← e2]; exact X'.warmed.alike) hp hb k1 k2 k3 T' rfl X'
    exact ⟨t2, st t2 a1, b1⟩
  · obtain ⟨k1, k2, k3⟩ := vx_keep h0 e1 hS hAX hf hL hF
    obtain ⟨t2, a1, b1⟩ := kx E ce q u t T'.heap (locs ++ L) e1.symm (by rw [← e2]; exact X'.warmed.alike) hp hb k1 k2 k3 (by rw [e1]; exact hce) hcv hcl T' rfl X'
    exact ⟨t2, st.trans a1, b1⟩
theorem vx_calll {S SX : Type} {post : Int64 → S → Prop} {px : SX → Prop} {B : S → State → Prop} {BX : String → SX → State → Prop} {AX : Nat → Prop} (hr : vx_Run p l e R s m args below meth c H locs cells slots mc ms (F0 m pc ls st0) rest (va_Ql post B A1 a) (vx_X px BX AX) free) (hS : va_S A0 H0 H locs) (hA : ∀ q, q < H.size → A1 q → A0 q) (hf : ∀ q, free q → A0 q) (hAX : ∀ q, q < H.size → AX q → A0 q)
    (kx : ∀ (E : String) (ce : Cell) (q9 : Addr) (u : SX) (t : State) (H1 : Heap) (locs1 : List Loc), t.heap = H1 → s.vm.Alike t.vm → px u → BX E u t → H.size ≤ H1.size → (∀ q : Nat, q < H.size → ¬ AX q → H1[q]? = H[q]?) → va_S A0 H0 H1 locs1 → H1[q9]? = some ce → ce.vm = .none → s.vm.findClass E = some ce.cls → vx_W p l e R s m args below meth c H1 locs1 (cells + mc) (slots + ms) Q (F0 m pc ls rest) q9)
    (kk : ∀ (r : Int64) (u : S) (t : State) (H1 : Heap) (locs1 : List Loc), t.heap = H1 → s.vm.Alike t.vm → post r u → B u t → H.size ≤ H1.size → (∀ q : Nat, q < H.size → ¬ A1 q → H1[q]? = H[q]?) → va_S A0 H0 H1 locs1 → W p l e R s m args below meth c H1 locs1 (cells + mc) (slots + ms) Q (F0 m (pc + 3) ls (.long r :: rest))) : W p l e R s m args below meth c H locs cells slots Q (F0 m pc ls st0) := by
  intro T hT X
  rcases hr T hT X with ⟨v, st₀, t, T', L, h0, X', hL, e1, e2, ⟨⟨r, u, hv, hp, hb⟩, hF⟩, st⟩ | ⟨q, st₀, t, T', L, E, ce, h0, X', hL, e1, e2, ⟨u, hp, hb, hF⟩, hce, hcv, hcl, st⟩
  · cases hv
    obtain ⟨k1, k2, k3⟩ := vx_keep h0 e1 hS hA hf hL hF
    obtain ⟨t2, a1, b1⟩ := kk r u t T'.heap (locs ++ L) e1.symm (by rw [← e2]; exact X'.warmed.alike) hp hb k1 k2 k3 T' rfl X'
    exact ⟨t2, st t2 a1, b1⟩
  · obtain ⟨k1, k2, k3⟩ := vx_keep h0 e1 hS hAX hf hL hF
    obtain ⟨t2, a1, b1⟩ := kx E ce q u t T'.heap (locs ++ L) e1.symm (by rw [← e2]; exact X'.warmed.alike) hp hb k1 k2 k3 (by rw [e1]; exact hce) hcv hcl T' rfl X'
    exact ⟨t2, st.trans a1, b1⟩
theorem vx_callf {S SX : Type} {post : UInt32 → S → Prop} {px : SX → Prop} {B : S → State → Prop} {BX : String → SX → State → Prop} {AX : Nat → Prop} (hr : vx_Run p l e R s m args below meth c H locs cells slots mc ms (F0 m pc ls st0) rest (va_Qf post B A1 a) (vx_X px BX AX) free) (hS : va_S A0 H0 H locs) (hA : ∀ q, q < H.size → A1 q → A0 q) (hf : ∀ q, free q → A0 q) (hAX : ∀ q, q < H.size → AX q → A0 q)
    (kx : ∀ (E : String) (ce : Cell) (q9 : Addr) (u : SX) (t : State) (H1 : Heap) (locs1 : List Loc), t.heap = H1 → s.vm.Alike t.vm → px u → BX E u t → H.size ≤ H1.size → (∀ q : Nat, q < H.size → ¬ AX q → H1[q]? = H[q]?) → va_S A0 H0 H1 locs1 → H1[q9]? = some ce → ce.vm = .none → s.vm.findClass E = some ce.cls → vx_W p l e R s m args below meth c H1 locs1 (cells + mc) (slots + ms) Q (F0 m pc ls rest) q9)
    (kk : ∀ (r : UInt32) (u : S) (t : State) (H1 : Heap) (locs1 : List Loc), t.heap = H1 → s.vm.Alike t.vm → post r u → B u t → H.size ≤ H1.size → (∀ q : Nat, q < H.size → ¬ A1 q → H1[q]? = H[q]?) → va_S A0 H0 H1 locs1 → W p l e R s m args below meth c H1 locs1 (cells + mc) (slots + ms) Q (F0 m (pc + 3) ls (.float r :: rest))) : W p l e R s m args below meth c H locs cells slots Q (F0 m pc ls st0) := by
  intro T hT X
  rcases hr T hT X with ⟨v, st₀, t, T', L, h0, X', hL, e1, e2, ⟨⟨r, u, hv, hp, hb⟩, hF⟩, st⟩ | ⟨q, st₀, t, T', L, E, ce, h0, X', hL, e1, e2, ⟨u, hp, hb, hF⟩, hce, hcv, hcl, st⟩
  · cases hv
    obtain ⟨k1, k2, k3⟩ := vx_keep h0 e1 hS hA hf hL hF
    obtain ⟨t2, a1, b1⟩ := kk r u t T'.heap (locs ++ L) e1.symm (by rw [← e2]; exact X'.warmed.alike) hp hb k1 k2 k3 T' rfl X'
    exact ⟨t2, st t2 a1, b1⟩
  · obtain ⟨k1, k2, k3⟩ := vx_keep h0 e1 hS hAX hf hL hF
    obtain ⟨t2, a1, b1⟩ := kx E ce q u t T'.heap (locs ++ L) e1.symm (by rw [← e2]; exact X'.warmed.alike) hp hb k1 k2 k3 (by rw [e1]; exact hce) hcv hcl T' rfl X'
    exact ⟨t2, st.trans a1, b1⟩
theorem vx_calld {S SX : Type} {post : UInt64 → S → Prop} {px : SX → Prop} {B : S → State → Prop} {BX : String → SX → State → Prop} {AX : Nat → Prop} (hr : vx_Run p l e R s m args below meth c H locs cells slots mc ms (F0 m pc ls st0) rest (va_Qd post B A1 a) (vx_X px BX AX) free) (hS : va_S A0 H0 H locs) (hA : ∀ q, q < H.size → A1 q → A0 q) (hf : ∀ q, free q → A0 q) (hAX : ∀ q, q < H.size → AX q → A0 q)
    (kx : ∀ (E : String) (ce : Cell) (q9 : Addr) (u : SX) (t : State) (H1 : Heap) (locs1 : List Loc), t.heap = H1 → s.vm.Alike t.vm → px u → BX E u t → H.size ≤ H1.size → (∀ q : Nat, q < H.size → ¬ AX q → H1[q]? = H[q]?) → va_S A0 H0 H1 locs1 → H1[q9]? = some ce → ce.vm = .none → s.vm.findClass E = some ce.cls → vx_W p l e R s m args below meth c H1 locs1 (cells + mc) (slots + ms) Q (F0 m pc ls rest) q9)
    (kk : ∀ (r : UInt64) (u : S) (t : State) (H1 : Heap) (locs1 : List Loc), t.heap = H1 → s.vm.Alike t.vm → post r u → B u t → H.size ≤ H1.size → (∀ q : Nat, q < H.size → ¬ A1 q → H1[q]? = H[q]?) → va_S A0 H0 H1 locs1 → W p l e R s m args below meth c H1 locs1 (cells + mc) (slots + ms) Q (F0 m (pc + 3) ls (.double r :: rest))) : W p l e R s m args below meth c H locs cells slots Q (F0 m pc ls st0) := by
  intro T hT X
  rcases hr T hT X with ⟨v, st₀, t, T', L, h0, X', hL, e1, e2, ⟨⟨r, u, hv, hp, hb⟩, hF⟩, st⟩ | ⟨q, st₀, t, T', L, E, ce, h0, X', hL, e1, e2, ⟨u, hp, hb, hF⟩, hce, hcv, hcl, st⟩
  · cases hv
    obtain ⟨k1, k2, k3⟩ := vx_keep h0 e1 hS hA hf hL hF
    obtain ⟨t2, a1, b1⟩ := kk r u t T'.heap (locs ++ L) e1.symm (by rw [← e2]; exact X'.warmed.alike) hp hb k1 k2 k3 T' rfl X'
    exact ⟨t2, st t2 a1, b1⟩
  · obtain ⟨k1, k2, k3⟩ := vx_keep h0 e1 hS hAX hf hL hF
    obtain ⟨t2, a1, b1⟩ := kx E ce q u t T'.heap (locs ++ L) e1.symm (by rw [← e2]; exact X'.warmed.alike) hp hb k1 k2 k3 (by rw [e1]; exact hce) hcv hcl T' rfl X'
    exact ⟨t2, st.trans a1, b1⟩
theorem vx_callv {S SX : Type} {post : S → Prop} {px : SX → Prop} {B : S → State → Prop} {BX : String → SX → State → Prop} {AX : Nat → Prop} (hr : vx_Run p l e R s m args below meth c H locs cells slots mc ms (F0 m pc ls st0) rest (va_Qv post B A1 a) (vx_X px BX AX) free) (hS : va_S A0 H0 H locs) (hA : ∀ q, q < H.size → A1 q → A0 q) (hf : ∀ q, free q → A0 q) (hAX : ∀ q, q < H.size → AX q → A0 q)
    (kx : ∀ (E : String) (ce : Cell) (q9 : Addr) (u : SX) (t : State) (H1 : Heap) (locs1 : List Loc), t.heap = H1 → s.vm.Alike t.vm → px u → BX E u t → H.size ≤ H1.size → (∀ q : Nat, q < H.size → ¬ AX q → H1[q]? = H[q]?) → va_S A0 H0 H1 locs1 → H1[q9]? = some ce → ce.vm = .none → s.vm.findClass E = some ce.cls → vx_W p l e R s m args below meth c H1 locs1 (cells + mc) (slots + ms) Q (F0 m pc ls rest) q9)
    (kk : ∀ (u : S) (t : State) (H1 : Heap) (locs1 : List Loc), t.heap = H1 → s.vm.Alike t.vm → post u → B u t → H.size ≤ H1.size → (∀ q : Nat, q < H.size → ¬ A1 q → H1[q]? = H[q]?) → va_S A0 H0 H1 locs1 → W p l e R s m args below meth c H1 locs1 (cells + mc) (slots + ms) Q (F0 m (pc + 3) ls (rest))) : W p l e R s m args below meth c H locs cells slots Q (F0 m pc ls st0) := by
  intro T hT X
  rcases hr T hT X with ⟨v, st₀, t, T', L, h0, X', hL, e1, e2, ⟨⟨u, hv, hp, hb⟩, hF⟩, st⟩ | ⟨q, st₀, t, T', L, E, ce, h0, X', hL, e1, e2, ⟨u, hp, hb, hF⟩, hce, hcv, hcl, st⟩
  · cases hv
    obtain ⟨k1, k2, k3⟩ := vx_keep h0 e1 hS hA hf hL hF
    obtain ⟨t2, a1, b1⟩ := kk u t T'.heap (locs ++ L) e1.symm (by rw [← e2]; exact X'.warmed.alike) hp hb k1 k2 k3 T' rfl X'
    exact ⟨t2, st t2 a1, b1⟩
  · obtain ⟨k1, k2, k3⟩ := vx_keep h0 e1 hS hAX hf hL hF
    obtain ⟨t2, a1, b1⟩ := kx E ce q u t T'.heap (locs ++ L) e1.symm (by rw [← e2]; exact X'.warmed.alike) hp hb k1 k2 k3 (by rw [e1]; exact hce) hcv hcl T' rfl X'
    exact ⟨t2, st.trans a1, b1⟩
/-- caught by the row x of this method's table; the rows ahead don't take it -/
theorem vx_catch {own name : String} {E : String} {ce : Cell} {q : Addr} (hown : s.vm.findClass own = some m.cls) (pre : List ExceptionTableEntry) (x : ExceptionTableEntry) (suf : List ExceptionTableEntry) (hsplit : c.exceptionTable.toList = pre ++ x :: suf)
    (hpass : ∀ z ∈ pre, covers z pc = false ∨ (z.catchType ≠ 0 ∧ ∃ nm : String, (Cond.classLink own z.catchType nm).before args s = true ∧ va_Nc E nm s)) (hx : covers x pc = true) (h0 : x.catchType ≠ 0)
    (hlink : (Cond.classLink own x.catchType name).before args s = true) (hcast : (Cond.castable E name).before args s = true) (hcell : H[q]? = some ce) (hv : ce.vm = .none) (hcl : s.vm.findClass E = some ce.cls)
    (kk : W p l e R s m args below meth c H locs cells slots Q (F0 m x.handlerPc ls [.ref q])) : vx_W p l e R s m args below meth c H locs cells slots Q (F0 m pc ls rest) q := by
  intro T hT X
  have hpl : e.platform.magicAccessors = ({} : Platform).magicAccessors := by rw [X.admits.platform]
  obtain ⟨c3, c4, hc3, hc4, hasg⟩ := Cond.castable_spec hcast
  cases Option.some.inj (hc3.symm.trans hcl)
  obtain ⟨c5, hc5, hcl5⟩ := Cond.classLink_spec hown hlink e.platform hpl
  cases Option.some.inj (hc4.symm.trans hc5)
  obtain ⟨vm', X', st⟩ := X.thenCaughtThrough q (g := F0 m pc ls rest) rfl (Steps.refl _) (by rw [hT]; exact hcell) (by rw [hv]; rfl) (by obtain ⟨k9, h9, -⟩ := Vm.findClass_spec hcl; exact ⟨k9, h9⟩) pre x suf hsplit
    (fun z hz => by
      rcases hpass z hz with h | ⟨hz0, nm, hl1, hn1⟩
      · exact Or.inl h
      · obtain ⟨c6, hc6, hcl6⟩ := Cond.classLink_spec hown hl1 e.platform hpl
        obtain ⟨a8, b8, h1, h2, h3⟩ := hn1
        cases Option.some.inj (h1.symm.trans hcl)
        cases Option.some.inj (h2.symm.trans hc6)
        exact Or.inr ⟨hz0, _, hcl6, h3⟩) hx (Or.inr ⟨h0, c4, hcl5, hasg⟩)
  obtain ⟨t, a1, b1⟩ := kk (T.setVm vm') hT X'
  exact ⟨t, st.trans a1, b1⟩
end Rows
section Ends
variable {p : Program} {l : Launch} {e : Env} {R : Room} {s : State} {m : MethodId} {args : Array Value} {below : List Frame} {meth : Method} {c : Code} {H : Heap} {locs : List Loc} {cells slots : Nat} {Q : State → Prop}
variable {mc ms : Nat} {free : Addr → Prop} {A0 A1 : Nat → Prop} {H0 : Heap} {a : Array Value} {ls : Array Slot} {st0 rest : List Value}
variable {Qc : Array Value → State → Outcome → State → Prop} {XC : String → State → State → Prop}
/-- what a body that may throw owes at its end -/
def vx_MQ (below : List Frame) (Qc : Array Value → State → Outcome → State → Prop) (XC : String → State → State → Prop) (a : Array Value) (s : State) (mc ms : Nat) (free : Addr → Prop) : State → Prop := fun t =>
  ∃ o, t.status = .running ∧ Ended t below o ∧ vx_Q Qc XC mc ms free a s o t
theorem vx_ret {g : JFrame} {mc ms : Nat} (k : W p l e R s m args below meth c H locs cells slots (MQ below Qc args s mc ms free) g) : W p l e R s m args below meth c H locs cells slots (vx_MQ below Qc XC args s mc ms free) g := by
  intro T hT X
  obtain ⟨t, a1, o, b1, b2, b3, b4⟩ := k T hT X
  exact ⟨t, a1, o, b1, b2, Or.inl ⟨b3, b4⟩⟩
/-- not caught here: it goes on to the caller -/
theorem vx_widen {g : JFrame} {q : Addr} {k n : Nat} (h1 : cells ≤ k) (h2 : slots ≤ n) (kk : vx_W p l e R s m args below meth c H locs k n Q g q) : vx_W p l e R s m args below meth c H locs cells slots Q g q := fun T hT X => kk T hT (stand_widen X h1 h2)
theorem vx_out {pc : Nat} {E : String} {ce : Cell} {q : Addr} {mc ms : Nat} (hout : ∀ x ∈ c.exceptionTable.toList, covers x pc = false) (hlocks : meth.locks = false) (hcell : H[q]? = some ce) (hv : ce.vm = .none) (hcl : s.vm.findClass E = some ce.cls)
    (hx : ∀ t : State, t.heap = H → s.vm.Alike t.vm → XC E s t) (hf : ∀ z ∈ locs, free z.base) (hc : cells ≤ mc) (hs : slots ≤ ms) :
    vx_W p l e R s m args below meth c H locs cells slots (vx_MQ below Qc XC args s mc ms free) (F0 m pc ls rest) q := by
  intro T hT X
  obtain ⟨st1, hrun, hend, hW, hsm⟩ := X.leaveThrown q (g := F0 m pc ls rest) rfl rfl rfl hout hlocks
  have hcell9 : (T.setFrames (.throwing q :: below)).heap[q]? = some ce := by
    show T.heap[q]? = some ce
    rw [hT]; exact hcell
  exact ⟨_, st1, .threw q, hrun, hend, Or.inr ⟨q, rfl, E, ce, locs, hx _ hT hW.alike, hcell9, hv, hcl, hW, hsm.mono hc hs, hf⟩⟩
theorem vx_frame {U : State} {k n : Nat} (h : s.sameButNew ({ U with vm := s.vm } : State) locs k n) : s.heap.size ≤ U.heap.size ∧ ∀ q : Nat, q < s.heap.size → (∀ z ∈ locs, z.base ≠ q) → U.heap[q]? = s.heap[q]? := by
  obtain ⟨-, h2, -, -, -, h6⟩ := h
  refine ⟨h2, fun q hq hz => ?_⟩
  obtain ⟨c9, e1, e2, e3, e4⟩ := h6 q _ (Array.getElem?_eq_getElem hq)
  have hs : c9.slots = (s.heap[q]).slots := Array.ext_getElem? fun i => e4 i fun hm => hz _ hm rfl
  have h9 : c9 = s.heap[q] := by
    rw [hs] at e2
    exact e2
  have e5 : U.heap[q]? = some c9 := e1
  rw [e5, h9, Array.getElem?_eq_getElem hq]
/-- the words of a throw but the four that speak of the heap -/
def vx_no (w : Cond) : Bool := decide (w ≠ .isRef (.static Bundle.tN "UNASSIGNED_STACK" Bundle.steD)) && decide (w ≠ .isRef (.static Bundle.tN "SUPPRESSED_SENTINEL" Bundle.listD)) && decide (w ≠ .laysStatic Bundle.tN "UNASSIGNED_STACK" Bundle.steD) && decide (w ≠ .laysStatic Bundle.tN "SUPPRESSED_SENTINEL" Bundle.listD)
def vx_at0 (own : String) (ic : Nat) (X : String) (names : List String) : List Cond := (Bundle.ownAtoms0 own ic X names).filter vx_no
def vx_atS (own : String) (ic : Nat) (X : String) (names : List String) : List Cond := (Bundle.ownAtoms own ic X names).filter vx_no
/-- a word that the tables alone decide, or a good one -/
def vx_ot (w : Cond) : Bool := w.onTables || goodWord w
theorem vx_ot_at {args a' : Array Value} {s U : State} {w : Cond} (hW : s.WarmedH U.vm) (hvm : s.vm = U.vm) (hg : vx_ot w = true) (h : w.before args s = true) : w.before a' U = true := by
  simp only [vx_ot, Bool.or_eq_true] at hg
  rcases hg with hg | hg
  · exact va_tabs hg hvm h
  · exact word_at hW (good_of_word hg) h
/-- a list's words: the good ones out of the method's own list, the others by premises of their own -/
theorem vx_hat {args : Array Value} {s : State} {L B : List Cond} (h1 : ∀ w ∈ L.filter goodWord, w.before args s = true) (h2 : ∀ w ∈ L.filter (fun w => !goodWord w), w ∈ B) (h3 : ∀ w ∈ B, w.before args s = true) : ∀ w ∈ L, w.before args s = true := by
  intro w hw
  by_cases g : goodWord w = true
  · exact h1 w (List.mem_filter.mpr ⟨hw, g⟩)
  · refine h3 w (h2 w (List.mem_filter.mpr ⟨hw, ?_⟩))
    show (!goodWord w) = true
    cases hgw : goodWord w
    · rfl
    · exact absurd hgw g
theorem vx_c {args : Array Value} {s : State} {w : Cond} {B : List Cond} (h : w.before args s = true) (t : ∀ w ∈ B, w.before args s = true) : ∀ w' ∈ w :: B, w'.before args s = true := fun w' h' => (List.mem_cons.mp h').elim (fun e => by rw [e]; exact h) (t w')
theorem vx_n {args : Array Value} {s : State} : ∀ w ∈ ([] : List Cond), w.before args s = true := fun _ h => nomatch h
theorem vx_own {args : Array Value} {s : State} {L : List Cond} (h1 : ∀ w ∈ L.filter vx_no, w.before args s = true)
    (hU : (Cond.isRef (.static Bundle.tN "UNASSIGNED_STACK" Bundle.steD)).before args s = true) (hN : (Cond.isRef (.static Bundle.tN "SUPPRESSED_SENTINEL" Bundle.listD)).before args s = true)
    (lU : (Cond.laysStatic Bundle.tN "UNASSIGNED_STACK" Bundle.steD).before args s = true) (lN : (Cond.laysStatic Bundle.tN "SUPPRESSED_SENTINEL" Bundle.listD).before args s = true) : ∀ w ∈ L, w.before args s = true := by
  intro w hw
  by_cases e1 : w = .isRef (.static Bundle.tN "UNASSIGNED_STACK" Bundle.steD)
  · rw [e1]; exact hU
  · by_cases e2 : w = .isRef (.static Bundle.tN "SUPPRESSED_SENTINEL" Bundle.listD)
    · rw [e2]; exact hN
    · by_cases e3 : w = .laysStatic Bundle.tN "UNASSIGNED_STACK" Bundle.steD
      · rw [e3]; exact lU
      · by_cases e4 : w = .laysStatic Bundle.tN "SUPPRESSED_SENTINEL" Bundle.listD
        · rw [e4]; exact lN
        · exact h1 w (List.mem_filter.mpr ⟨hw, by unfold vx_no; rw [decide_eq_true e1, decide_eq_true e2, decide_eq_true e3, decide_eq_true e4]; rfl⟩)
/-- where a static field lies, its class's statics cell in H -/
def vx_L (C n d : String) (A : Nat → Prop) (U : State) (H : Heap) : Prop := ∃ (c : ClassId) (k : Class) (i : Nat) (f : Field) (a : Nat) (cell : Cell), U.vm.findClass C = some c ∧ U.fieldFound? C n d = some (c, k, i, f) ∧ f.isStatic = true ∧ k.statics = some a ∧ H[a]? = some cell ∧ cell.vm.isStatics = true ∧ cell.cls = c ∧ f.slot < cell.slots.size ∧ k.staticTypes[f.slot]? = some f.type ∧ ¬ A a
theorem vx_L.moved {C n d : String} {A : Nat → Prop} {u U : State} {H : Heap} (hvm : u.vm.Alike U.vm) (h : vx_L C n d A u H) : vx_L C n d A U H := by
  obtain ⟨c, k, i, f, a, cell, h1, h2, h3, h4, h5, h6, h7, h8, h9, h10⟩ := h
  obtain ⟨k', hi', he⟩ := State.fieldFound?_setVm hvm h2
  exact ⟨c, k', i, f, a, cell, by rw [hvm.findClass]; exact h1, hi', h3, by rw [he]; exact h4, h5, h6, h7, h8, by rw [he]; exact h9, h10⟩
theorem vx_L.kept {C n d : String} {A : Nat → Prop} {U : State} {H H1 : Heap} (h : vx_L C n d A U H) (hq : ∀ a : Nat, a < H.size → ¬ A a → H1[a]? = H[a]?) : vx_L C n d A U H1 := by
  obtain ⟨c, k, i, f, a, cell, h1, h2, h3, h4, h5, h6, h7, h8, h9, h10⟩ := h
  exact ⟨c, k, i, f, a, cell, h1, h2, h3, h4, by rw [hq a (Array.getElem?_eq_some_iff.mp h5).1 h10]; exact h5, h6, h7, h8, h9, h10⟩
theorem vx_L.narrow {C n d : String} {A B : Nat → Prop} {U : State} {H : Heap} (h : vx_L C n d A U H) (hAB : ∀ q, B q → A q) : vx_L C n d B U H := by
  obtain ⟨c, k, i, f, a, cell, h1, h2, h3, h4, h5, h6, h7, h8, h9, h10⟩ := h
  exact ⟨c, k, i, f, a, cell, h1, h2, h3, h4, h5, h6, h7, h8, h9, fun z => h10 (hAB _ z)⟩
theorem vx_L.word {C n d : String} {A : Nat → Prop} {s : State} {args : Array Value} (h : vx_L C n d A s s.heap) : (Cond.laysStatic C n d).before args s = true := by
  obtain ⟨c, k, i, f, a, cell, h1, h2, h3, h4, h5, h6, h7, h8, h9, -⟩ := h
  show (Cond.laysStatic C n d).holds args s none s [] = true
  exact Cond.laysStatic_of h1 h2 h3 h4 h5 h6 h7 h8 h9
/-- .. and what it holds: null or some reference -/
def vx_Zq (C n d : String) (A : Nat → Prop) (U : State) (H : Heap) : Prop := va_Zq C n d A U H ∧ vx_L C n d A U H
theorem vx_Zq.moved {C n d : String} {A : Nat → Prop} {u U : State} {H : Heap} (hvm : u.vm.Alike U.vm) (h : vx_Zq C n d A u H) : vx_Zq C n d A U H := ⟨va_Zq.moved hvm h.1, vx_L.moved hvm h.2⟩
theorem vx_Zq.kept {C n d : String} {A : Nat → Prop} {U : State} {H H1 : Heap} (h : vx_Zq C n d A U H) (hq : ∀ a : Nat, a < H.size → ¬ A a → H1[a]? = H[a]?) : vx_Zq C n d A U H1 := ⟨va_Zq.kept h.1 hq, vx_L.kept h.2 hq⟩
theorem vx_Zq.narrow {C n d : String} {A B : Nat → Prop} {U : State} {H : Heap} (h : vx_Zq C n d A U H) (hAB : ∀ q, B q → A q) : vx_Zq C n d B U H := ⟨va_Zq.narrow h.1 hAB, vx_L.narrow h.2 hAB⟩
theorem vx_Zqof {args : Array Value} {s : State} {C n d : String} {A : Nat → Prop} (hl : (Cond.laysStatic C n d).before args s = true) (hini : (Cond.initialized C).before args s = true) (h : (Cond.isRef (.static C n d)).before args s = true) (hA : ∀ a : Nat, a < s.heap.size → ¬ A a) : vx_Zq C n d A s s.heap := by
  refine ⟨va_Zqof hl hini h hA, ?_⟩
  obtain ⟨c, k, i, f, a, cell, h1, h2, h3, h4, h5, h6, h7, h8, h9⟩ := Cond.laysStatic_spec hl
  exact ⟨c, k, i, f, a, cell, h1, h2, h3, h4, h5, h6, h7, h8, h9, hA a (Array.getElem?_eq_some_iff.mp h5).1⟩
theorem vx_isRef {C n d : String} {v : Value} {A : Nat → Prop} {s : State} {args : Array Value} (h : va_Z C n d v A s s.heap) (hv : v.isRef = true) : (Cond.isRef (.static C n d)).before args s = true := by
  obtain ⟨cf, kf, fi, f, a, cell, h1, h2, h3, h4, h5, h6, h7, -⟩ := h
  have he : (Term.static C n d).eval args s none [] s = some v := by
    simp [Term.eval, State.fieldNamed?, h1, h2, h4, h5, h6, h7]
  simp only [Cond.before, Cond.holds, Cond.value, he]
  cases v <;> simp_all [Value.isRef]
theorem vx_isRefq {C n d : String} {A : Nat → Prop} {s : State} {args : Array Value} (h : va_Zq C n d A s s.heap) : (Cond.isRef (.static C n d)).before args s = true := by
  rcases h with h | ⟨t, h⟩
  · exact vx_isRef h rfl
  · exact vx_isRef h rfl
/-- the same frame, seen from here: as if the method were called anew in this heap -/
theorem vx_rebase {T : State} (X : Stand p l e R s m args below meth c T locs cells slots) {R' : Room} (hf : R'.frames ≤ R.frames) (hl : R'.locals ≤ R.locals) (hc : cells + R'.cells ≤ R.cells) (hs : slots + R'.slots ≤ R.slots) :
    Stand p l e R' ((T.setVm s.vm).setFrames (.invoking m args :: below)) m args below meth c T [] 0 0 := by
  have htop : (T.setVm s.vm).topJava?.isSome := X.here.top
  have hF : ((T.setVm s.vm).setFrames (.invoking m args :: below)).frames = .invoking m args :: below := State.frames_setFrames _ (State.cur_lt_of_top htop)
  obtain ⟨g₀, hg0⟩ := Option.isSome_iff_exists.mp htop
  obtain ⟨r, hr⟩ := State.topJava?_eq_some.mp hg0
  have hl9 : e.platform.stackLimits (T.setVm s.vm).me = e.platform.stackLimits s.me := X.limits
  have hb9 : (T.setVm s.vm).me.stackBytes = s.me.stackBytes := X.bytes
  refine ⟨X.admits, X.cas, X.clock, hF, ?_, X.hears, X.method, X.code, X.here, X.tail, X.warmed, ?_, ?_, ?_⟩
  · have h := X.room
    have hU : ((T.setVm s.vm).setFrames (.invoking m args :: below)).localsInUse = s.localsInUse := by
      rw [State.localsInUse_invoking hF (meth := meth) (c := c) X.method X.code, State.localsInUse_invoking X.frames X.method X.code]
    simp only [State.hasRoom, Bool.and_eq_true, decide_eq_true_eq] at h ⊢
    obtain ⟨⟨⟨⟨h1, h2, h3, h4, h5, h6⟩, h7⟩, h8⟩, h9⟩ := h
    rw [X.frames, List.length_cons] at h2 h3
    have q1 := X.heapSize
    have q2 := X.used
    simp only [hF, hU, List.length_cons, State.stackLimits_setFrames, State.stackBytes_setFrames, hl9, hb9]
    refine ⟨⟨⟨⟨by omega, by omega, by omega, by omega, by omega, h6⟩, ?_⟩, ?_⟩, X.book⟩
    · show T.heap.size + R'.cells ≤ e.platform.maxCells
      omega
    · show T.slotsUsed + R'.slots ≤ e.platform.maxSlots
      omega
  · rw [State.stackLimits_setFrames]; rfl
  · rw [State.stackBytes_setFrames]; rfl
  · refine ⟨?_, Nat.le_refl _, Nat.le_refl _, ?_, ?_, fun a c9 h9 => ⟨c9, h9, rfl, rfl, fun _ _ => rfl⟩⟩
    · obtain ⟨t, ht, -⟩ := State.frames_cons hr
      show T.setVm s.vm = { ((T.setVm s.vm).setFrames (.invoking m args :: below)).setFrames (T.setVm s.vm).frames with heap := T.heap, slotsUsed := T.slotsUsed }
      rw [State.setFrames_setFrames, State.setFrames_self ht]
      rfl
    · show T.slotsUsed = T.slotsUsed + ((T.heap.toList.drop T.heap.size).map (·.slots.size)).sum
      rw [List.drop_eq_nil_of_le (Nat.le_of_eq Array.length_toList)]
      rfl
    · show ((T.heap.toList.drop T.heap.size).map (·.slots.size)).sum ≤ 0
      rw [List.drop_eq_nil_of_le (Nat.le_of_eq Array.length_toList)]
      exact Nat.le_refl _
/-- 'throw new E()': new; dup; invokespecial; athrow -/
theorem vx_throw0 {cc : ByteArray} {pc : Nat} (hexec : p.tables.exec = Jvm.exec) (hb : c.code = cc) (hl : l.stackTraces = false) {own cls : String} {names : List String} {ik ic mc ms : Nat} {A : Nat → Prop}
    (hown : s.vm.findClass own = some m.cls) (hcls : Bundle.fit cls = true) (hnames : ∀ n ∈ names, Bundle.fit n = true)
    (hk : (Cond.classLink own ik cls).before args s = true) (hini : (Cond.initialized cls).before args s = true) (hat : ∀ w ∈ vx_at0 own ic cls names, w.before args s = true)
    (hgood : ∀ w ∈ Cond.classLink own ik cls :: Cond.initialized cls :: vx_at0 own ic cls names, vx_ot w = true)
    (hU : vx_Zq Bundle.tN "UNASSIGNED_STACK" Bundle.steD A s s.heap) (hN : vx_Zq Bundle.tN "SUPPRESSED_SENTINEL" Bundle.listD A s s.heap) (hS : va_S A s.heap H locs) (hsize : ls.size = c.maxLocals)
    (d0 : decode cc pc = .ok (.new ik, 3)) (d3 : decode cc (pc + 3) = .ok (.dup, 1)) (d4 : decode cc (pc + 4) = .ok (.invokespecial ic, 3)) (d7 : decode cc (pc + 7) = .ok (.athrow, 1))
    (hout : ∀ x ∈ c.exceptionTable.toList, covers x (pc + 7) = false)
    (hRframes : names.length + 3 < R.frames) (hRlocals : (rest.map fun v => v.category).sum + (13 * (names.length + 1) + 42) ≤ R.locals) (hRcells : cells + 1 ≤ R.cells) (hRslots : slots + 6 ≤ R.slots) (hlocks : meth.locks = false)
    (hx : ∀ t : State, s.vm.Alike t.vm → H.size ≤ t.heap.size → (∀ q : Nat, q < H.size → t.heap[q]? = H[q]?) → XC cls s t)
    (hf : ∀ z ∈ locs, free z.base) (hc : cells + 1 ≤ mc) (hs : slots + 6 ≤ ms) :
    W p l e R s m args below meth c H locs cells slots (vx_MQ below Qc XC args s mc ms free) (F0 m pc ls rest) := by
  intro T hT X
  have htr : e.platform.stackTraces = false := (show e.platform.stackTraces = l.stackTraces by rw [X.admits.platform]).trans hl
  have Y := vx_rebase X (R' := { frames := R.frames, locals := R.locals, cells := 1, slots := 6 }) (Nat.le_refl _) (Nat.le_refl _) hRcells hRslots
  obtain ⟨s', hA⟩ : ∃ z, z = (T.setVm s.vm).setFrames (.invoking m args :: below) := ⟨_, rfl⟩
  rw [← hA] at Y
  have hvm : s'.vm = s.vm := by rw [hA]; rfl
  have hhp : s'.heap = H := by rw [hA]; exact hT
  have hW0 : s.WarmedH s'.vm := by rw [hvm]; exact State.WarmedH.refl s
  have hat' : ∀ w ∈ vx_at0 own ic cls names, w.before args s' = true := fun w hw => vx_ot_at hW0 hvm.symm (hgood w (List.mem_cons_of_mem _ (List.mem_cons_of_mem _ hw))) (hat w hw)
  have hk' : (Cond.classLink own ik cls).before args s' = true := vx_ot_at hW0 hvm.symm (hgood _ List.mem_cons_self) hk
  have hini' : (Cond.initialized cls).before args s' = true := vx_ot_at hW0 hvm.symm (hgood _ (List.mem_cons_of_mem _ List.mem_cons_self)) hini
  have hU' : vx_Zq Bundle.tN "UNASSIGNED_STACK" Bundle.steD A s' s'.heap := by rw [hhp]; exact vx_Zq.moved hW0.alike (hU.kept hS.2.1)
  have hN' : vx_Zq Bundle.tN "SUPPRESSED_SENTINEL" Bundle.listD A s' s'.heap := by rw [hhp]; exact vx_Zq.moved hW0.alike (hN.kept hS.2.1)
  have h : ∀ w ∈ Bundle.ownAtoms0 own ic cls names, w.before args s' = true := vx_own hat' (vx_isRefq hU'.1) (vx_isRefq hN'.1) hU'.2.word hN'.2.word
  have hown' : s'.vm.findClass own = some m.cls := by rw [hvm]; exact hown
  have hins : (Cond.instantiable cls 6).before args s' = true := h _ (by simp [Bundle.ownAtoms0])
  obtain ⟨vm₁, cX, kX, hfX, hkX, -, -, X₁, st1⟩ := Y.newCold hexec (own := own) (C := cls) (index := ik) (n := 6) hown' hk' hins hini'
    (g := F0 m pc ls rest) rfl (by rw [hb]; exact d0) (Nat.le_refl _) (Nat.le_refl _)
  generalize hT1 : (T.setVm vm₁).pushCell { cls := cX, slots := kX.instanceTypes.map defaultValue, vm := .none } = T1 at X₁ st1
  have hcat : (Value.ref T.heap.size).category = 1 := rfl
  have hcellA : T1.heap[T.heap.size]? = some (freshCell cX kX) := by rw [← hT1]; exact State.heap_pushCell_size _ _
  have d3' : decode c.code (pc + 3) = .ok (.dup, 1) := by rw [hb]; exact d3
  obtain ⟨U, hsteps, hrun, hend, hW, hsame, ce, hce, hO⟩ := X₁.ctorThrow0 hexec htr (own := own) (cls := cls) (names := names) (ic := ic) hown' hcls hnames h (fun x hx => nomatch hx) hfX hkX hcellA (by rw [hhp, hT]; exact Nat.le_refl _)
    (g := { method := m, pc := pc + 4, locals := ls, stack := .ref T.heap.size :: .ref T.heap.size :: rest, locked := none }) rfl hsize rfl rfl (rest := rest) rfl
    (by rw [hb]; exact d4) (by rw [hb]; exact d7) hout hRframes (by simp only [List.map_cons, List.sum_cons, hcat]; omega) hlocks
  obtain ⟨f1, f2⟩ := vx_frame hsame
  rw [hhp] at f1 f2
  have hWs : s.WarmedH U.vm := State.WarmedH.trans hW0 hW
  have hcl : s.vm.findClass cls = some ce.cls := by
    have h9 := hO.cls
    rw [hvm] at h9
    exact h9
  have hall : s.sameButNew ({ U with vm := s.vm } : State) locs mc ms := by
    subst hA
    obtain ⟨e1, e2⟩ := hsame
    rw [State.setFrames_setFrames] at e1
    have h2 : (T.setVm s.vm).sameButNew ({ U with vm := s.vm } : State) [] (0 + 1) (0 + 6) := ⟨e1, e2⟩
    have h3 := X.same.trans h2
    rw [List.append_nil] at h3
    exact h3.mono hc hs
  refine ⟨U, ?_, .threw T.heap.size, hrun, hend, Or.inr ⟨T.heap.size, rfl, cls, ce, locs, hx U hWs.alike f1 (fun q hq => f2 q hq (fun z hz => nomatch hz)), hce, hO.vm, hcl, hWs, hall, hf⟩⟩
  refine st1 _ ?_
  show Steps p.tables e below (T1.setTop { method := m, pc := pc + 3, locals := ls, stack := .ref T.heap.size :: rest, locked := none }) _
  jvm_step X₁.here [X₁.here.top, hexec, d3', Value.category]
  exact hsteps
/-- 'throw new E("text")': new; dup; ldc; invokespecial; athrow -/
theorem vx_throwS {cc : ByteArray} {pc : Nat} (hexec : p.tables.exec = Jvm.exec) (hb : c.code = cc) (hl : l.stackTraces = false) {own cls text : String} {names : List String} {ik is ic mc ms sa : Nat} {A : Nat → Prop}
    (hown : s.vm.findClass own = some m.cls) (hcls : Bundle.fit cls = true) (hnames : ∀ n ∈ names, Bundle.fit n = true)
    (hk : (Cond.classLink own ik cls).before args s = true) (hini : (Cond.initialized cls).before args s = true) (hstr : vk_R own is text sa s) (hat : ∀ w ∈ vx_atS own ic cls names, w.before args s = true)
    (hgood : ∀ w ∈ Cond.classLink own ik cls :: Cond.initialized cls :: vx_atS own ic cls names, vx_ot w = true)
    (hU : vx_Zq Bundle.tN "UNASSIGNED_STACK" Bundle.steD A s s.heap) (hN : vx_Zq Bundle.tN "SUPPRESSED_SENTINEL" Bundle.listD A s s.heap) (hS : va_S A s.heap H locs) (hsize : ls.size = c.maxLocals)
    (d0 : decode cc pc = .ok (.new ik, 3)) (d3 : decode cc (pc + 3) = .ok (.dup, 1)) (d4 : decode cc (pc + 4) = .ok (.ldc is, 2)) (d6 : decode cc (pc + 6) = .ok (.invokespecial ic, 3)) (d9 : decode cc (pc + 9) = .ok (.athrow, 1))
    (hout : ∀ x ∈ c.exceptionTable.toList, covers x (pc + 9) = false)
    (hRframes : names.length + 3 < R.frames) (hRlocals : (rest.map fun v => v.category).sum + (13 * (names.length + 1) + 43) ≤ R.locals) (hRcells : cells + 1 ≤ R.cells) (hRslots : slots + 6 ≤ R.slots) (hlocks : meth.locks = false)
    (hx : ∀ t : State, s.vm.Alike t.vm → H.size ≤ t.heap.size → (∀ q : Nat, q < H.size → t.heap[q]? = H[q]?) → XC cls s t)
    (hf : ∀ z ∈ locs, free z.base) (hc : cells + 1 ≤ mc) (hs : slots + 6 ≤ ms) :
    W p l e R s m args below meth c H locs cells slots (vx_MQ below Qc XC args s mc ms free) (F0 m pc ls rest) := by
  intro T hT X
  have htr : e.platform.stackTraces = false := (show e.platform.stackTraces = l.stackTraces by rw [X.admits.platform]).trans hl
  have Y := vx_rebase X (R' := { frames := R.frames, locals := R.locals, cells := 1, slots := 6 }) (Nat.le_refl _) (Nat.le_refl _) hRcells hRslots
  obtain ⟨s', hA⟩ : ∃ z, z = (T.setVm s.vm).setFrames (.invoking m args :: below) := ⟨_, rfl⟩
  rw [← hA] at Y
  have hvm : s'.vm = s.vm := by rw [hA]; rfl
  have hhp : s'.heap = H := by rw [hA]; exact hT
  have hW0 : s.WarmedH s'.vm := by rw [hvm]; exact State.WarmedH.refl s
  have hat' : ∀ w ∈ vx_atS own ic cls names, w.before args s' = true := fun w hw => vx_ot_at hW0 hvm.symm (hgood w (List.mem_cons_of_mem _ (List.mem_cons_of_mem _ hw))) (hat w hw)
  have hk' : (Cond.classLink own ik cls).before args s' = true := vx_ot_at hW0 hvm.symm (hgood _ List.mem_cons_self) hk
  have hini' : (Cond.initialized cls).before args s' = true := vx_ot_at hW0 hvm.symm (hgood _ (List.mem_cons_of_mem _ List.mem_cons_self)) hini
  have hU' : vx_Zq Bundle.tN "UNASSIGNED_STACK" Bundle.steD A s' s'.heap := by rw [hhp]; exact vx_Zq.moved hW0.alike (hU.kept hS.2.1)
  have hN' : vx_Zq Bundle.tN "SUPPRESSED_SENTINEL" Bundle.listD A s' s'.heap := by rw [hhp]; exact vx_Zq.moved hW0.alike (hN.kept hS.2.1)
  have h : ∀ w ∈ Bundle.ownAtoms own ic cls names, w.before args s' = true := vx_own hat' (vx_isRefq hU'.1) (vx_isRefq hN'.1) hU'.2.word hN'.2.word
  have hown' : s'.vm.findClass own = some m.cls := by rw [hvm]; exact hown
  have hins : (Cond.instantiable cls 6).before args s' = true := h _ (by simp [Bundle.ownAtoms])
  obtain ⟨vm₁, cX, kX, hfX, hkX, -, -, X₁, st1⟩ := Y.newCold hexec (own := own) (C := cls) (index := ik) (n := 6) hown' hk' hins hini'
    (g := F0 m pc ls rest) rfl (by rw [hb]; exact d0) (Nat.le_refl _) (Nat.le_refl _)
  generalize hT1 : (T.setVm vm₁).pushCell { cls := cX, slots := kX.instanceTypes.map defaultValue, vm := .none } = T1 at X₁ st1
  have hcat : (Value.ref T.heap.size).category = 1 := rfl
  have hcellA : T1.heap[T.heap.size]? = some (freshCell cX kX) := by rw [← hT1]; exact State.heap_pushCell_size _ _
  have d3' : decode c.code (pc + 3) = .ok (.dup, 1) := by rw [hb]; exact d3
  have d4' : decode c.code (pc + 4) = .ok (.ldc is, 2) := by rw [hb]; exact d4
  have hstr' : vk_R own is text sa s' := vk_R.warm hW0 hstr
  obtain ⟨U, hsteps, hrun, hend, hW, hsame, ce, hce, hO⟩ := X₁.ctorThrowS hexec htr (own := own) (cls := cls) (names := names) (ic := ic) hown' hcls hnames h (fun x hx => nomatch hx) hfX hkX hcellA (by rw [hhp, hT]; exact Nat.le_refl _) (msg := .ref sa) rfl
    (g := { method := m, pc := pc + 6, locals := ls, stack := .ref sa :: .ref T.heap.size :: .ref T.heap.size :: rest, locked := none }) rfl hsize rfl rfl (rest := rest) rfl
    (by rw [hb]; exact d6) (by rw [hb]; exact d9) hout hRframes (by simp only [List.map_cons, List.sum_cons, hcat]; omega) hlocks
  obtain ⟨f1, f2⟩ := vx_frame hsame
  rw [hhp] at f1 f2
  have hWs : s.WarmedH U.vm := State.WarmedH.trans hW0 hW
  have hcl : s.vm.findClass cls = some ce.cls := by
    have h9 := hO.cls
    rw [hvm] at h9
    exact h9
  have hall : s.sameButNew ({ U with vm := s.vm } : State) locs mc ms := by
    subst hA
    obtain ⟨e1, e2⟩ := hsame
    rw [State.setFrames_setFrames] at e1
    have h2 : (T.setVm s.vm).sameButNew ({ U with vm := s.vm } : State) [] (0 + 1) (0 + 6) := ⟨e1, e2⟩
    have h3 := X.same.trans h2
    rw [List.append_nil] at h3
    exact h3.mono hc hs
  refine ⟨U, ?_, .threw T.heap.size, hrun, hend, Or.inr ⟨T.heap.size, rfl, cls, ce, locs, hx U hWs.alike f1 (fun q hq => f2 q hq (fun z hz => nomatch hz)), hce, hO.vm, hcl, hWs, hall, hf⟩⟩
  refine st1 _ ?_
  show Steps p.tables e below (T1.setTop { method := m, pc := pc + 3, locals := ls, stack := .ref T.heap.size :: rest, locked := none }) _
  jvm_step X₁.here [X₁.here.top, hexec, d3', Value.category]
  exact X₁.ldcString hexec (own := own) (text := text) (index := is) (a := sa) hown' hstr'.1 hstr'.2
    (g := { method := m, pc := pc + 4, locals := ls, stack := .ref T.heap.size :: .ref T.heap.size :: rest, locked := none }) rfl d4' _ hsteps
/-- 'throw new E("text")', the text by a wide index -/
theorem vx_throwSW {cc : ByteArray} {pc : Nat} (hexec : p.tables.exec = Jvm.exec) (hb : c.code = cc) (hl : l.stackTraces = false) {own cls text : String} {names : List String} {ik is ic mc ms sa : Nat} {A : Nat → Prop}
    (hown : s.vm.findClass own = some m.cls) (hcls : Bundle.fit cls = true) (hnames : ∀ n ∈ names, Bundle.fit n = true)
    (hk : (Cond.classLink own ik cls).before args s = true) (hini : (Cond.initialized cls).before args s = true) (hstr : vk_R own is text sa s) (hat : ∀ w ∈ vx_atS own ic cls names, w.before args s = true)
    (hgood : ∀ w ∈ Cond.classLink own ik cls :: Cond.initialized cls :: vx_atS own ic cls names, vx_ot w = true)
    (hU : vx_Zq Bundle.tN "UNASSIGNED_STACK" Bundle.steD A s s.heap) (hN : vx_Zq Bundle.tN "SUPPRESSED_SENTINEL" Bundle.listD A s s.heap) (hS : va_S A s.heap H locs) (hsize : ls.size = c.maxLocals)
    (d0 : decode cc pc = .ok (.new ik, 3)) (d3 : decode cc (pc + 3) = .ok (.dup, 1)) (d4 : decode cc (pc + 4) = .ok (.ldc_w is, 3)) (d7 : decode cc (pc + 7) = .ok (.invokespecial ic, 3)) (d10 : decode cc (pc + 10) = .ok (.athrow, 1))
    (hout : ∀ x ∈ c.exceptionTable.toList, covers x (pc + 10) = false)
    (hRframes : names.length + 3 < R.frames) (hRlocals : (rest.map fun v => v.category).sum + (13 * (names.length + 1) + 43) ≤ R.locals) (hRcells : cells + 1 ≤ R.cells) (hRslots : slots + 6 ≤ R.slots) (hlocks : meth.locks = false)
    (hx : ∀ t : State, s.vm.Alike t.vm → H.size ≤ t.heap.size → (∀ q : Nat, q < H.size → t.heap[q]? = H[q]?) → XC cls s t)
    (hf : ∀ z ∈ locs, free z.base) (hc : cells + 1 ≤ mc) (hs : slots + 6 ≤ ms) :
    W p l e R s m args below meth c H locs cells slots (vx_MQ below Qc XC args s mc ms free) (F0 m pc ls rest) := by
  intro T hT X
  have htr : e.platform.stackTraces = false := (show e.platform.stackTraces = l.stackTraces by rw [X.admits.platform]).trans hl
  have Y := vx_rebase X (R' := { frames := R.frames, locals := R.locals, cells := 1, slots := 6 }) (Nat.le_refl _) (Nat.le_refl _) hRcells hRslots
  obtain ⟨s', hA⟩ : ∃ z, z = (T.setVm s.vm).setFrames (.invoking m args :: below) := ⟨_, rfl⟩
  rw [← hA] at Y
  have hvm : s'.vm = s.vm := by rw [hA]; rfl
  have hhp : s'.heap = H := by rw [hA]; exact hT
  have hW0 : s.WarmedH s'.vm := by rw [hvm]; exact State.WarmedH.refl s
  have hat' : ∀ w ∈ vx_atS own ic cls names, w.before args s' = true := fun w hw => vx_ot_at hW0 hvm.symm (hgood w (List.mem_cons_of_mem _ (List.mem_cons_of_mem _ hw))) (hat w hw)
  have hk' : (Cond.classLink own ik cls).before args s' = true := vx_ot_at hW0 hvm.symm (hgood _ List.mem_cons_self) hk
  have hini' : (Cond.initialized cls).before args s' = true := vx_ot_at hW0 hvm.symm (hgood _ (List.mem_cons_of_mem _ List.mem_cons_self)) hini
  have hU' : vx_Zq Bundle.tN "UNASSIGNED_STACK" Bundle.steD A s' s'.heap := by rw [hhp]; exact vx_Zq.moved hW0.alike (hU.kept hS.2.1)
  have hN' : vx_Zq Bundle.tN "SUPPRESSED_SENTINEL" Bundle.listD A s' s'.heap := by rw [hhp]; exact vx_Zq.moved hW0.alike (hN.kept hS.2.1)
  have h : ∀ w ∈ Bundle.ownAtoms own ic cls names, w.before args s' = true := vx_own hat' (vx_isRefq hU'.1) (vx_isRefq hN'.1) hU'.2.word hN'.2.word
  have hown' : s'.vm.findClass own = some m.cls := by rw [hvm]; exact hown
  have hins : (Cond.instantiable cls 6).before args s' = true := h _ (by simp [Bundle.ownAtoms])
  obtain ⟨vm₁, cX, kX, hfX, hkX, -, -, X₁, st1⟩ := Y.newCold hexec (own := own) (C := cls) (index := ik) (n := 6) hown' hk' hins hini'
    (g := F0 m pc ls rest) rfl (by rw [hb]; exact d0) (Nat.le_refl _) (Nat.le_refl _)
  generalize hT1 : (T.setVm vm₁).pushCell { cls := cX, slots := kX.instanceTypes.map defaultValue, vm := .none } = T1 at X₁ st1
  have hcat : (Value.ref T.heap.size).category = 1 := rfl
  have hcellA : T1.heap[T.heap.size]? = some (freshCell cX kX) := by rw [← hT1]; exact State.heap_pushCell_size _ _
  have d3' : decode c.code (pc + 3) = .ok (.dup, 1) := by rw [hb]; exact d3
  have d4' : decode c.code (pc + 4) = .ok (.ldc_w is, 3) := by rw [hb]; exact d4
  have hstr' : vk_R own is text sa s' := vk_R.warm hW0 hstr
  obtain ⟨U, hsteps, hrun, hend, hW, hsame, ce, hce, hO⟩ := X₁.ctorThrowS hexec htr (own := own) (cls := cls) (names := names) (ic := ic) hown' hcls hnames h (fun x hx => nomatch hx) hfX hkX hcellA (by rw [hhp, hT]; exact Nat.le_refl _) (msg := .ref sa) rfl
    (g := { method := m, pc := pc + 7, locals := ls, stack := .ref sa :: .ref T.heap.size :: .ref T.heap.size :: rest, locked := none }) rfl hsize rfl rfl (rest := rest) rfl
    (by rw [hb]; exact d7) (by rw [hb]; exact d10) hout hRframes (by simp only [List.map_cons, List.sum_cons, hcat]; omega) hlocks
  obtain ⟨f1, f2⟩ := vx_frame hsame
  rw [hhp] at f1 f2
  have hWs : s.WarmedH U.vm := State.WarmedH.trans hW0 hW
  have hcl : s.vm.findClass cls = some ce.cls := by
    have h9 := hO.cls
    rw [hvm] at h9
    exact h9
  have hall : s.sameButNew ({ U with vm := s.vm } : State) locs mc ms := by
    subst hA
    obtain ⟨e1, e2⟩ := hsame
    rw [State.setFrames_setFrames] at e1
    have h2 : (T.setVm s.vm).sameButNew ({ U with vm := s.vm } : State) [] (0 + 1) (0 + 6) := ⟨e1, e2⟩
    have h3 := X.same.trans h2
    rw [List.append_nil] at h3
    exact h3.mono hc hs
  refine ⟨U, ?_, .threw T.heap.size, hrun, hend, Or.inr ⟨T.heap.size, rfl, cls, ce, locs, hx U hWs.alike f1 (fun q hq => f2 q hq (fun z hz => nomatch hz)), hce, hO.vm, hcl, hWs, hall, hf⟩⟩
  refine st1 _ ?_
  show Steps p.tables e below (T1.setTop { method := m, pc := pc + 3, locals := ls, stack := .ref T.heap.size :: rest, locked := none }) _
  jvm_step X₁.here [X₁.here.top, hexec, d3', Value.category]
  exact X₁.ldcStringW hexec (own := own) (text := text) (index := is) (a := sa) hown' hstr'.1 hstr'.2
    (g := { method := m, pc := pc + 4, locals := ls, stack := .ref T.heap.size :: .ref T.heap.size :: rest, locked := none }) rfl d4' _ hsteps
end Ends
section Bodies
variable {l : Launch}
theorem vx_ofW {y : MethodName} {ws ws' : List Cond} {rm : Room} {Pc : Array Value → State → Prop} {Qc : Array Value → State → Outcome → State → Prop} {XC : String → State → State → Prop} {mc ms : Nat} {free : Addr → Prop} {cc : ByteArray} {maxL : Nat} {ret : Option FieldType}
    (hy : plainName y.cls = true) (hw : ws = Cond.code y cc maxL ret :: ws')
    (body : ∀ p e s m args below meth c s₁, BodyLoose p l y (headSpec ws rm) cc maxL ret e s m args below meth c s₁ → c.maxLocals = maxL → (∀ x ∈ c.exceptionTable.toList, False) → Pc args s →
      W p l e (headSpec ws rm).room s m args below meth c s.heap [] 0 0 (vx_MQ below Qc XC args s mc ms free) (entryFrame m args maxL)) : vx_Met l y ws rm Pc Qc XC mc ms free := by
  refine MetFree.of_bodyS (code := cc) (maxLocals := maxL) (ret := ret) hy ?_ ?_
  · intro args s m h hn
    obtain ⟨meth, c, h1, h2, h3, h4, h5, h6, -, -⟩ := Cond.code_spec hn (atoms_spec (ws := ws) h _ (by rw [hw]; exact List.mem_cons_self))
    exact ⟨meth, c, h1, h2, h3, h4, h5, h6⟩
  · intro p e s m args below meth c s₁ B hml hP _
    have hh0 : s₁.heap = s.heap := by rw [B.state]; rfl
    have ht : ∀ x ∈ c.exceptionTable.toList, False := by
      obtain ⟨meth9, c9, h1, h2, -, -, -, -, h7, -⟩ := Cond.code_spec B.named (atoms_spec (ws := ws) B.pre _ (by rw [hw]; exact List.mem_cons_self))
      cases Option.some.inj (h1.symm.trans B.method)
      cases Option.some.inj (h2.symm.trans (Stand.of_body B).code)
      intro x hx
      rw [Array.isEmpty_iff.mp h7] at hx
      cases hx
    obtain ⟨t, a1, o, b1, b2, b3⟩ := body p e s m args below meth c s₁ B hml ht hP s₁ hh0 (Stand.of_body B)
    exact ⟨t, o, a1, b1, b2, b3⟩
/-- the table of a body with handlers -/
theorem vx_table {p : Program} {x y : MethodName} {S : Spec} {cc bytes : ByteArray} {maxL maxL' : Nat} {ret ret' : Option FieldType} {e : Env} {s s₁ : State} {m : MethodId} {args : Array Value} {below : List Frame} {meth : Method} {c : Code} {hh : List (Nat × Nat × Nat × Nat)}
    (B : BodyLoose p l y S cc maxL ret e s m args below meth c s₁) (h : (Cond.codeWith y bytes maxL' ret' hh).before args s = true) : c.exceptionTable.toList = tableOf hh := by
  obtain ⟨m9, meth9, c9, hn9, h1, h2, -, -, h6, -⟩ := Cond.codeWith_spec h
  cases Option.some.inj (hn9.symm.trans B.named)
  cases Option.some.inj (h1.symm.trans B.method)
  cases Option.some.inj (h2.symm.trans (Stand.of_body B).code)
  rw [← h6, table_eq]
end Bodies
end VXA
/-! ===== END ===== -/
/-! ===== BEGIN a static call of a method with an exception table ===== -/
section VXS
variable {p : Program} {l : Launch} {e : Env} {R : Room} {s : State} {m : MethodId} {args : Array Value} {below : List Frame} {meth : Method} {c : Code} {T : State} {H : Heap} {locs : List Loc} {cells slots : Nat}
abbrev vx_CSW (R : Room) (s : State) (args : Array Value) (own : String) (index : Nat) (y : MethodName) (bytes : ByteArray) (maxL : Nat) (ret : Option FieldType) (hh : List (Nat × Nat × Nat × Nat)) (ws : List Cond) (rm : Room) (mc ms n : Nat) : Prop :=
  (rm.cells = mc ∧ rm.slots = ms ∧ rm.frames + 1 ≤ R.frames ∧ 8 + (maxL + 11) + rm.locals ≤ R.locals ∧ (∀ w ∈ ws, ∀ (a' : Array Value) (U : State), s.WarmedH U.vm → w.before a' U = true) ∧ Cond.codeWith y bytes maxL ret hh ∈ ws) ∧
  (Cond.codeWith y bytes maxL ret hh).before args s = true ∧ (Cond.initialized y.cls).before args s = true ∧ (y.cls ≠ "java/lang/invoke/MethodHandle" ∧ y.cls ≠ "java/lang/invoke/VarHandle") ∧
  (∀ sig, parseMethodDescriptor y.desc = some sig → n = sig.parameters.length) ∧ (Cond.methodLink own index y).before args s = true ∧ (Cond.static y).before args s = true
theorem vx_cwSW {own : String} {index maxL mc ms : Nat} {y : MethodName} {bytes : ByteArray} {ret : Option FieldType} {hh : List (Nat × Nat × Nat × Nat)} {Ts ws ws' : List Cond} {rm : Room} (n : Nat) (ht : ∀ w ∈ Ts, w.before args s = true) (hT : GoodIn Ts (va_wsS own index y ws)) (hw : ws = Cond.codeWith y bytes maxL ret hh :: ws') (hrc : rm.cells = mc) (hrs : rm.slots = ms)
    (hd : y.cls ≠ "java/lang/invoke/MethodHandle" ∧ y.cls ≠ "java/lang/invoke/VarHandle" ∧ (parseMethodDescriptor y.desc).map (fun d => d.parameters.length) = some n) (hR : rm.frames + 1 ≤ R.frames ∧ 8 + (maxL + 11) + rm.locals ≤ R.locals) :
    vx_CSW R s args own index y bytes maxL ret hh ws rm mc ms n := by
  have ok : ∀ w ∈ va_wsS own index y ws, w.before args s = true := fun w h => ht w (hT w h).1
  have hG : GoodIn Ts ws := fun w h => hT w (by unfold va_wsS; exact List.mem_append_right _ h)
  have hc : Cond.codeWith y bytes maxL ret hh ∈ ws := by rw [hw]; exact List.mem_cons_self
  refine ⟨⟨hrc, hrs, hR.1, hR.2, pay_in ht hG, hc⟩, ht _ (hG _ hc).1, ok _ (by simp [va_wsS]), ⟨hd.1, hd.2.1⟩, fun sig h => ?_, ok _ (by simp [va_wsS]), ok _ (by simp [va_wsS])⟩
  have h2 := hd.2.2
  rw [h] at h2
  exact (Option.some.inj h2).symm
theorem vx_callSW (X : Stand p l e R s m args below meth c T locs cells slots) (hexec : p.tables.exec = Jvm.exec) {own : String} {index : Nat} {y : MethodName} {bytes : ByteArray} {maxL : Nat} {ret : Option FieldType} {hh : List (Nat × Nat × Nat × Nat)}
    (hown : s.vm.findClass own = some m.cls) (hlink : (Cond.methodLink own index y).before args s = true) (hstat : (Cond.static y).before args s = true) (hinit : (Cond.initialized y.cls).before args s = true)
    (hcode : (Cond.codeWith y bytes maxL ret hh).before args s = true) (hy : y.cls ≠ "java/lang/invoke/MethodHandle" ∧ y.cls ≠ "java/lang/invoke/VarHandle")
    {W9 : Nat} {Pre : Pt → Array Value → Prop} {Post : Pt → Array Value → Option Value → Pt → Prop} (hK : Back l R p e below s args y 3 W9 Pre Post)
    {g : JFrame} (hg : g.method = m) (hsize : g.locals.size = c.maxLocals) {argsL rest : List Value} (hlen : ∀ sig, parseMethodDescriptor y.desc = some sig → argsL.length = sig.parameters.length)
    (hstack : g.stack = argsL.reverse ++ rest) (hW : 2 * g.monitorRoom + (rest.map fun v => v.category).sum ≤ W9) (hdg : decode c.code g.pc = .ok (.invokestatic index, 3))
    (hpre : ∀ vm₁, s.WarmedH vm₁ → Pre ⟨T.setVm vm₁, locs, cells, slots⟩ argsL.toArray) :
    ∃ (v : Option Value) (vm₁ : Vm) (B : Pt), s.WarmedH vm₁ ∧ Stand p l e R s m args below meth c B.U B.locs B.cells B.slots ∧ Post ⟨T.setVm vm₁, locs, cells, slots⟩ argsL.toArray v B ∧
      ∀ target, Steps p.tables e below (B.U.setTop { g with pc := g.pc + 3, stack := v.toList ++ rest }) target → Steps p.tables e below (T.setTop g) target := by
  obtain ⟨mk, methM, cM, hnamed, hmethM, -, -, -, -, -, -, hsigM⟩ := Cond.codeWith_spec hcode
  have hstatic : methM.isStatic = true := Cond.static_spec hnamed hmethM hstat
  obtain ⟨kP, hkP, -⟩ := className_of_methodNamed hnamed
  have hinitP : kP.init = .initialized := Cond.initialized_spec (findClass_of_methodNamed hnamed) hkP hinit
  obtain ⟨vm₁, X₁, hstep₁⟩ := X.invokestatic hexec hown hlink hnamed hmethM hstatic hkP hinitP hy (g := g) hg (argsL := argsL) (rest := rest) (hlen _ hsigM) hstack hdg
  obtain ⟨v, B, X', hpost, hsteps⟩ := hK m meth c ⟨T.setVm vm₁, locs, cells, slots⟩ { g with stack := rest } (.invokestatic index) mk argsL.toArray X₁ hg hsize hdg hW (X₁.named hnamed) (hpre vm₁ X₁.warmed)
  exact ⟨v, vm₁, B, X₁.warmed, X', hpost, fun target h => hstep₁ _ fun acts => by rw [doInvoke_state]; exact hsteps.trans h⟩
theorem vx_runSW {y : MethodName} {bytes cc : ByteArray} {maxL nL mc ms n index : Nat} {ret : Option FieldType} {hh : List (Nat × Nat × Nat × Nat)} {ws : List Cond} {rm : Room} {Pc : Array Value → State → Prop} {Qc : Array Value → State → Outcome → State → Prop} {free : Addr → Prop} {Ts : List Cond} {own : String} {As rest : List Value} {g : JFrame}
    (S : CallFix p m c cc nL s args Ts own) (hM : Met l y ws rm Pc Qc mc ms free) (cw : vx_CSW R s args own index y bytes maxL ret hh ws rm mc ms n) (hp : PreS s H Pc As)
    (hg : g.method = m) (hn : As.length = n) (hsize : g.locals.size = nL) (hstack : g.stack = As.reverse ++ rest) (hW : 2 * g.monitorRoom + (rest.map fun v => v.category).sum ≤ 8) (hdg : decode cc g.pc = .ok (.invokestatic index, 3)) (hf : cells + mc ≤ R.cells ∧ slots + ms ≤ R.slots) :
    va_Run p l e R s m args below meth c H locs cells slots mc ms g rest (Qc As.toArray) (free) := by
  obtain ⟨⟨hrc, hrs, hfr, hlo, hws, hcw⟩, hcode, hini, hy, hlen, hl, hstt⟩ := cw
  have hK : Back l R p e below s args y 3 8 (PreOf R mc ms Pc) (PostOf Qc mc ms free) := va_backW (hh := hh) (bytes := bytes) (maxL := maxL) (ret := ret) hM hp.1 hrc hrs hfr hlo hws hcw (fun a' U hW => word_at hW (Or.inl (by first | rfl | simp [Cond.onTables, Cond.keeps, Cond.steady])) hini)
  obtain ⟨hx, hb, hml, ho, -⟩ := S
  intro T hT X
  obtain ⟨v, vm₁, ⟨U', l2, c2, s2⟩, hW₁, X', ⟨g', mk, t, L, e1, e2, hq, h1, hL, h2, h3⟩, st⟩ := vx_callSW X hx (hh := hh) (bytes := bytes) (maxL := maxL) (ret := ret) ho hl hstt hini hcode hy hK hg (hsize.trans hml.symm) (argsL := As) (rest := rest) (fun sig h => hn.trans (hlen sig h)) hstack hW (by rw [hb]; exact hdg)
    (fun vm₁ hW₁ => ⟨hf.1, hf.2, hp.2 (T.setVm vm₁) hT hW₁⟩)
  dsimp only [Pt.U, Pt.locs, Pt.cells, Pt.slots] at X' e1 e2 h1 h2 h3 st
  subst h1; subst h2; subst h3
  exact ⟨v, (T.setVm vm₁).calling g' mk As.toArray, t, U', L, hT, X', hL, e1, e2, hq, st⟩
/-- not caught here, past rows that name other classes: it goes on to the caller -/
theorem vx_outP {p : Program} {l : Launch} {e : Env} {R : Room} {s : State} {m : MethodId} {args : Array Value} {below : List Frame} {meth : Method} {c : Code} {H : Heap} {locs : List Loc} {cells slots : Nat} {free : Addr → Prop} {ls : Array Slot} {rest : List Value} {Qc : Array Value → State → Outcome → State → Prop} {XC : String → State → State → Prop}
    {pc : Nat} {own E : String} {ce : Cell} {q : Addr} {mc ms : Nat} (hown : s.vm.findClass own = some m.cls) (hlocks : meth.locks = false)
    (hpass : ∀ z ∈ c.exceptionTable.toList, covers z pc = false ∨ (z.catchType ≠ 0 ∧ ∃ nm : String, (Cond.classLink own z.catchType nm).before args s = true ∧ va_Nc E nm s)) (hcell : H[q]? = some ce) (hv : ce.vm = .none) (hcl : s.vm.findClass E = some ce.cls)
    (hx : ∀ t : State, t.heap = H → s.vm.Alike t.vm → XC E s t) (hf : ∀ z ∈ locs, free z.base) (hc : cells ≤ mc) (hs : slots ≤ ms) :
    vx_W p l e R s m args below meth c H locs cells slots (vx_MQ below Qc XC args s mc ms free) (F0 m pc ls rest) q := by
  intro T hT X
  have hpl : e.platform.magicAccessors = ({} : Platform).magicAccessors := by rw [X.admits.platform]
  obtain ⟨vm', hW', X', st⟩ := X.outThrough hlocks q (g := F0 m pc ls rest) rfl rfl rfl (cell := ce) (by rw [hT]; exact hcell) (by rw [hv]; rfl)
    (by obtain ⟨k9, h9, -⟩ := Vm.findClass_spec hcl; exact ⟨k9, h9⟩) (fun z hz => by
      rcases hpass z hz with h | ⟨hz0, nm, hl1, hn1⟩
      · exact Or.inl h
      · obtain ⟨c6, hc6, hcl6⟩ := Cond.classLink_spec hown hl1 e.platform hpl
        obtain ⟨a8, b8, h1, h2, h3⟩ := hn1
        cases Option.some.inj (h1.symm.trans hcl)
        cases Option.some.inj (h2.symm.trans hc6)
        exact Or.inr ⟨hz0, _, hcl6, h3⟩)
  obtain ⟨g₀, hfr⟩ := X'.frames_eq
  have hcell9 : ((T.setVm vm').setFrames (.throwing q :: below)).heap[q]? = some ce := by
    show T.heap[q]? = some ce
    rw [hT]; exact hcell
  have hend : Ended ((T.setVm vm').setFrames (.throwing q :: below)) below (.threw q) := State.frames_setFrames _ (State.cur_lt_of_frames hfr)
  refine ⟨(T.setVm vm').setFrames (.throwing q :: below), ?_, .threw q, X'.here.running, hend, Or.inr ⟨q, rfl, E, ce, locs, hx _ hT (X'.ends _).1.alike, hcell9, hv, hcl, (X'.ends _).1, (X'.ends _).2.mono hc hs, hf⟩⟩
  rw [X.pushThrowing_eq]
  exact st
/-- a thing of a world lies in the heap -/
theorem vx_lt {D : va_G} {cl : List vw_C} {ws : va_W} {H1 : Heap} (h : va_P D cl ws H1) {k : Nat} {q : Nat × va_E} (hk : ws[k]? = some q) : q.1 < H1.size := (h k q hk).lt
end VXS
/-! ===== END ===== -/
/-! ===== BEGIN methods with a table of their own: called by a name, returning or throwing ===== -/
section VXH
/-! vx_backW, vx_callVX, vx_callSX, vx_callVW, vx_runVW, vx_runVX, vx_runSX, vx_ofWH follow the same proofs as their sisters above (Free/Laws.lean, Shelf42/LK1.lean); vx_outP calls Shelf42/NT130.lean (outThrough). -/
section
variable {l : Launch} {R : Room} {p : Program} {e : Env} {below : List Frame} {s : State} {sargs : Array Value} {y : MethodName} {len W9 : Nat}
theorem vx_backW {ws : List Cond} {rm : Room} {Pc : Array Value → State → Prop} {Qc : Array Value → State → Outcome → State → Prop} {XC : String → State → State → Prop} {mc ms : Nat} {free : Addr → Prop} {bytes : ByteArray} {maxL : Nat} {ret : Option FieldType} {hh : List (Nat × Nat × Nat × Nat)}
    (hM : vx_Met l y ws rm Pc Qc XC mc ms free) (hblind : FrameBlind Pc) (hrc : rm.cells = mc) (hrs : rm.slots = ms)
    (hframes : rm.frames + 1 ≤ R.frames) (hlocals : W9 + (maxL + 11) + rm.locals ≤ R.locals)
    (hws : ∀ w ∈ ws, ∀ a' U, s.WarmedH U.vm → w.before a' U = true) (hcode : Cond.codeWith y bytes maxL ret hh ∈ ws) (hinit : ∀ a' U, s.WarmedH U.vm → (Cond.initialized y.cls).before a' U = true) :
    vx_Back l R p e below s sargs y len W9 (PreOf R mc ms Pc) (PostOf Qc mc ms free) (vx_Post XC mc ms free) := by
  intro m meth c A g ig mk a X hg hsize hdg hW hn hp
  have h1 : (headSpec ws rm).pre.before a A.U = true := atoms_intro fun w hw => hws w hw _ _ X.warmed
  have h2 : (Cond.codeWith y bytes maxL ret hh).before a A.U = true := hws _ hcode _ _ X.warmed
  have h3 : (Cond.initialized y.cls).before a A.U = true := hinit _ _ X.warmed
  have h4 : A.cells + (headSpec ws rm).room.cells ≤ R.cells := by rw [show (headSpec ws rm).room.cells = mc from hrc]; exact hp.1
  have h5 : A.slots + (headSpec ws rm).room.slots ≤ R.slots := by rw [show (headSpec ws rm).room.slots = ms from hrs]; exact hp.2.1
  have hPc : Pc a (A.U.calling g mk a) := hblind _ _ _ _ hp.2.2
  obtain ⟨U, Ls, c0, s0⟩ := A
  dsimp only [Pt.U, Pt.locs, Pt.cells, Pt.slots] at h1 h2 h3 h4 h5 X hn hPc ⊢
  obtain ⟨m9, methY, cY, hn9, hmY, hcY, -, hlY, -⟩ := Cond.codeWith_spec h2
  cases Option.some.inj (hn9.symm.trans hn)
  obtain ⟨kY, hkY, -⟩ := className_of_methodNamed hn
  have hinitY : kY.init = .initialized := Cond.initialized_spec (findClass_of_methodNamed hn) hkY h3
  have h : At U g.method c below := by rw [hg]; exact X.here
  have hlocals9 : W9 + (maxL + 11) + (headSpec ws rm).room.locals ≤ R.locals := hlocals
  have happ : (headSpec ws rm).appliesLoose y e.platform (U.calling g mk a) = true :=
    Spec.appliesLoose_calling (g := g) h hdg hn hkY hinitY
      (X.room_calling (g := g) (R' := (headSpec ws rm).room) hsize hmY hcY hframes (by rw [hlY]; omega) h4 h5) h1
  obtain ⟨mid, hmid⟩ := h.above
  have hfr : (U.setTop g).frames = (.java g :: mid) ++ below := by rw [State.frames_setTop' g h.top, hmid]; rfl
  obtain ⟨o, s₂, hsteps, -, hend, hq⟩ := Steps.callFree hM p X.admits X.cas X.clock (acts := []) hfr happ hPc trivial
  have hq' : vx_Q Qc XC mc ms free a (U.calling g mk a) o s₂ := hq
  rw [State.frames_setTop' g h.top] at hend
  obtain ⟨g₀, hg0⟩ := Option.isSome_iff_exists.mp h.top
  obtain ⟨r, hr⟩ := State.topJava?_eq_some.mp hg0
  have hr' : (({ U with heap := s₂.heap, slotsUsed := s₂.slotsUsed } : State).setVm s₂.vm).frames = .java g₀ :: r := hr
  rcases hq' with ⟨hqc, L, hfe, hL⟩ | ⟨q, rfl, E, ce, L, hx, hce, hcv, hcl, hW₂, hsm, hL⟩
  · obtain ⟨⟨v, rfl⟩, hW₂, e2, q2, q3, q4, q5, q6⟩ := id hfe
    have e3 : s₂ = ({ (U.calling g mk a).setFrames s₂.frames with heap := s₂.heap, slotsUsed := s₂.slotsUsed } : State).setVm s₂.vm := by
      have : s₂ = ({ s₂ with vm := (U.calling g mk a).vm } : State).setVm s₂.vm := rfl
      rw [e2] at this
      exact this
    obtain ⟨c₂, i₂, len₂, hc₂, hd₂, hf₂⟩ := hend
    have hW' : U.WarmedH s₂.vm := hW₂
    have hcc : c₂ = c := by
      have h1 : s₂.code? g.method = U.code? g.method := by
        rw [State.code?_eq, State.code?_eq, hW'.alike.method?]
      exact Option.some.inj (hc₂.symm.trans (h1.trans h.code))
    subst hcc
    have hlen : len₂ = len := by rw [hdg] at hd₂; cases hd₂; rfl
    subst hlen
    have hs₂ : s₂ = (({ U with heap := s₂.heap, slotsUsed := s₂.slotsUsed } : State).setVm s₂.vm).setTop { g with pc := g.pc + len₂, stack := v.toList ++ g.stack } := by
      refine e3.trans ?_
      rw [hf₂, State.calling_eq h.top, State.setFrames_setFrames, State.setTop_of_frames _ hr', hr]
      rfl
    have hsame : U.sameButNew ({ U with heap := s₂.heap, slotsUsed := s₂.slotsUsed } : State) L mc ms := by
      refine ⟨?_, q2, q3, q4, q5, q6⟩
      obtain ⟨t, ht, -⟩ := State.frames_cons hr
      show ({ U with heap := s₂.heap, slotsUsed := s₂.slotsUsed } : State) = { U.setFrames U.frames with heap := s₂.heap, slotsUsed := s₂.slotsUsed }
      rw [State.setFrames_self ht]
    subst hg
    refine Or.inl ⟨v, ⟨(({ U with heap := s₂.heap, slotsUsed := s₂.slotsUsed } : State).setVm s₂.vm), Ls ++ L, c0 + mc, s0 + ms⟩,
      ⟨X.admits, X.cas, X.clock, X.frames, X.room, X.hears, X.method, X.code, (X.here.setHeapUsed s₂.heap s₂.slotsUsed).setVm hW'.alike, X.tail, State.WarmedH.trans X.warmed hW', X.limits, X.bytes, X.same.trans (hsame.setVm s.vm)⟩,
      ⟨g, mk, s₂, L, rfl, rfl, hqc, rfl, hL, rfl, rfl⟩, ?_⟩
    show Steps p.tables e below _ ((({ U with heap := s₂.heap, slotsUsed := s₂.slotsUsed } : State).setVm s₂.vm).setTop { g with pc := g.pc + len₂, stack := v.toList ++ g.stack })
    rw [← hs₂]
    exact hsteps
  · obtain ⟨e2, q2, q3, q4, q5, q6⟩ := id hsm
    have e3 : s₂ = ({ (U.calling g mk a).setFrames s₂.frames with heap := s₂.heap, slotsUsed := s₂.slotsUsed } : State).setVm s₂.vm := by
      have : s₂ = ({ s₂ with vm := (U.calling g mk a).vm } : State).setVm s₂.vm := rfl
      rw [e2] at this
      exact this
    have hf₂ : s₂.frames = .throwing q :: .java g :: U.frames.tail := hend
    have hW' : U.WarmedH s₂.vm := hW₂
    have hs₂ : s₂ = ((({ U with heap := s₂.heap, slotsUsed := s₂.slotsUsed } : State).setVm s₂.vm).setTop g).pushFrame (.throwing q) := by
      refine e3.trans ?_
      rw [hf₂, State.calling_eq h.top, State.setFrames_setFrames, State.pushFrame, State.frames_setTop _ hr', State.setTop_of_frames _ hr', State.setFrames_setFrames, hr]
      rfl
    have hsame : U.sameButNew ({ U with heap := s₂.heap, slotsUsed := s₂.slotsUsed } : State) L mc ms := by
      refine ⟨?_, q2, q3, q4, q5, q6⟩
      obtain ⟨t, ht, -⟩ := State.frames_cons hr
      show ({ U with heap := s₂.heap, slotsUsed := s₂.slotsUsed } : State) = { U.setFrames U.frames with heap := s₂.heap, slotsUsed := s₂.slotsUsed }
      rw [State.setFrames_self ht]
    subst hg
    refine Or.inr ⟨q, ⟨(({ U with heap := s₂.heap, slotsUsed := s₂.slotsUsed } : State).setVm s₂.vm), Ls ++ L, c0 + mc, s0 + ms⟩,
      ⟨X.admits, X.cas, X.clock, X.frames, X.room, X.hears, X.method, X.code, (X.here.setHeapUsed s₂.heap s₂.slotsUsed).setVm hW'.alike, X.tail, State.WarmedH.trans X.warmed hW', X.limits, X.bytes, X.same.trans (hsame.setVm s.vm)⟩,
      ⟨g, mk, s₂, L, E, ce, rfl, rfl, hx, hce, hcv, hcl, rfl, hL, rfl, rfl⟩, ?_⟩
    show Steps p.tables e below _ (((({ U with heap := s₂.heap, slotsUsed := s₂.slotsUsed } : State).setVm s₂.vm).setTop g).pushFrame (.throwing q))
    rw [← hs₂]
    exact hsteps
end
variable {p : Program} {l : Launch} {e : Env} {R : Room} {s : State} {m : MethodId} {args : Array Value} {below : List Frame} {meth : Method} {c : Code} {T : State} {H : Heap} {locs : List Loc} {cells slots : Nat}
theorem vx_callVX (X : Stand p l e R s m args below meth c T locs cells slots) (hexec : p.tables.exec = Jvm.exec) {own C : String} {index : Nat} {y : MethodName} {bytes : ByteArray} {maxL : Nat} {ret : Option FieldType} {hh : List (Nat × Nat × Nat × Nat)}
    (hown : s.vm.findClass own = some m.cls) (hlink : (Cond.methodLink own index y).before args s = true) (hinst : (Cond.instanceMethod y).before args s = true) (hsel : (Cond.selects C y y).before args s = true)
    (hcode : (Cond.codeWith y bytes maxL ret hh).before args s = true) (hy : y.cls ≠ "java/lang/invoke/MethodHandle" ∧ y.cls ≠ "java/lang/invoke/VarHandle")
    {W9 : Nat} {Pre : Pt → Array Value → Prop} {Post : Pt → Array Value → Option Value → Pt → Prop} {PostX : Pt → Array Value → Addr → Pt → Prop} (hK : vx_Back l R p e below s args y 3 W9 Pre Post PostX)
    {b : Addr} {cellB : Cell} (hcell : T.heap[b]? = some cellB) (hobj : cellB.vm.isStatics = false) (hcls : s.vm.findClass C = some cellB.cls)
    {g : JFrame} (hg : g.method = m) (hsize : g.locals.size = c.maxLocals) {argsL rest : List Value} (hlen : ∀ sig, parseMethodDescriptor y.desc = some sig → argsL.length = sig.parameters.length)
    (hstack : g.stack = argsL.reverse ++ .ref b :: rest) (hW : 2 * g.monitorRoom + (rest.map fun v => v.category).sum ≤ W9) (hdg : decode c.code g.pc = .ok (.invokevirtual index, 3))
    (hpre : ∀ vm₁, s.WarmedH vm₁ → Pre ⟨T.setVm vm₁, locs, cells, slots⟩ (Value.ref b :: argsL).toArray) :
    (∃ (v : Option Value) (vm₁ : Vm) (B : Pt), s.WarmedH vm₁ ∧ Stand p l e R s m args below meth c B.U B.locs B.cells B.slots ∧ Post ⟨T.setVm vm₁, locs, cells, slots⟩ (Value.ref b :: argsL).toArray v B ∧
      ∀ target, Steps p.tables e below (B.U.setTop { g with pc := g.pc + 3, stack := v.toList ++ rest }) target → Steps p.tables e below (T.setTop g) target) ∨
    (∃ (q : Addr) (vm₁ : Vm) (B : Pt), s.WarmedH vm₁ ∧ Stand p l e R s m args below meth c B.U B.locs B.cells B.slots ∧ PostX ⟨T.setVm vm₁, locs, cells, slots⟩ (Value.ref b :: argsL).toArray q B ∧
      Steps p.tables e below (T.setTop g) ((B.U.setTop { g with stack := rest }).pushFrame (.throwing q))) := by
  obtain ⟨mk, methM, hnamed, hmethM, hstM, habM⟩ := Cond.instanceMethod_spec hinst
  obtain ⟨m8, methM', cM, hn8, hmethM', -, -, -, -, -, -, hsigM⟩ := Cond.codeWith_spec hcode
  cases Option.some.inj (hn8.symm.trans hnamed)
  cases hmethM.symm.trans hmethM'
  obtain ⟨c2, r2, m2, q1, q2, q3, q4, kP, hkP, hkPi⟩ := Cond.selects_spec hsel
  cases hcls.symm.trans q1
  cases (State.methodFound?_of_named hnamed hy).symm.trans q2
  cases hnamed.symm.trans q3
  have hselP : selectMethod e.platform s.vm cellB.cls mk = .method mk := by rw [Launch.admits_selectMethod X.admits]; exact q4
  obtain ⟨vm₁, X₁, hstep₁⟩ := X.invokevirtual hexec hown hlink hnamed hmethM hstM hkP hkPi hy (a := b) (cell := cellB) hcell
    (fun z h => by rw [h] at hobj; cases hobj) hselP hmethM habM hkP hkPi (g := g) hg (argsL := argsL) (rest := rest) (hlen _ hsigM) hstack hdg
  rcases hK m meth c ⟨T.setVm vm₁, locs, cells, slots⟩ { g with stack := rest } (.invokevirtual index) mk (Value.ref b :: argsL).toArray X₁ hg hsize hdg hW (X₁.named hnamed) (hpre vm₁ X₁.warmed) with ⟨v, B, X', hpost, hsteps⟩ | ⟨q, B, X', hpost, hsteps⟩
  · exact Or.inl ⟨v, vm₁, B, X₁.warmed, X', hpost, fun target h => hstep₁ _ fun acts => by rw [doInvoke_state]; exact hsteps.trans h⟩
  · exact Or.inr ⟨q, vm₁, B, X₁.warmed, X', hpost, hstep₁ _ fun acts => by rw [doInvoke_state]; exact hsteps⟩
theorem vx_callSX (X : Stand p l e R s m args below meth c T locs cells slots) (hexec : p.tables.exec = Jvm.exec) {own : String} {index : Nat} {y : MethodName} {bytes : ByteArray} {maxL : Nat} {ret : Option FieldType} {hh : List (Nat × Nat × Nat × Nat)}
    (hown : s.vm.findClass own = some m.cls) (hlink : (Cond.methodLink own index y).before args s = true) (hstat : (Cond.static y).before args s = true) (hinit : (Cond.initialized y.cls).before args s = true)
    (hcode : (Cond.codeWith y bytes maxL ret hh).before args s = true) (hy : y.cls ≠ "java/lang/invoke/MethodHandle" ∧ y.cls ≠ "java/lang/invoke/VarHandle")
    {W9 : Nat} {Pre : Pt → Array Value → Prop} {Post : Pt → Array Value → Option Value → Pt → Prop} {PostX : Pt → Array Value → Addr → Pt → Prop} (hK : vx_Back l R p e below s args y 3 W9 Pre Post PostX)
    {g : JFrame} (hg : g.method = m) (hsize : g.locals.size = c.maxLocals) {argsL rest : List Value} (hlen : ∀ sig, parseMethodDescriptor y.desc = some sig → argsL.length = sig.parameters.length)
    (hstack : g.stack = argsL.reverse ++ rest) (hW : 2 * g.monitorRoom + (rest.map fun v => v.category).sum ≤ W9) (hdg : decode c.code g.pc = .ok (.invokestatic index, 3))
    (hpre : ∀ vm₁, s.WarmedH vm₁ → Pre ⟨T.setVm vm₁, locs, cells, slots⟩ argsL.toArray) :
    (∃ (v : Option Value) (vm₁ : Vm) (B : Pt), s.WarmedH vm₁ ∧ Stand p l e R s m args below meth c B.U B.locs B.cells B.slots ∧ Post ⟨T.setVm vm₁, locs, cells, slots⟩ argsL.toArray v B ∧
      ∀ target, Steps p.tables e below (B.U.setTop { g with pc := g.pc + 3, stack := v.toList ++ rest }) target → Steps p.tables e below (T.setTop g) target) ∨
    (∃ (q : Addr) (vm₁ : Vm) (B : Pt), s.WarmedH vm₁ ∧ Stand p l e R s m args below meth c B.U B.locs B.cells B.slots ∧ PostX ⟨T.setVm vm₁, locs, cells, slots⟩ argsL.toArray q B ∧
      Steps p.tables e below (T.setTop g) ((B.U.setTop { g with stack := rest }).pushFrame (.throwing q))) := by
  obtain ⟨mk, methM, cM, hnamed, hmethM, -, -, -, -, -, -, hsigM⟩ := Cond.codeWith_spec hcode
  have hstatic : methM.isStatic = true := Cond.static_spec hnamed hmethM hstat
  obtain ⟨kP, hkP, -⟩ := className_of_methodNamed hnamed
  have hinitP : kP.init = .initialized := Cond.initialized_spec (findClass_of_methodNamed hnamed) hkP hinit
  obtain ⟨vm₁, X₁, hstep₁⟩ := X.invokestatic hexec hown hlink hnamed hmethM hstatic hkP hinitP hy (g := g) hg (argsL := argsL) (rest := rest) (hlen _ hsigM) hstack hdg
  rcases hK m meth c ⟨T.setVm vm₁, locs, cells, slots⟩ { g with stack := rest } (.invokestatic index) mk argsL.toArray X₁ hg hsize hdg hW (X₁.named hnamed) (hpre vm₁ X₁.warmed) with ⟨v, B, X', hpost, hsteps⟩ | ⟨q, B, X', hpost, hsteps⟩
  · exact Or.inl ⟨v, vm₁, B, X₁.warmed, X', hpost, fun target h => hstep₁ _ fun acts => by rw [doInvoke_state]; exact hsteps.trans h⟩
  · exact Or.inr ⟨q, vm₁, B, X₁.warmed, X', hpost, hstep₁ _ fun acts => by rw [doInvoke_state]; exact hsteps⟩
theorem vx_callVW (X : Stand p l e R s m args below meth c T locs cells slots) (hexec : p.tables.exec = Jvm.exec) {own C : String} {index : Nat} {y : MethodName} {bytes : ByteArray} {maxL : Nat} {ret : Option FieldType} {hh : List (Nat × Nat × Nat × Nat)}
    (hown : s.vm.findClass own = some m.cls) (hlink : (Cond.methodLink own index y).before args s = true) (hinst : (Cond.instanceMethod y).before args s = true) (hsel : (Cond.selects C y y).before args s = true)
    (hcode : (Cond.codeWith y bytes maxL ret hh).before args s = true) (hy : y.cls ≠ "java/lang/invoke/MethodHandle" ∧ y.cls ≠ "java/lang/invoke/VarHandle")
    {W9 : Nat} {Pre : Pt → Array Value → Prop} {Post : Pt → Array Value → Option Value → Pt → Prop} (hK : Back l R p e below s args y 3 W9 Pre Post)
    {b : Addr} {cellB : Cell} (hcell : T.heap[b]? = some cellB) (hobj : cellB.vm.isStatics = false) (hcls : s.vm.findClass C = some cellB.cls)
    {g : JFrame} (hg : g.method = m) (hsize : g.locals.size = c.maxLocals) {argsL rest : List Value} (hlen : ∀ sig, parseMethodDescriptor y.desc = some sig → argsL.length = sig.parameters.length)
    (hstack : g.stack = argsL.reverse ++ .ref b :: rest) (hW : 2 * g.monitorRoom + (rest.map fun v => v.category).sum ≤ W9) (hdg : decode c.code g.pc = .ok (.invokevirtual index, 3))
    (hpre : ∀ vm₁, s.WarmedH vm₁ → Pre ⟨T.setVm vm₁, locs, cells, slots⟩ (Value.ref b :: argsL).toArray) :
    ∃ (v : Option Value) (vm₁ : Vm) (B : Pt), s.WarmedH vm₁ ∧ Stand p l e R s m args below meth c B.U B.locs B.cells B.slots ∧ Post ⟨T.setVm vm₁, locs, cells, slots⟩ (Value.ref b :: argsL).toArray v B ∧
      ∀ target, Steps p.tables e below (B.U.setTop { g with pc := g.pc + 3, stack := v.toList ++ rest }) target → Steps p.tables e below (T.setTop g) target := by
  obtain ⟨mk, methM, hnamed, hmethM, hstM, habM⟩ := Cond.instanceMethod_spec hinst
  obtain ⟨m8, methM', cM, hn8, hmethM', -, -, -, -, -, -, hsigM⟩ := Cond.codeWith_spec hcode
  cases Option.some.inj (hn8.symm.trans hnamed)
  cases hmethM.symm.trans hmethM'
  obtain ⟨c2, r2, m2, q1, q2, q3, q4, kP, hkP, hkPi⟩ := Cond.selects_spec hsel
  cases hcls.symm.trans q1
  cases (State.methodFound?_of_named hnamed hy).symm.trans q2
  cases hnamed.symm.trans q3
  have hselP : selectMethod e.platform s.vm cellB.cls mk = .method mk := by rw [Launch.admits_selectMethod X.admits]; exact q4
  obtain ⟨vm₁, X₁, hstep₁⟩ := X.invokevirtual hexec hown hlink hnamed hmethM hstM hkP hkPi hy (a := b) (cell := cellB) hcell
    (fun z h => by rw [h] at hobj; cases hobj) hselP hmethM habM hkP hkPi (g := g) hg (argsL := argsL) (rest := rest) (hlen _ hsigM) hstack hdg
  obtain ⟨v, B, X', hpost, hsteps⟩ := hK m meth c ⟨T.setVm vm₁, locs, cells, slots⟩ { g with stack := rest } (.invokevirtual index) mk (Value.ref b :: argsL).toArray X₁ hg hsize hdg hW (X₁.named hnamed) (hpre vm₁ X₁.warmed)
  exact ⟨v, vm₁, B, X₁.warmed, X', hpost, fun target h => hstep₁ _ fun acts => by rw [doInvoke_state]; exact hsteps.trans h⟩
abbrev vx_CVW (R : Room) (s : State) (args : Array Value) (own C : String) (index : Nat) (y : MethodName) (bytes : ByteArray) (maxL : Nat) (ret : Option FieldType) (hh : List (Nat × Nat × Nat × Nat)) (ws : List Cond) (rm : Room) (mc ms n : Nat) : Prop :=
  (rm.cells = mc ∧ rm.slots = ms ∧ rm.frames + 1 ≤ R.frames ∧ 8 + (maxL + 11) + rm.locals ≤ R.locals ∧ (∀ w ∈ ws, ∀ (a' : Array Value) (U : State), s.WarmedH U.vm → w.before a' U = true) ∧ Cond.codeWith y bytes maxL ret hh ∈ ws) ∧
  (Cond.codeWith y bytes maxL ret hh).before args s = true ∧ (Cond.initialized y.cls).before args s = true ∧ (y.cls ≠ "java/lang/invoke/MethodHandle" ∧ y.cls ≠ "java/lang/invoke/VarHandle") ∧
  (∀ sig, parseMethodDescriptor y.desc = some sig → n = sig.parameters.length) ∧ (Cond.methodLink own index y).before args s = true ∧ (Cond.instanceMethod y).before args s = true ∧ (Cond.selects C y y).before args s = true
theorem vx_cwVW {own C : String} {index maxL mc ms : Nat} {y : MethodName} {bytes : ByteArray} {ret : Option FieldType} {hh : List (Nat × Nat × Nat × Nat)} {Ts ws ws' : List Cond} {rm : Room} (n : Nat) (ht : ∀ w ∈ Ts, w.before args s = true) (hT : GoodIn Ts (wsV own index C y ws)) (hw : ws = Cond.codeWith y bytes maxL ret hh :: ws') (hrc : rm.cells = mc) (hrs : rm.slots = ms)
    (hd : y.cls = C ∧ y.cls ≠ "java/lang/invoke/MethodHandle" ∧ y.cls ≠ "java/lang/invoke/VarHandle" ∧ (parseMethodDescriptor y.desc).map (fun d => d.parameters.length) = some n) (hR : rm.frames + 1 ≤ R.frames ∧ 8 + (maxL + 11) + rm.locals ≤ R.locals) :
    vx_CVW R s args own C index y bytes maxL ret hh ws rm mc ms n := by
  obtain ⟨hC, hd⟩ := hd
  subst hC
  have ok : ∀ w ∈ wsV own index y.cls y ws, w.before args s = true := fun w h => ht w (hT w h).1
  have hG : GoodIn Ts ws := fun w h => hT w (by unfold wsV; exact List.mem_append_right _ h)
  have hc : Cond.codeWith y bytes maxL ret hh ∈ ws := by rw [hw]; exact List.mem_cons_self
  refine ⟨⟨hrc, hrs, hR.1, hR.2, pay_in ht hG, hc⟩, ht _ (hG _ hc).1, ok _ (by simp [wsV]), ⟨hd.1, hd.2.1⟩, fun sig h => ?_, ok _ (by simp [wsV]), ok _ (by simp [wsV]), ok _ (by simp [wsV])⟩
  have h2 := hd.2.2
  rw [h] at h2
  exact (Option.some.inj h2).symm
theorem vx_runVW {y : MethodName} {bytes cc : ByteArray} {maxL nL mc ms n index : Nat} {ret : Option FieldType} {hh : List (Nat × Nat × Nat × Nat)} {ws : List Cond} {rm : Room} {Pc : Array Value → State → Prop} {Qc : Array Value → State → Outcome → State → Prop} {free : Addr → Prop} {Ts : List Cond} {own C : String} {b : Addr} {As rest : List Value} {g : JFrame}
    (S : CallFix p m c cc nL s args Ts own) (hM : Met l y ws rm Pc Qc mc ms free) (cw : vx_CVW R s args own C index y bytes maxL ret hh ws rm mc ms n) (hp : PreV s H C b Pc As)
    (hg : g.method = m) (hn : As.length = n) (hsize : g.locals.size = nL) (hstack : g.stack = As.reverse ++ .ref b :: rest) (hW : 2 * g.monitorRoom + (rest.map fun v => v.category).sum ≤ 8) (hdg : decode cc g.pc = .ok (.invokevirtual index, 3)) (hf : cells + mc ≤ R.cells ∧ slots + ms ≤ R.slots) :
    va_Run p l e R s m args below meth c H locs cells slots mc ms g rest (Qc (Value.ref b :: As).toArray) free := by
  obtain ⟨⟨hrc, hrs, hfr, hlo, hws, hcw⟩, hcode, hini, hy, hlen, hl, hin, hse⟩ := cw
  have hK : Back l R p e below s args y 3 8 (PreOf R mc ms Pc) (PostOf Qc mc ms free) := va_backW (hh := hh) (bytes := bytes) (maxL := maxL) (ret := ret) hM hp.1 hrc hrs hfr hlo hws hcw (fun a' U hW => word_at hW (Or.inl (by first | rfl | simp [Cond.onTables, Cond.keeps, Cond.steady])) hini)
  obtain ⟨hx, hb, hml, ho, -⟩ := S
  obtain ⟨-, ⟨cellB, hcB, hoB, hclB⟩, hPc⟩ := hp
  intro T hT X
  obtain ⟨v, vm₁, ⟨U', l2, c2, s2⟩, hW₁, X', ⟨g', mk, t, L, e1, e2, hq, h1, hL, h2, h3⟩, st⟩ := vx_callVW X hx (C := C) (hh := hh) (bytes := bytes) (maxL := maxL) (ret := ret) ho hl hin hse hcode hy hK (by rw [hT]; exact hcB) hoB hclB hg (hsize.trans hml.symm) (argsL := As) (rest := rest) (fun sig h => hn.trans (hlen sig h)) hstack hW (by rw [hb]; exact hdg)
    (fun vm₁ hW₁ => ⟨hf.1, hf.2, hPc (T.setVm vm₁) hT hW₁⟩)
  dsimp only [Pt.U, Pt.locs, Pt.cells, Pt.slots] at X' e1 e2 h1 h2 h3 st
  subst h1; subst h2; subst h3
  exact ⟨v, (T.setVm vm₁).calling g' mk (Value.ref b :: As).toArray, t, U', L, hT, X', hL, e1, e2, hq, st⟩
section
variable {y : MethodName} {bytes cc : ByteArray} {maxL nL mc ms n index : Nat} {ret : Option FieldType} {ws : List Cond} {rm : Room} {Pc : Array Value → State → Prop} {Qc : Array Value → State → Outcome → State → Prop} {XC : String → State → State → Prop} {free : Addr → Prop} {Ts : List Cond} {own C : String} {b : Addr} {As rest : List Value} {g : JFrame}
theorem vx_runVX {hh : List (Nat × Nat × Nat × Nat)} (S : CallFix p m c cc nL s args Ts own) (hM : vx_Met l y ws rm Pc Qc XC mc ms free) (cw : vx_CVW R s args own C index y bytes maxL ret hh ws rm mc ms n) (hp : PreV s H C b Pc As)
    (hg : g.method = m) (hn : As.length = n) (hsize : g.locals.size = nL) (hstack : g.stack = As.reverse ++ .ref b :: rest) (hW : 2 * g.monitorRoom + (rest.map fun v => v.category).sum ≤ 8) (hdg : decode cc g.pc = .ok (.invokevirtual index, 3)) (hf : cells + mc ≤ R.cells ∧ slots + ms ≤ R.slots) :
    vx_Run p l e R s m args below meth c H locs cells slots mc ms g rest (Qc (Value.ref b :: As).toArray) XC free := by
  obtain ⟨⟨hrc, hrs, hfr, hlo, hws, hcw⟩, hcode, hini, hy, hlen, hl, hin, hse⟩ := cw
  have hK : vx_Back l R p e below s args y 3 8 (PreOf R mc ms Pc) (PostOf Qc mc ms free) (vx_Post XC mc ms free) := vx_backW (hh := hh) (bytes := bytes) (maxL := maxL) (ret := ret) hM hp.1 hrc hrs hfr hlo hws hcw (fun a' U hW => word_at hW (Or.inl (by first | rfl | simp [Cond.onTables, Cond.keeps, Cond.steady])) hini)
  obtain ⟨hx, hb, hml, ho, -⟩ := S
  obtain ⟨-, ⟨cellB, hcB, hoB, hclB⟩, hPc⟩ := hp
  intro T hT X
  rcases vx_callVX X hx (C := C) (hh := hh) (bytes := bytes) (maxL := maxL) (ret := ret) ho hl hin hse hcode hy hK (by rw [hT]; exact hcB) hoB hclB hg (hsize.trans hml.symm) (argsL := As) (rest := rest) (fun sig h => hn.trans (hlen sig h)) hstack hW (by rw [hb]; exact hdg)
    (fun vm₁ hW₁ => ⟨hf.1, hf.2, hPc (T.setVm vm₁) hT hW₁⟩) with ⟨v, vm₁, ⟨U', l2, c2, s2⟩, hW₁, X', ⟨g', mk, t, L, e1, e2, hq, h1, hL, h2, h3⟩, st⟩ | ⟨q, vm₁, ⟨U', l2, c2, s2⟩, hW₁, X', ⟨g', mk, t, L, E, ce, e1, e2, hq, hce, hcv, hcl, h1, hL, h2, h3⟩, st⟩
  · dsimp only [Pt.U, Pt.locs, Pt.cells, Pt.slots] at X' e1 e2 h1 h2 h3 st
    subst h1; subst h2; subst h3
    exact Or.inl ⟨v, (T.setVm vm₁).calling g' mk (Value.ref b :: As).toArray, t, U', L, hT, X', hL, e1, e2, hq, st⟩
  · dsimp only [Pt.U, Pt.locs, Pt.cells, Pt.slots] at X' e1 e2 h1 h2 h3 st hcl
    subst h1; subst h2; subst h3
    exact Or.inr ⟨q, (T.setVm vm₁).calling g' mk (Value.ref b :: As).toArray, t, U', L, E, ce, hT, X', hL, e1, e2, hq, hce, hcv, vx_cls hW₁ hcl, st⟩
theorem vx_runSX {hh : List (Nat × Nat × Nat × Nat)} (S : CallFix p m c cc nL s args Ts own) (hM : vx_Met l y ws rm Pc Qc XC mc ms free) (cw : vx_CSW R s args own index y bytes maxL ret hh ws rm mc ms n) (hp : PreS s H Pc As)
    (hg : g.method = m) (hn : As.length = n) (hsize : g.locals.size = nL) (hstack : g.stack = As.reverse ++ rest) (hW : 2 * g.monitorRoom + (rest.map fun v => v.category).sum ≤ 8) (hdg : decode cc g.pc = .ok (.invokestatic index, 3)) (hf : cells + mc ≤ R.cells ∧ slots + ms ≤ R.slots) :
    vx_Run p l e R s m args below meth c H locs cells slots mc ms g rest (Qc As.toArray) XC free := by
  obtain ⟨⟨hrc, hrs, hfr, hlo, hws, hcw⟩, hcode, hini, hy, hlen, hl, hstt⟩ := cw
  have hK : vx_Back l R p e below s args y 3 8 (PreOf R mc ms Pc) (PostOf Qc mc ms free) (vx_Post XC mc ms free) := vx_backW (hh := hh) (bytes := bytes) (maxL := maxL) (ret := ret) hM hp.1 hrc hrs hfr hlo hws hcw (fun a' U hW => word_at hW (Or.inl (by first | rfl | simp [Cond.onTables, Cond.keeps, Cond.steady])) hini)
  obtain ⟨hx, hb, hml, ho, -⟩ := S
  intro T hT X
  rcases vx_callSX X hx (hh := hh) (bytes := bytes) (maxL := maxL) (ret := ret) ho hl hstt hini hcode hy hK hg (hsize.trans hml.symm) (argsL := As) (rest := rest) (fun sig h => hn.trans (hlen sig h)) hstack hW (by rw [hb]; exact hdg)
    (fun vm₁ hW₁ => ⟨hf.1, hf.2, hp.2 (T.setVm vm₁) hT hW₁⟩) with ⟨v, vm₁, ⟨U', l2, c2, s2⟩, hW₁, X', ⟨g', mk, t, L, e1, e2, hq, h1, hL, h2, h3⟩, st⟩ | ⟨q, vm₁, ⟨U', l2, c2, s2⟩, hW₁, X', ⟨g', mk, t, L, E, ce, e1, e2, hq, hce, hcv, hcl, h1, hL, h2, h3⟩, st⟩
  · dsimp only [Pt.U, Pt.locs, Pt.cells, Pt.slots] at X' e1 e2 h1 h2 h3 st
    subst h1; subst h2; subst h3
    exact Or.inl ⟨v, (T.setVm vm₁).calling g' mk As.toArray, t, U', L, hT, X', hL, e1, e2, hq, st⟩
  · dsimp only [Pt.U, Pt.locs, Pt.cells, Pt.slots] at X' e1 e2 h1 h2 h3 st hcl
    subst h1; subst h2; subst h3
    exact Or.inr ⟨q, (T.setVm vm₁).calling g' mk As.toArray, t, U', L, E, ce, hT, X', hL, e1, e2, hq, hce, hcv, vx_cls hW₁ hcl, st⟩
end
end VXH
theorem vx_ofWH {l : Launch} {y : MethodName} {ws ws' : List Cond} {rm : Room} {Pc : Array Value → State → Prop} {Qc : Array Value → State → Outcome → State → Prop} {XC : String → State → State → Prop} {mc ms : Nat} {free : Addr → Prop} {cc : ByteArray} {maxL : Nat} {ret : Option FieldType} {hh : List (Nat × Nat × Nat × Nat)}
    (hy : plainName y.cls = true) (hw : ws = Cond.codeWith y cc maxL ret hh :: ws')
    (body : ∀ p e s m args below meth c s₁, BodyLoose p l y (headSpec ws rm) cc maxL ret e s m args below meth c s₁ → c.maxLocals = maxL → Pc args s →
      W p l e (headSpec ws rm).room s m args below meth c s.heap [] 0 0 (vx_MQ below Qc XC args s mc ms free) (entryFrame m args maxL)) : vx_Met l y ws rm Pc Qc XC mc ms free := by
  refine MetFree.of_bodyS (code := cc) (maxLocals := maxL) (ret := ret) hy ?_ ?_
  · intro args s m h hn
    obtain ⟨m9, meth, c, hn9, h1, h2, h3, h4, -, h5, h6, -⟩ := Cond.codeWith_spec (atoms_spec (ws := ws) h _ (by rw [hw]; exact List.mem_cons_self))
    cases hn.symm.trans hn9
    exact ⟨meth, c, h1, h2, h3, h4, h5, h6⟩
  · intro p e s m args below meth c s₁ B hml hP _
    have hh0 : s₁.heap = s.heap := by rw [B.state]; rfl
    obtain ⟨t, a1, o, b1, b2, b3⟩ := body p e s m args below meth c s₁ B hml hP s₁ hh0 (Stand.of_body B)
    exact ⟨t, o, a1, b1, b2, b3⟩
/-! ===== END ===== -/
end
section
/-! names: kinds, fields, methods, words by their places in tables_1 (by program) -/
def R_C : String := "ConsistBus$Car"
def T_C : u_T := fun k => match k with
  | 0 => ("ConsistBus$Car", "id", "I", true)
  | 1 => ("ConsistBus$Car", "mask", "I", true)
  | 2 => ("ConsistBus$Car", "ends", "[LConsistBus$End;", true)
  | 3 => ("ConsistBus$Car", "directory", "LConsistBus$Row;", true)
  | 4 => ("ConsistBus$Car", "draft", "LConsistBus$Row;", true)
  | 5 => ("ConsistBus$Car", "ages", "[I", true)
  | 6 => ("ConsistBus$Car", "words", "[I", true)
  | 7 => ("ConsistBus$Car", "number", "I", false)
  | 8 => ("ConsistBus$Car", "ownWord", "I", false)
  | 9 => ("ConsistBus$Car", "changes", "I", false)
  | _ => ("ConsistBus$Car", "crosses", "I", false)
def ty_C : Nat → FieldType := fun k => match k with
  | 0 => .int
  | 1 => .int
  | 2 => .array (.object "ConsistBus$End")
  | 3 => .object "ConsistBus$Row"
  | 4 => .object "ConsistBus$Row"
  | 5 => .array .int
  | 6 => .array .int
  | 7 => .int
  | 8 => .int
  | 9 => .int
  | _ => .int
theorem nm_C : ∀ a, a < 11 → ∀ b, b < 11 → a ≠ b → (T_C a).2.1 ≠ (T_C b).2.1 := by decide +kernel
theorem ty_C_ok : ∀ k, k < 11 → parseFieldDescriptor (T_C k).2.2.1 = some (ty_C k) := by decide +kernel
def R_N : String := "ConsistBus$End"
def T_N : u_T := fun k => match k with
  | 0 => ("ConsistBus$End", "item", "I", true)
  | 1 => ("ConsistBus$End", "view", "LConsistBus$Row;", true)
  | 2 => ("ConsistBus$End", "toldDirectory", "LConsistBus$Row;", true)
  | 3 => ("ConsistBus$End", "frame", "LConsistBus$Frame;", true)
  | 4 => ("ConsistBus$End", "opposite", "LConsistBus$End;", false)
  | 5 => ("ConsistBus$End", "peer", "LConsistBus$End;", false)
  | 6 => ("ConsistBus$End", "number", "I", false)
  | 7 => ("ConsistBus$End", "whole", "Z", false)
  | _ => ("ConsistBus$End", "silence", "I", false)
def ty_N : Nat → FieldType := fun k => match k with
  | 0 => .int
  | 1 => .object "ConsistBus$Row"
  | 2 => .object "ConsistBus$Row"
  | 3 => .object "ConsistBus$Frame"
  | 4 => .object "ConsistBus$End"
  | 5 => .object "ConsistBus$End"
  | 6 => .int
  | 7 => .boolean
  | _ => .int
theorem nm_N : ∀ a, a < 9 → ∀ b, b < 9 → a ≠ b → (T_N a).2.1 ≠ (T_N b).2.1 := by decide +kernel
theorem ty_N_ok : ∀ k, k < 9 → parseFieldDescriptor (T_N k).2.2.1 = some (ty_N k) := by decide +kernel
def R_F : String := "ConsistBus$Frame"
def T_F : u_T := fun k => match k with
  | 0 => ("ConsistBus$Frame", "view", "LConsistBus$Row;", true)
  | 1 => ("ConsistBus$Frame", "directory", "LConsistBus$Row;", true)
  | 2 => ("ConsistBus$Frame", "ages", "[I", true)
  | 3 => ("ConsistBus$Frame", "words", "[I", true)
  | 4 => ("ConsistBus$Frame", "sender", "I", false)
  | _ => ("ConsistBus$Frame", "whole", "Z", false)
def ty_F : Nat → FieldType := fun k => match k with
  | 0 => .object "ConsistBus$Row"
  | 1 => .object "ConsistBus$Row"
  | 2 => .array .int
  | 3 => .array .int
  | 4 => .int
  | _ => .boolean
theorem nm_F : ∀ a, a < 6 → ∀ b, b < 6 → a ≠ b → (T_F a).2.1 ≠ (T_F b).2.1 := by decide +kernel
theorem ty_F_ok : ∀ k, k < 6 → parseFieldDescriptor (T_F k).2.2.1 = some (ty_F k) := by decide +kernel
def R_R : String := "ConsistBus$Row"
def T_R : u_T := fun k => match k with
  | 0 => ("ConsistBus$Row", "items", "[I", true)
  | _ => ("ConsistBus$Row", "size", "I", false)
def ty_R : Nat → FieldType := fun k => match k with
  | 0 => .array .int
  | _ => .int
theorem nm_R : ∀ a, a < 2 → ∀ b, b < 2 → a ≠ b → (T_R a).2.1 ≠ (T_R b).2.1 := by decide +kernel
theorem ty_R_ok : ∀ k, k < 2 → parseFieldDescriptor (T_R k).2.2.1 = some (ty_R k) := by decide +kernel
def R_B : String := "ConsistBus"
def T_B : u_T := fun k => match k with
  | 0 => ("ConsistBus", "cars", "[LConsistBus$Car;", true)
  | 1 => ("ConsistBus", "carsById", "[LConsistBus$Car;", true)
  | 2 => ("ConsistBus", "marks", "[Z", true)
  | 3 => ("ConsistBus", "run", "LConsistBus$Row;", true)
  | 4 => ("ConsistBus", "carCount", "I", false)
  | 5 => ("ConsistBus", "couplingCount", "I", false)
  | 6 => ("ConsistBus", "takenNumbers", "I", false)
  | 7 => ("ConsistBus", "roundCount", "I", false)
  | _ => ("ConsistBus", "frameCount", "I", false)
def ty_B : Nat → FieldType := fun k => match k with
  | 0 => .array (.object "ConsistBus$Car")
  | 1 => .array (.object "ConsistBus$Car")
  | 2 => .array .boolean
  | 3 => .object "ConsistBus$Row"
  | 4 => .int
  | 5 => .int
  | 6 => .int
  | 7 => .int
  | _ => .int
theorem nm_B : ∀ a, a < 9 → ∀ b, b < 9 → a ≠ b → (T_B a).2.1 ≠ (T_B b).2.1 := by decide +kernel
theorem ty_B_ok : ∀ k, k < 9 → parseFieldDescriptor (T_B k).2.2.1 = some (ty_B k) := by decide +kernel
def R_M : String := "ConsistBusModel"
def T_M : u_T := fun k => match k with
  | 0 => ("ConsistBusModel", "thrown", "I", false)
  | 1 => ("ConsistBusModel", "many", "I", false)
  | 2 => ("ConsistBusModel", "ids", "[I", true)
  | 3 => ("ConsistBusModel", "masks", "[I", true)
  | 4 => ("ConsistBusModel", "links", "[I", true)
  | 5 => ("ConsistBusModel", "couplings", "[I", true)
  | 6 => ("ConsistBusModel", "used", "[Z", true)
  | 7 => ("ConsistBusModel", "count", "I", false)
  | 8 => ("ConsistBusModel", "rounds", "I", false)
  | 9 => ("ConsistBusModel", "frames", "I", false)
  | 10 => ("ConsistBusModel", "views", "[I", true)
  | 11 => ("ConsistBusModel", "sizes", "[I", true)
  | 12 => ("ConsistBusModel", "wholes", "[Z", true)
  | 13 => ("ConsistBusModel", "silences", "[I", true)
  | 14 => ("ConsistBusModel", "directories", "[I", true)
  | 15 => ("ConsistBusModel", "lengths", "[I", true)
  | 16 => ("ConsistBusModel", "heard", "[I", true)
  | 17 => ("ConsistBusModel", "heardLengths", "[I", true)
  | 18 => ("ConsistBusModel", "ages", "[I", true)
  | 19 => ("ConsistBusModel", "bytes", "[I", true)
  | 20 => ("ConsistBusModel", "crosses", "[I", true)
  | 21 => ("ConsistBusModel", "changes", "[I", true)
  | 22 => ("ConsistBusModel", "oldViews", "[I", true)
  | 23 => ("ConsistBusModel", "oldSizes", "[I", true)
  | 24 => ("ConsistBusModel", "oldWholes", "[Z", true)
  | 25 => ("ConsistBusModel", "oldDirectories", "[I", true)
  | 26 => ("ConsistBusModel", "oldLengths", "[I", true)
  | 27 => ("ConsistBusModel", "oldAges", "[I", true)
  | 28 => ("ConsistBusModel", "oldBytes", "[I", true)
  | 29 => ("ConsistBusModel", "row", "[I", true)
  | _ => ("ConsistBusModel", "line", "[I", true)
def ty_M : Nat → FieldType := fun k => match k with
  | 0 => .int
  | 1 => .int
  | 2 => .array .int
  | 3 => .array .int
  | 4 => .array .int
  | 5 => .array .int
  | 6 => .array .boolean
  | 7 => .int
  | 8 => .int
  | 9 => .int
  | 10 => .array .int
  | 11 => .array .int
  | 12 => .array .boolean
  | 13 => .array .int
  | 14 => .array .int
  | 15 => .array .int
  | 16 => .array .int
  | 17 => .array .int
  | 18 => .array .int
  | 19 => .array .int
  | 20 => .array .int
  | 21 => .array .int
  | 22 => .array .int
  | 23 => .array .int
  | 24 => .array .boolean
  | 25 => .array .int
  | 26 => .array .int
  | 27 => .array .int
  | 28 => .array .int
  | 29 => .array .int
  | _ => .array .int
theorem nm_M : ∀ a, a < 31 → ∀ b, b < 31 → a ≠ b → (T_M a).2.1 ≠ (T_M b).2.1 := by decide +kernel
theorem ty_M_ok : ∀ k, k < 31 → parseFieldDescriptor (T_M k).2.2.1 = some (ty_M k) := by decide +kernel
def R_L : String := "ConsistBusLaw"
def R_A : String := "java/util/Arrays"
def R_J : String := "java/lang/Math"
abbrev vwCl : List vw_C := [(R_C, T_C, 11), (R_N, T_N, 9), (R_F, T_F, 6), (R_R, T_R, 2), (R_B, T_B, 9), (R_M, T_M, 31)]
def kx_WS : List Cond := lw_tbl.filter goodWord
def kx_tys : List FieldType := [.int, .boolean, .long, .object "ConsistBus$Car", .object "ConsistBus$End"]
theorem kx_in {w : Cond} (i : Nat) (h : tables_1[i]? = some w) (g : goodWord w = true) : w ∈ kx_WS := List.mem_filter.mpr ⟨List.mem_append_right _ (List.mem_of_getElem? h), g⟩
theorem kx_inS (q : MethodName × Nat) (h : q ∈ lw_privs) : Cond.selects q.1.cls q.1 q.1 ∈ kx_WS := List.mem_filter.mpr ⟨List.mem_append_left _ (List.mem_map.mpr ⟨q, h, rfl⟩), rfl⟩
theorem u_C_0 : u_lay R_C T_C 0 ∈ kx_WS := kx_in 305 (by decide +kernel) (by decide +kernel)
theorem u_C_1 : u_lay R_C T_C 1 ∈ kx_WS := kx_in 307 (by decide +kernel) (by decide +kernel)
theorem u_C_2 : u_lay R_C T_C 2 ∈ kx_WS := kx_in 309 (by decide +kernel) (by decide +kernel)
theorem u_C_3 : u_lay R_C T_C 3 ∈ kx_WS := kx_in 311 (by decide +kernel) (by decide +kernel)
theorem u_C_4 : u_lay R_C T_C 4 ∈ kx_WS := kx_in 313 (by decide +kernel) (by decide +kernel)
theorem u_C_5 : u_lay R_C T_C 5 ∈ kx_WS := kx_in 315 (by decide +kernel) (by decide +kernel)
theorem u_C_6 : u_lay R_C T_C 6 ∈ kx_WS := kx_in 317 (by decide +kernel) (by decide +kernel)
theorem u_C_7 : u_lay R_C T_C 7 ∈ kx_WS := kx_in 319 (by decide +kernel) (by decide +kernel)
theorem u_C_8 : u_lay R_C T_C 8 ∈ kx_WS := kx_in 321 (by decide +kernel) (by decide +kernel)
theorem u_C_9 : u_lay R_C T_C 9 ∈ kx_WS := kx_in 323 (by decide +kernel) (by decide +kernel)
theorem u_C_10 : u_lay R_C T_C 10 ∈ kx_WS := kx_in 325 (by decide +kernel) (by decide +kernel)
theorem u_C : ∀ c ∈ u_ws R_C T_C 11, c ∈ kx_WS := by
  intro c hc
  obtain ⟨k, hk, rfl⟩ := List.mem_map.mp hc
  have hk := List.mem_range.mp hk
  match k, hk with
  | 0, _ => exact u_C_0
  | 1, _ => exact u_C_1
  | 2, _ => exact u_C_2
  | 3, _ => exact u_C_3
  | 4, _ => exact u_C_4
  | 5, _ => exact u_C_5
  | 6, _ => exact u_C_6
  | 7, _ => exact u_C_7
  | 8, _ => exact u_C_8
  | 9, _ => exact u_C_9
  | 10, _ => exact u_C_10
theorem u_N_0 : u_lay R_N T_N 0 ∈ kx_WS := kx_in 268 (by decide +kernel) (by decide +kernel)
theorem u_N_1 : u_lay R_N T_N 1 ∈ kx_WS := kx_in 270 (by decide +kernel) (by decide +kernel)
theorem u_N_2 : u_lay R_N T_N 2 ∈ kx_WS := kx_in 272 (by decide +kernel) (by decide +kernel)
theorem u_N_3 : u_lay R_N T_N 3 ∈ kx_WS := kx_in 274 (by decide +kernel) (by decide +kernel)
theorem u_N_4 : u_lay R_N T_N 4 ∈ kx_WS := kx_in 276 (by decide +kernel) (by decide +kernel)
theorem u_N_5 : u_lay R_N T_N 5 ∈ kx_WS := kx_in 278 (by decide +kernel) (by decide +kernel)
theorem u_N_6 : u_lay R_N T_N 6 ∈ kx_WS := kx_in 280 (by decide +kernel) (by decide +kernel)
theorem u_N_7 : u_lay R_N T_N 7 ∈ kx_WS := kx_in 282 (by decide +kernel) (by decide +kernel)
theorem u_N_8 : u_lay R_N T_N 8 ∈ kx_WS := kx_in 284 (by decide +kernel) (by decide +kernel)
theorem u_N : ∀ c ∈ u_ws R_N T_N 9, c ∈ kx_WS := by
  intro c hc
  obtain ⟨k, hk, rfl⟩ := List.mem_map.mp hc
  have hk := List.mem_range.mp hk
  match k, hk with
  | 0, _ => exact u_N_0
  | 1, _ => exact u_N_1
  | 2, _ => exact u_N_2
  | 3, _ => exact u_N_3
  | 4, _ => exact u_N_4
  | 5, _ => exact u_N_5
  | 6, _ => exact u_N_6
  | 7, _ => exact u_N_7
  | 8, _ => exact u_N_8
theorem u_F_0 : u_lay R_F T_F 0 ∈ kx_WS := kx_in 233 (by decide +kernel) (by decide +kernel)
theorem u_F_1 : u_lay R_F T_F 1 ∈ kx_WS := kx_in 235 (by decide +kernel) (by decide +kernel)
theorem u_F_2 : u_lay R_F T_F 2 ∈ kx_WS := kx_in 237 (by decide +kernel) (by decide +kernel)
theorem u_F_3 : u_lay R_F T_F 3 ∈ kx_WS := kx_in 239 (by decide +kernel) (by decide +kernel)
theorem u_F_4 : u_lay R_F T_F 4 ∈ kx_WS := kx_in 241 (by decide +kernel) (by decide +kernel)
theorem u_F_5 : u_lay R_F T_F 5 ∈ kx_WS := kx_in 243 (by decide +kernel) (by decide +kernel)
theorem u_F : ∀ c ∈ u_ws R_F T_F 6, c ∈ kx_WS := by
  intro c hc
  obtain ⟨k, hk, rfl⟩ := List.mem_map.mp hc
  have hk := List.mem_range.mp hk
  match k, hk with
  | 0, _ => exact u_F_0
  | 1, _ => exact u_F_1
  | 2, _ => exact u_F_2
  | 3, _ => exact u_F_3
  | 4, _ => exact u_F_4
  | 5, _ => exact u_F_5
theorem u_R_0 : u_lay R_R T_R 0 ∈ kx_WS := kx_in 35 (by decide +kernel) (by decide +kernel)
theorem u_R_1 : u_lay R_R T_R 1 ∈ kx_WS := kx_in 37 (by decide +kernel) (by decide +kernel)
theorem u_R : ∀ c ∈ u_ws R_R T_R 2, c ∈ kx_WS := by
  intro c hc
  obtain ⟨k, hk, rfl⟩ := List.mem_map.mp hc
  have hk := List.mem_range.mp hk
  match k, hk with
  | 0, _ => exact u_R_0
  | 1, _ => exact u_R_1
theorem u_B_0 : u_lay R_B T_B 0 ∈ kx_WS := kx_in 51 (by decide +kernel) (by decide +kernel)
theorem u_B_1 : u_lay R_B T_B 1 ∈ kx_WS := kx_in 53 (by decide +kernel) (by decide +kernel)
theorem u_B_2 : u_lay R_B T_B 2 ∈ kx_WS := kx_in 55 (by decide +kernel) (by decide +kernel)
theorem u_B_3 : u_lay R_B T_B 3 ∈ kx_WS := kx_in 57 (by decide +kernel) (by decide +kernel)
theorem u_B_4 : u_lay R_B T_B 4 ∈ kx_WS := kx_in 59 (by decide +kernel) (by decide +kernel)
theorem u_B_5 : u_lay R_B T_B 5 ∈ kx_WS := kx_in 61 (by decide +kernel) (by decide +kernel)
theorem u_B_6 : u_lay R_B T_B 6 ∈ kx_WS := kx_in 63 (by decide +kernel) (by decide +kernel)
theorem u_B_7 : u_lay R_B T_B 7 ∈ kx_WS := kx_in 65 (by decide +kernel) (by decide +kernel)
theorem u_B_8 : u_lay R_B T_B 8 ∈ kx_WS := kx_in 67 (by decide +kernel) (by decide +kernel)
theorem u_B : ∀ c ∈ u_ws R_B T_B 9, c ∈ kx_WS := by
  intro c hc
  obtain ⟨k, hk, rfl⟩ := List.mem_map.mp hc
  have hk := List.mem_range.mp hk
  match k, hk with
  | 0, _ => exact u_B_0
  | 1, _ => exact u_B_1
  | 2, _ => exact u_B_2
  | 3, _ => exact u_B_3
  | 4, _ => exact u_B_4
  | 5, _ => exact u_B_5
  | 6, _ => exact u_B_6
  | 7, _ => exact u_B_7
  | 8, _ => exact u_B_8
theorem u_M_0 : u_lay R_M T_M 0 ∈ kx_WS := kx_in 631 (by decide +kernel) (by decide +kernel)
theorem u_M_1 : u_lay R_M T_M 1 ∈ kx_WS := kx_in 633 (by decide +kernel) (by decide +kernel)
theorem u_M_2 : u_lay R_M T_M 2 ∈ kx_WS := kx_in 635 (by decide +kernel) (by decide +kernel)
theorem u_M_3 : u_lay R_M T_M 3 ∈ kx_WS := kx_in 637 (by decide +kernel) (by decide +kernel)
theorem u_M_4 : u_lay R_M T_M 4 ∈ kx_WS := kx_in 639 (by decide +kernel) (by decide +kernel)
theorem u_M_5 : u_lay R_M T_M 5 ∈ kx_WS := kx_in 641 (by decide +kernel) (by decide +kernel)
theorem u_M_6 : u_lay R_M T_M 6 ∈ kx_WS := kx_in 643 (by decide +kernel) (by decide +kernel)
theorem u_M_7 : u_lay R_M T_M 7 ∈ kx_WS := kx_in 645 (by decide +kernel) (by decide +kernel)
theorem u_M_8 : u_lay R_M T_M 8 ∈ kx_WS := kx_in 647 (by decide +kernel) (by decide +kernel)
theorem u_M_9 : u_lay R_M T_M 9 ∈ kx_WS := kx_in 649 (by decide +kernel) (by decide +kernel)
theorem u_M_10 : u_lay R_M T_M 10 ∈ kx_WS := kx_in 651 (by decide +kernel) (by decide +kernel)
theorem u_M_11 : u_lay R_M T_M 11 ∈ kx_WS := kx_in 653 (by decide +kernel) (by decide +kernel)
theorem u_M_12 : u_lay R_M T_M 12 ∈ kx_WS := kx_in 655 (by decide +kernel) (by decide +kernel)
theorem u_M_13 : u_lay R_M T_M 13 ∈ kx_WS := kx_in 657 (by decide +kernel) (by decide +kernel)
theorem u_M_14 : u_lay R_M T_M 14 ∈ kx_WS := kx_in 659 (by decide +kernel) (by decide +kernel)
theorem u_M_15 : u_lay R_M T_M 15 ∈ kx_WS := kx_in 661 (by decide +kernel) (by decide +kernel)
theorem u_M_16 : u_lay R_M T_M 16 ∈ kx_WS := kx_in 663 (by decide +kernel) (by decide +kernel)
theorem u_M_17 : u_lay R_M T_M 17 ∈ kx_WS := kx_in 665 (by decide +kernel) (by decide +kernel)
theorem u_M_18 : u_lay R_M T_M 18 ∈ kx_WS := kx_in 667 (by decide +kernel) (by decide +kernel)
theorem u_M_19 : u_lay R_M T_M 19 ∈ kx_WS := kx_in 669 (by decide +kernel) (by decide +kernel)
theorem u_M_20 : u_lay R_M T_M 20 ∈ kx_WS := kx_in 671 (by decide +kernel) (by decide +kernel)
theorem u_M_21 : u_lay R_M T_M 21 ∈ kx_WS := kx_in 673 (by decide +kernel) (by decide +kernel)
theorem u_M_22 : u_lay R_M T_M 22 ∈ kx_WS := kx_in 675 (by decide +kernel) (by decide +kernel)
theorem u_M_23 : u_lay R_M T_M 23 ∈ kx_WS := kx_in 677 (by decide +kernel) (by decide +kernel)
theorem u_M_24 : u_lay R_M T_M 24 ∈ kx_WS := kx_in 679 (by decide +kernel) (by decide +kernel)
theorem u_M_25 : u_lay R_M T_M 25 ∈ kx_WS := kx_in 681 (by decide +kernel) (by decide +kernel)
theorem u_M_26 : u_lay R_M T_M 26 ∈ kx_WS := kx_in 683 (by decide +kernel) (by decide +kernel)
theorem u_M_27 : u_lay R_M T_M 27 ∈ kx_WS := kx_in 685 (by decide +kernel) (by decide +kernel)
theorem u_M_28 : u_lay R_M T_M 28 ∈ kx_WS := kx_in 687 (by decide +kernel) (by decide +kernel)
theorem u_M_29 : u_lay R_M T_M 29 ∈ kx_WS := kx_in 689 (by decide +kernel) (by decide +kernel)
theorem u_M_30 : u_lay R_M T_M 30 ∈ kx_WS := kx_in 691 (by decide +kernel) (by decide +kernel)
theorem u_M : ∀ c ∈ u_ws R_M T_M 31, c ∈ kx_WS := by
  intro c hc
  obtain ⟨k, hk, rfl⟩ := List.mem_map.mp hc
  have hk := List.mem_range.mp hk
  match k, hk with
  | 0, _ => exact u_M_0
  | 1, _ => exact u_M_1
  | 2, _ => exact u_M_2
  | 3, _ => exact u_M_3
  | 4, _ => exact u_M_4
  | 5, _ => exact u_M_5
  | 6, _ => exact u_M_6
  | 7, _ => exact u_M_7
  | 8, _ => exact u_M_8
  | 9, _ => exact u_M_9
  | 10, _ => exact u_M_10
  | 11, _ => exact u_M_11
  | 12, _ => exact u_M_12
  | 13, _ => exact u_M_13
  | 14, _ => exact u_M_14
  | 15, _ => exact u_M_15
  | 16, _ => exact u_M_16
  | 17, _ => exact u_M_17
  | 18, _ => exact u_M_18
  | 19, _ => exact u_M_19
  | 20, _ => exact u_M_20
  | 21, _ => exact u_M_21
  | 22, _ => exact u_M_22
  | 23, _ => exact u_M_23
  | 24, _ => exact u_M_24
  | 25, _ => exact u_M_25
  | 26, _ => exact u_M_26
  | 27, _ => exact u_M_27
  | 28, _ => exact u_M_28
  | 29, _ => exact u_M_29
  | 30, _ => exact u_M_30
  | k + 31, h => exact absurd h (by omega)
abbrev c_B_init : ByteArray := prog_1_method_1_code
def y_B_init : MethodName := ⟨R_B, "<init>", "()V"⟩
theorem k_B_init : Cond.code y_B_init c_B_init 1 (none) ∈ kx_WS := kx_in 20 (by decide +kernel) rfl
abbrev c_R_init : ByteArray := prog_5_method_1_code
def y_R_init : MethodName := ⟨R_R, "<init>", "()V"⟩
theorem k_R_init : Cond.code y_R_init c_R_init 1 (none) ∈ kx_WS := kx_in 30 (by decide +kernel) rfl
abbrev c_B_settled : ByteArray := prog_1_method_15_code
def y_B_settled : MethodName := ⟨R_B, "settled", "()I"⟩
theorem k_B_settled : Cond.code y_B_settled c_B_settled 4 (some .int) ∈ kx_WS := kx_in 73 (by decide +kernel) rfl
abbrev c_C_state : ByteArray := prog_2_method_7_code
def y_C_state : MethodName := ⟨R_C, "state", "()I"⟩
theorem k_C_state : Cond.code y_C_state c_C_state 1 (some .int) ∈ kx_WS := kx_in 77 (by decide +kernel) rfl
abbrev c_C_agreesAt : ByteArray := prog_2_method_8_code
def y_C_agreesAt : MethodName := ⟨R_C, "agreesAt", "(LConsistBus$End;)Z"⟩
theorem k_C_agreesAt : Cond.code y_C_agreesAt c_C_agreesAt 2 (some .boolean) ∈ kx_WS := kx_in 82 (by decide +kernel) rfl
abbrev c_R_isSameAs : ByteArray := prog_5_method_6_code
def y_R_isSameAs : MethodName := ⟨R_R, "isSameAs", "(LConsistBus$Row;)Z"⟩
theorem k_R_isSameAs : Cond.code y_R_isSameAs c_R_isSameAs 3 (some .boolean) ∈ kx_WS := kx_in 86 (by decide +kernel) rfl
abbrev c_B_trueRun : ByteArray := prog_1_method_21_code
def y_B_trueRun : MethodName := ⟨R_B, "trueRun", "(LConsistBus$Car;)LConsistBus$Row;"⟩
theorem k_B_trueRun : Cond.code y_B_trueRun c_B_trueRun 6 (some (.object "ConsistBus$Row")) ∈ kx_WS := kx_in 90 (by decide +kernel) rfl
abbrev c_N_outermost : ByteArray := prog_3_method_5_code
def y_N_outermost : MethodName := ⟨R_N, "outermost", "()LConsistBus$End;"⟩
theorem k_N_outermost : Cond.code y_N_outermost c_N_outermost 3 (some (.object "ConsistBus$End")) ∈ kx_WS := kx_in 94 (by decide +kernel) rfl
abbrev c_R_clear : ByteArray := prog_5_method_2_code
def y_R_clear : MethodName := ⟨R_R, "clear", "()V"⟩
theorem k_R_clear : Cond.code y_R_clear c_R_clear 1 (none) ∈ kx_WS := kx_in 98 (by decide +kernel) rfl
abbrev c_R_append : ByteArray := prog_5_method_3_code
def y_R_append : MethodName := ⟨R_R, "append", "(I)V"⟩
theorem k_R_append : Cond.code y_R_append c_R_append 2 (none) ∈ kx_WS := kx_in 102 (by decide +kernel) rfl
abbrev c_L_add : ByteArray := method_3_code
def y_L_add : MethodName := ⟨R_L, "add", "(LConsistBus;II[J)I"⟩
theorem k_L_add : Cond.codeWith y_L_add c_L_add 5 (some .int) [(0, 10, 13, 13), (0, 10, 17, 15)] ∈ kx_WS := kx_in 106 (by decide +kernel) rfl
abbrev c_B_add : ByteArray := prog_1_method_2_code
def y_B_add : MethodName := ⟨R_B, "add", "(II)I"⟩
theorem k_B_add : Cond.code y_B_add c_B_add 4 (some .int) ∈ kx_WS := kx_in 112 (by decide +kernel) rfl
abbrev c_C_init : ByteArray := prog_2_method_1_code
def y_C_init : MethodName := ⟨R_C, "<init>", "(II)V"⟩
theorem k_C_init : Cond.code y_C_init c_C_init 3 (none) ∈ kx_WS := kx_in 200 (by decide +kernel) rfl
abbrev c_N_init : ByteArray := prog_3_method_1_code
def y_N_init : MethodName := ⟨R_N, "<init>", "(I)V"⟩
theorem k_N_init : Cond.code y_N_init c_N_init 2 (none) ∈ kx_WS := kx_in 207 (by decide +kernel) rfl
abbrev c_F_init : ByteArray := prog_4_method_1_code
def y_F_init : MethodName := ⟨R_F, "<init>", "()V"⟩
theorem k_F_init : Cond.code y_F_init c_F_init 1 (none) ∈ kx_WS := kx_in 215 (by decide +kernel) rfl
abbrev c_A_fill : ByteArray := prog_16_method_103_code
def y_A_fill : MethodName := ⟨R_A, "fill", "([II)V"⟩
theorem k_A_fill : Cond.code y_A_fill c_A_fill 4 (none) ∈ kx_WS := kx_in 291 (by decide +kernel) rfl
abbrev c_L_couple : ByteArray := method_4_code
def y_L_couple : MethodName := ⟨R_L, "couple", "(LConsistBus;IIII[J)I"⟩
theorem k_L_couple : Cond.codeWith y_L_couple c_L_couple 7 (some .int) [(0, 14, 17, 21), (0, 14, 21, 15)] ∈ kx_WS := kx_in 330 (by decide +kernel) rfl
abbrev c_B_couple : ByteArray := prog_1_method_3_code
def y_B_couple : MethodName := ⟨R_B, "couple", "(IIII)I"⟩
theorem k_B_couple : Cond.code y_B_couple c_B_couple 8 (some .int) ∈ kx_WS := kx_in 335 (by decide +kernel) rfl
abbrev c_B_endOf : ByteArray := prog_1_method_19_code
def y_B_endOf : MethodName := ⟨R_B, "endOf", "(II)LConsistBus$End;"⟩
theorem k_B_endOf : Cond.code y_B_endOf c_B_endOf 4 (some (.object "ConsistBus$End")) ∈ kx_WS := kx_in 339 (by decide +kernel) rfl
abbrev c_B_carOf : ByteArray := prog_1_method_18_code
def y_B_carOf : MethodName := ⟨R_B, "carOf", "(I)LConsistBus$Car;"⟩
theorem k_B_carOf : Cond.code y_B_carOf c_B_carOf 3 (some (.object "ConsistBus$Car")) ∈ kx_WS := kx_in 343 (by decide +kernel) rfl
abbrev c_B_carWithId : ByteArray := prog_1_method_17_code
def y_B_carWithId : MethodName := ⟨R_B, "carWithId", "(I)LConsistBus$Car;"⟩
theorem k_B_carWithId : Cond.code y_B_carWithId c_B_carWithId 2 (some (.object "ConsistBus$Car")) ∈ kx_WS := kx_in 347 (by decide +kernel) rfl
abbrev c_R_numberOf : ByteArray := prog_5_method_10_code
def y_R_numberOf : MethodName := ⟨R_R, "numberOf", "(I)I"⟩
theorem k_R_numberOf : Cond.code y_R_numberOf c_R_numberOf 3 (some .int) ∈ kx_WS := kx_in 368 (by decide +kernel) rfl
abbrev c_B_freeNumber : ByteArray := prog_1_method_20_code
def y_B_freeNumber : MethodName := ⟨R_B, "freeNumber", "()I"⟩
theorem k_B_freeNumber : Cond.code y_B_freeNumber c_B_freeNumber 2 (some .int) ∈ kx_WS := kx_in 373 (by decide +kernel) rfl
abbrev c_N_join : ByteArray := prog_3_method_2_code
def y_N_join : MethodName := ⟨R_N, "join", "(LConsistBus$End;I)V"⟩
theorem k_N_join : Cond.code y_N_join c_N_join 3 (none) ∈ kx_WS := kx_in 377 (by decide +kernel) rfl
abbrev c_L_uncouple : ByteArray := method_5_code
def y_L_uncouple : MethodName := ⟨R_L, "uncouple", "(LConsistBus;II[J)I"⟩
theorem k_L_uncouple : Cond.codeWith y_L_uncouple c_L_uncouple 5 (some .int) [(0, 10, 13, 21), (0, 10, 17, 15)] ∈ kx_WS := kx_in 380 (by decide +kernel) rfl
abbrev c_B_uncouple : ByteArray := prog_1_method_4_code
def y_B_uncouple : MethodName := ⟨R_B, "uncouple", "(II)I"⟩
theorem k_B_uncouple : Cond.code y_B_uncouple c_B_uncouple 6 (some .int) ∈ kx_WS := kx_in 384 (by decide +kernel) rfl
abbrev c_N_part : ByteArray := prog_3_method_3_code
def y_N_part : MethodName := ⟨R_N, "part", "()V"⟩
theorem k_N_part : Cond.code y_N_part c_N_part 1 (none) ∈ kx_WS := kx_in 389 (by decide +kernel) rfl
abbrev c_L_reset : ByteArray := method_6_code
def y_L_reset : MethodName := ⟨R_L, "reset", "(LConsistBus;I)I"⟩
theorem k_L_reset : Cond.codeWith y_L_reset c_L_reset 3 (some .int) [(0, 5, 8, 21)] ∈ kx_WS := kx_in 392 (by decide +kernel) rfl
abbrev c_B_reset : ByteArray := prog_1_method_5_code
def y_B_reset : MethodName := ⟨R_B, "reset", "(I)V"⟩
theorem k_B_reset : Cond.code y_B_reset c_B_reset 2 (none) ∈ kx_WS := kx_in 396 (by decide +kernel) rfl
abbrev c_C_forget : ByteArray := prog_2_method_3_code
def y_C_forget : MethodName := ⟨R_C, "forget", "()V"⟩
theorem k_C_forget : Cond.code y_C_forget c_C_forget 1 (none) ∈ kx_WS := kx_in 400 (by decide +kernel) rfl
abbrev c_N_forget : ByteArray := prog_3_method_4_code
def y_N_forget : MethodName := ⟨R_N, "forget", "()V"⟩
theorem k_N_forget : Cond.code y_N_forget c_N_forget 1 (none) ∈ kx_WS := kx_in 404 (by decide +kernel) rfl
abbrev c_L_rounds : ByteArray := method_7_code
def y_L_rounds : MethodName := ⟨R_L, "rounds", "(LConsistBus;II[J)I"⟩
theorem k_L_rounds : Cond.codeWith y_L_rounds c_L_rounds 5 (some .int) [(0, 10, 13, 13)] ∈ kx_WS := kx_in 409 (by decide +kernel) rfl
abbrev c_B_rounds : ByteArray := prog_1_method_6_code
def y_B_rounds : MethodName := ⟨R_B, "rounds", "(II)I"⟩
theorem k_B_rounds : Cond.code y_B_rounds c_B_rounds 5 (some .int) ∈ kx_WS := kx_in 413 (by decide +kernel) rfl
abbrev c_B_playRound : ByteArray := prog_1_method_22_code
def y_B_playRound : MethodName := ⟨R_B, "playRound", "(I)I"⟩
theorem k_B_playRound : Cond.code y_B_playRound c_B_playRound 4 (some .int) ∈ kx_WS := kx_in 418 (by decide +kernel) rfl
abbrev c_C_makeFrames : ByteArray := prog_2_method_9_code
def y_C_makeFrames : MethodName := ⟨R_C, "makeFrames", "()V"⟩
theorem k_C_makeFrames : Cond.code y_C_makeFrames c_C_makeFrames 2 (none) ∈ kx_WS := kx_in 422 (by decide +kernel) rfl
abbrev c_C_fillFrame : ByteArray := prog_2_method_10_code
def y_C_fillFrame : MethodName := ⟨R_C, "fillFrame", "(LConsistBus$End;)V"⟩
theorem k_C_fillFrame : Cond.code y_C_fillFrame c_C_fillFrame 3 (none) ∈ kx_WS := kx_in 426 (by decide +kernel) rfl
abbrev c_R_copyFrom : ByteArray := prog_5_method_5_code
def y_R_copyFrom : MethodName := ⟨R_R, "copyFrom", "(LConsistBus$Row;)V"⟩
theorem k_R_copyFrom : Cond.code y_R_copyFrom c_R_copyFrom 2 (none) ∈ kx_WS := kx_in 430 (by decide +kernel) rfl
abbrev c_C_listen : ByteArray := prog_2_method_11_code
def y_C_listen : MethodName := ⟨R_C, "listen", "(I[Z)I"⟩
theorem k_C_listen : Cond.code y_C_listen c_C_listen 5 (some .int) ∈ kx_WS := kx_in 438 (by decide +kernel) rfl
abbrev c_N_incoming : ByteArray := prog_3_method_6_code
def y_N_incoming : MethodName := ⟨R_N, "incoming", "(I)LConsistBus$Frame;"⟩
theorem k_N_incoming : Cond.code y_N_incoming c_N_incoming 2 (some (.object "ConsistBus$Frame")) ∈ kx_WS := kx_in 442 (by decide +kernel) rfl
abbrev c_N_lookInto : ByteArray := prog_3_method_7_code
def y_N_lookInto : MethodName := ⟨R_N, "lookInto", "(LConsistBus$Frame;)V"⟩
theorem k_N_lookInto : Cond.code y_N_lookInto c_N_lookInto 2 (none) ∈ kx_WS := kx_in 446 (by decide +kernel) rfl
abbrev c_N_fallSilent : ByteArray := prog_3_method_8_code
def y_N_fallSilent : MethodName := ⟨R_N, "fallSilent", "()V"⟩
theorem k_N_fallSilent : Cond.code y_N_fallSilent c_N_fallSilent 1 (none) ∈ kx_WS := kx_in 450 (by decide +kernel) rfl
abbrev c_J_min : ByteArray := prog_11_method_69_code
def y_J_min : MethodName := ⟨R_J, "min", "(II)I"⟩
theorem k_J_min : Cond.code y_J_min c_J_min 2 (some .int) ∈ kx_WS := kx_in 453 (by decide +kernel) rfl
abbrev c_R_appendAll : ByteArray := prog_5_method_4_code
def y_R_appendAll : MethodName := ⟨R_R, "appendAll", "(LConsistBus$Row;)V"⟩
theorem k_R_appendAll : Cond.code y_R_appendAll c_R_appendAll 3 (none) ∈ kx_WS := kx_in 458 (by decide +kernel) rfl
abbrev c_C_renewDirectory : ByteArray := prog_2_method_12_code
def y_C_renewDirectory : MethodName := ⟨R_C, "renewDirectory", "([Z)V"⟩
theorem k_C_renewDirectory : Cond.code y_C_renewDirectory c_C_renewDirectory 2 (none) ∈ kx_WS := kx_in 464 (by decide +kernel) rfl
abbrev c_C_draftDirectory : ByteArray := prog_2_method_13_code
def y_C_draftDirectory : MethodName := ⟨R_C, "draftDirectory", "([Z)V"⟩
theorem k_C_draftDirectory : Cond.code y_C_draftDirectory c_C_draftDirectory 5 (none) ∈ kx_WS := kx_in 468 (by decide +kernel) rfl
abbrev c_R_turnRound : ByteArray := prog_5_method_12_code
def y_R_turnRound : MethodName := ⟨R_R, "turnRound", "()V"⟩
theorem k_R_turnRound : Cond.code y_R_turnRound c_R_turnRound 4 (none) ∈ kx_WS := kx_in 472 (by decide +kernel) rfl
abbrev c_R_hasCarTwice : ByteArray := prog_5_method_11_code
def y_R_hasCarTwice : MethodName := ⟨R_R, "hasCarTwice", "([Z)Z"⟩
theorem k_R_hasCarTwice : Cond.code y_R_hasCarTwice c_R_hasCarTwice 5 (some .boolean) ∈ kx_WS := kx_in 478 (by decide +kernel) rfl
abbrev c_R_idAt : ByteArray := prog_5_method_8_code
def y_R_idAt : MethodName := ⟨R_R, "idAt", "(I)I"⟩
theorem k_R_idAt : Cond.code y_R_idAt c_R_idAt 2 (some .int) ∈ kx_WS := kx_in 482 (by decide +kernel) rfl
abbrev c_C_growOlder : ByteArray := prog_2_method_14_code
def y_C_growOlder : MethodName := ⟨R_C, "growOlder", "()V"⟩
theorem k_C_growOlder : Cond.code y_C_growOlder c_C_growOlder 2 (none) ∈ kx_WS := kx_in 487 (by decide +kernel) rfl
abbrev c_C_heed : ByteArray := prog_2_method_15_code
def y_C_heed : MethodName := ⟨R_C, "heed", "(LConsistBus$Frame;)I"⟩
theorem k_C_heed : Cond.code y_C_heed c_C_heed 2 (some .int) ∈ kx_WS := kx_in 491 (by decide +kernel) rfl
abbrev c_C_takeNews : ByteArray := prog_2_method_16_code
def y_C_takeNews : MethodName := ⟨R_C, "takeNews", "(LConsistBus$Frame;)V"⟩
theorem k_C_takeNews : Cond.code y_C_takeNews c_C_takeNews 5 (none) ∈ kx_WS := kx_in 495 (by decide +kernel) rfl
abbrev c_L_coupling : ByteArray := method_8_code
def y_L_coupling : MethodName := ⟨R_L, "coupling", "(LConsistBus;II[J)I"⟩
theorem k_L_coupling : Cond.codeWith y_L_coupling c_L_coupling 5 (some .int) [(0, 10, 13, 21)] ∈ kx_WS := kx_in 498 (by decide +kernel) rfl
abbrev c_B_coupling : ByteArray := prog_1_method_7_code
def y_B_coupling : MethodName := ⟨R_B, "coupling", "(II)I"⟩
theorem k_B_coupling : Cond.code y_B_coupling c_B_coupling 3 (some .int) ∈ kx_WS := kx_in 502 (by decide +kernel) rfl
abbrev c_L_about : ByteArray := method_9_code
def y_L_about : MethodName := ⟨R_L, "about", "(LConsistBus;II[J)I"⟩
theorem k_L_about : Cond.codeWith y_L_about c_L_about 5 (some .int) [(0, 10, 13, 21), (0, 10, 17, 13)] ∈ kx_WS := kx_in 505 (by decide +kernel) rfl
abbrev c_B_about : ByteArray := prog_1_method_8_code
def y_B_about : MethodName := ⟨R_B, "about", "(II)I"⟩
theorem k_B_about : Cond.code y_B_about c_B_about 4 (some .int) ∈ kx_WS := kx_in 509 (by decide +kernel) rfl
abbrev c_C_fact : ByteArray := prog_2_method_6_code
def y_C_fact : MethodName := ⟨R_C, "fact", "(I)I"⟩
theorem k_C_fact : Cond.code y_C_fact c_C_fact 2 (some .int) ∈ kx_WS := kx_in 514 (by decide +kernel) rfl
abbrev c_R_endAt : ByteArray := prog_5_method_9_code
def y_R_endAt : MethodName := ⟨R_R, "endAt", "(I)I"⟩
theorem k_R_endAt : Cond.code y_R_endAt c_R_endAt 2 (some .int) ∈ kx_WS := kx_in 519 (by decide +kernel) rfl
abbrev c_L_directory : ByteArray := method_10_code
def y_L_directory : MethodName := ⟨R_L, "directory", "(LConsistBus;II[J)I"⟩
theorem k_L_directory : Cond.codeWith y_L_directory c_L_directory 5 (some .int) [(0, 10, 13, 21)] ∈ kx_WS := kx_in 522 (by decide +kernel) rfl
abbrev c_B_directory : ByteArray := prog_1_method_9_code
def y_B_directory : MethodName := ⟨R_B, "directory", "(II)I"⟩
theorem k_B_directory : Cond.code y_B_directory c_B_directory 3 (some .int) ∈ kx_WS := kx_in 526 (by decide +kernel) rfl
abbrev c_L_view : ByteArray := method_11_code
def y_L_view : MethodName := ⟨R_L, "view", "(LConsistBus;III[J)I"⟩
theorem k_L_view : Cond.codeWith y_L_view c_L_view 6 (some .int) [(0, 12, 15, 21)] ∈ kx_WS := kx_in 530 (by decide +kernel) rfl
abbrev c_B_view : ByteArray := prog_1_method_10_code
def y_B_view : MethodName := ⟨R_B, "view", "(III)I"⟩
theorem k_B_view : Cond.code y_B_view c_B_view 4 (some .int) ∈ kx_WS := kx_in 534 (by decide +kernel) rfl
abbrev c_R_itemAt : ByteArray := prog_5_method_7_code
def y_R_itemAt : MethodName := ⟨R_R, "itemAt", "(I)I"⟩
theorem k_R_itemAt : Cond.code y_R_itemAt c_R_itemAt 2 (some .int) ∈ kx_WS := kx_in 538 (by decide +kernel) rfl
abbrev c_L_put : ByteArray := method_12_code
def y_L_put : MethodName := ⟨R_L, "put", "(LConsistBus;III[J)I"⟩
theorem k_L_put : Cond.codeWith y_L_put c_L_put 6 (some .int) [(0, 12, 15, 21), (0, 12, 19, 13)] ∈ kx_WS := kx_in 541 (by decide +kernel) rfl
abbrev c_B_put : ByteArray := prog_1_method_11_code
def y_B_put : MethodName := ⟨R_B, "put", "(III)I"⟩
theorem k_B_put : Cond.code y_B_put c_B_put 5 (some .int) ∈ kx_WS := kx_in 545 (by decide +kernel) rfl
abbrev c_C_replaceByte : ByteArray := prog_2_method_4_code
def y_C_replaceByte : MethodName := ⟨R_C, "replaceByte", "(II)I"⟩
theorem k_C_replaceByte : Cond.code y_C_replaceByte c_C_replaceByte 4 (some .int) ∈ kx_WS := kx_in 550 (by decide +kernel) rfl
abbrev c_C_byteOf : ByteArray := prog_2_method_17_code
def y_C_byteOf : MethodName := ⟨R_C, "byteOf", "(II)I"⟩
theorem k_C_byteOf : Cond.code y_C_byteOf c_C_byteOf 2 (some .int) ∈ kx_WS := kx_in 553 (by decide +kernel) rfl
abbrev c_L_get : ByteArray := method_13_code
def y_L_get : MethodName := ⟨R_L, "get", "(LConsistBus;III[J)I"⟩
theorem k_L_get : Cond.codeWith y_L_get c_L_get 6 (some .int) [(0, 12, 15, 21), (0, 12, 19, 13)] ∈ kx_WS := kx_in 556 (by decide +kernel) rfl
abbrev c_B_get : ByteArray := prog_1_method_12_code
def y_B_get : MethodName := ⟨R_B, "get", "(III)I"⟩
theorem k_B_get : Cond.code y_B_get c_B_get 5 (some .int) ∈ kx_WS := kx_in 560 (by decide +kernel) rfl
abbrev c_C_known : ByteArray := prog_2_method_5_code
def y_C_known : MethodName := ⟨R_C, "known", "(II)I"⟩
theorem k_C_known : Cond.code y_C_known c_C_known 4 (some .int) ∈ kx_WS := kx_in 565 (by decide +kernel) rfl
abbrev c_L_side : ByteArray := method_14_code
def y_L_side : MethodName := ⟨R_L, "side", "(LConsistBus;III[J)I"⟩
theorem k_L_side : Cond.codeWith y_L_side c_L_side 6 (some .int) [(0, 12, 15, 21), (0, 12, 19, 13)] ∈ kx_WS := kx_in 568 (by decide +kernel) rfl
abbrev c_B_side : ByteArray := prog_1_method_13_code
def y_B_side : MethodName := ⟨R_B, "side", "(III)I"⟩
theorem k_B_side : Cond.code y_B_side c_B_side 8 (some .int) ∈ kx_WS := kx_in 572 (by decide +kernel) rfl
abbrev c_C_hasFunction : ByteArray := prog_2_method_2_code
def y_C_hasFunction : MethodName := ⟨R_C, "hasFunction", "(I)Z"⟩
theorem k_C_hasFunction : Cond.code y_C_hasFunction c_C_hasFunction 2 (some .boolean) ∈ kx_WS := kx_in 578 (by decide +kernel) rfl
abbrev c_L_order : ByteArray := method_15_code
def y_L_order : MethodName := ⟨R_L, "order", "(LConsistBus;II[J)I"⟩
theorem k_L_order : Cond.codeWith y_L_order c_L_order 5 (some .int) [(0, 10, 13, 21)] ∈ kx_WS := kx_in 581 (by decide +kernel) rfl
abbrev c_B_order : ByteArray := prog_1_method_14_code
def y_B_order : MethodName := ⟨R_B, "order", "(II)I"⟩
theorem k_B_order : Cond.code y_B_order c_B_order 3 (some .int) ∈ kx_WS := kx_in 585 (by decide +kernel) rfl
abbrev c_L_count : ByteArray := method_16_code
def y_L_count : MethodName := ⟨R_L, "count", "(LConsistBus;I[J)I"⟩
theorem k_L_count : Cond.codeWith y_L_count c_L_count 4 (some .int) [(0, 9, 12, 13)] ∈ kx_WS := kx_in 588 (by decide +kernel) rfl
abbrev c_B_count : ByteArray := prog_1_method_16_code
def y_B_count : MethodName := ⟨R_B, "count", "(I)I"⟩
theorem k_B_count : Cond.code y_B_count c_B_count 2 (some .int) ∈ kx_WS := kx_in 592 (by decide +kernel) rfl
abbrev c_M_init : ByteArray := prog_7_method_1_code
def y_M_init : MethodName := ⟨R_M, "<init>", "()V"⟩
theorem k_M_init : Cond.code y_M_init c_M_init 1 (none) ∈ kx_WS := kx_in 598 (by decide +kernel) rfl
abbrev c_M_thrown : ByteArray := prog_7_method_2_code
def y_M_thrown : MethodName := ⟨R_M, "thrown", "()I"⟩
theorem k_M_thrown : Cond.code y_M_thrown c_M_thrown 1 (some .int) ∈ kx_WS := kx_in 697 (by decide +kernel) rfl
abbrev c_M_add : ByteArray := prog_7_method_7_code
def y_M_add : MethodName := ⟨R_M, "add", "(II)I"⟩
theorem k_M_add : Cond.code y_M_add c_M_add 5 (some .int) ∈ kx_WS := kx_in 701 (by decide +kernel) rfl
abbrev c_M_find : ByteArray := prog_7_method_4_code
def y_M_find : MethodName := ⟨R_M, "find", "(I)I"⟩
theorem k_M_find : Cond.code y_M_find c_M_find 3 (some .int) ∈ kx_WS := kx_in 706 (by decide +kernel) rfl
abbrev c_M_goes : ByteArray := prog_7_method_3_code
def y_M_goes : MethodName := ⟨R_M, "goes", "(ZZZ)Z"⟩
theorem k_M_goes : Cond.code y_M_goes c_M_goes 4 (some .boolean) ∈ kx_WS := kx_in 710 (by decide +kernel) rfl
abbrev c_M_forget : ByteArray := prog_7_method_6_code
def y_M_forget : MethodName := ⟨R_M, "forget", "(I)V"⟩
theorem k_M_forget : Cond.code y_M_forget c_M_forget 3 (none) ∈ kx_WS := kx_in 714 (by decide +kernel) rfl
abbrev c_M_couple : ByteArray := prog_7_method_11_code
def y_M_couple : MethodName := ⟨R_M, "couple", "(IIII)I"⟩
theorem k_M_couple : Cond.code y_M_couple c_M_couple 11 (some .int) ∈ kx_WS := kx_in 718 (by decide +kernel) rfl
abbrev c_M_isEnd : ByteArray := prog_7_method_5_code
def y_M_isEnd : MethodName := ⟨R_M, "isEnd", "(I)Z"⟩
theorem k_M_isEnd : Cond.code y_M_isEnd c_M_isEnd 1 (some .boolean) ∈ kx_WS := kx_in 721 (by decide +kernel) rfl
abbrev c_M_together : ByteArray := prog_7_method_10_code
def y_M_together : MethodName := ⟨R_M, "together", "(II)Z"⟩
theorem k_M_together : Cond.code y_M_together c_M_together 5 (some .boolean) ∈ kx_WS := kx_in 725 (by decide +kernel) rfl
abbrev c_M_run : ByteArray := prog_7_method_8_code
def y_M_run : MethodName := ⟨R_M, "run", "(I)I"⟩
theorem k_M_run : Cond.code y_M_run c_M_run 5 (some .int) ∈ kx_WS := kx_in 729 (by decide +kernel) rfl
abbrev c_M_turn : ByteArray := prog_7_method_9_code
def y_M_turn : MethodName := ⟨R_M, "turn", "(I)V"⟩
theorem k_M_turn : Cond.code y_M_turn c_M_turn 3 (none) ∈ kx_WS := kx_in 733 (by decide +kernel) rfl
abbrev c_M_uncouple : ByteArray := prog_7_method_12_code
def y_M_uncouple : MethodName := ⟨R_M, "uncouple", "(II)I"⟩
theorem k_M_uncouple : Cond.code y_M_uncouple c_M_uncouple 6 (some .int) ∈ kx_WS := kx_in 737 (by decide +kernel) rfl
abbrev c_M_reset : ByteArray := prog_7_method_13_code
def y_M_reset : MethodName := ⟨R_M, "reset", "(I)V"⟩
theorem k_M_reset : Cond.code y_M_reset c_M_reset 3 (none) ∈ kx_WS := kx_in 741 (by decide +kernel) rfl
abbrev c_M_rounds : ByteArray := prog_7_method_23_code
def y_M_rounds : MethodName := ⟨R_M, "rounds", "(II)I"⟩
theorem k_M_rounds : Cond.code y_M_rounds c_M_rounds 5 (some .int) ∈ kx_WS := kx_in 745 (by decide +kernel) rfl
abbrev c_M_round : ByteArray := prog_7_method_22_code
def y_M_round : MethodName := ⟨R_M, "round", "(I)I"⟩
theorem k_M_round : Cond.code y_M_round c_M_round 4 (some .int) ∈ kx_WS := kx_in 749 (by decide +kernel) rfl
abbrev c_M_copy : ByteArray := prog_7_method_16_code
def y_M_copy : MethodName := ⟨R_M, "copy", "()V"⟩
theorem k_M_copy : Cond.code y_M_copy c_M_copy 2 (none) ∈ kx_WS := kx_in 753 (by decide +kernel) rfl
abbrev c_M_hears : ByteArray := prog_7_method_17_code
def y_M_hears : MethodName := ⟨R_M, "hears", "(II)Z"⟩
theorem k_M_hears : Cond.code y_M_hears c_M_hears 3 (some .boolean) ∈ kx_WS := kx_in 757 (by decide +kernel) rfl
abbrev c_M_look : ByteArray := prog_7_method_18_code
def y_M_look : MethodName := ⟨R_M, "look", "(II)V"⟩
theorem k_M_look : Cond.code y_M_look c_M_look 5 (none) ∈ kx_WS := kx_in 761 (by decide +kernel) rfl
abbrev c_M_settle : ByteArray := prog_7_method_19_code
def y_M_settle : MethodName := ⟨R_M, "settle", "(I)V"⟩
theorem k_M_settle : Cond.code y_M_settle c_M_settle 6 (none) ∈ kx_WS := kx_in 765 (by decide +kernel) rfl
abbrev c_M_seen : ByteArray := prog_7_method_14_code
def y_M_seen : MethodName := ⟨R_M, "seen", "(I)I"⟩
theorem k_M_seen : Cond.code y_M_seen c_M_seen 6 (some .int) ∈ kx_WS := kx_in 769 (by decide +kernel) rfl
abbrev c_M_learn : ByteArray := prog_7_method_21_code
def y_M_learn : MethodName := ⟨R_M, "learn", "(II)V"⟩
theorem k_M_learn : Cond.code y_M_learn c_M_learn 9 (none) ∈ kx_WS := kx_in 773 (by decide +kernel) rfl
abbrev c_M_agrees : ByteArray := prog_7_method_20_code
def y_M_agrees : MethodName := ⟨R_M, "agrees", "(I)Z"⟩
theorem k_M_agrees : Cond.code y_M_agrees c_M_agrees 5 (some .boolean) ∈ kx_WS := kx_in 777 (by decide +kernel) rfl
abbrev c_M_place : ByteArray := prog_7_method_15_code
def y_M_place : MethodName := ⟨R_M, "place", "(II)I"⟩
theorem k_M_place : Cond.code y_M_place c_M_place 4 (some .int) ∈ kx_WS := kx_in 781 (by decide +kernel) rfl
abbrev c_M_coupling : ByteArray := prog_7_method_24_code
def y_M_coupling : MethodName := ⟨R_M, "coupling", "(II)I"⟩
theorem k_M_coupling : Cond.code y_M_coupling c_M_coupling 4 (some .int) ∈ kx_WS := kx_in 785 (by decide +kernel) rfl
abbrev c_M_about : ByteArray := prog_7_method_26_code
def y_M_about : MethodName := ⟨R_M, "about", "(II)I"⟩
theorem k_M_about : Cond.code y_M_about c_M_about 5 (some .int) ∈ kx_WS := kx_in 789 (by decide +kernel) rfl
abbrev c_M_stateOf : ByteArray := prog_7_method_25_code
def y_M_stateOf : MethodName := ⟨R_M, "stateOf", "(I)I"⟩
theorem k_M_stateOf : Cond.code y_M_stateOf c_M_stateOf 4 (some .int) ∈ kx_WS := kx_in 793 (by decide +kernel) rfl
abbrev c_M_directory : ByteArray := prog_7_method_27_code
def y_M_directory : MethodName := ⟨R_M, "directory", "(II)I"⟩
theorem k_M_directory : Cond.code y_M_directory c_M_directory 4 (some .int) ∈ kx_WS := kx_in 797 (by decide +kernel) rfl
abbrev c_M_view : ByteArray := prog_7_method_28_code
def y_M_view : MethodName := ⟨R_M, "view", "(III)I"⟩
theorem k_M_view : Cond.code y_M_view c_M_view 6 (some .int) ∈ kx_WS := kx_in 801 (by decide +kernel) rfl
abbrev c_M_put : ByteArray := prog_7_method_29_code
def y_M_put : MethodName := ⟨R_M, "put", "(III)I"⟩
theorem k_M_put : Cond.code y_M_put c_M_put 6 (some .int) ∈ kx_WS := kx_in 805 (by decide +kernel) rfl
abbrev c_M_get : ByteArray := prog_7_method_30_code
def y_M_get : MethodName := ⟨R_M, "get", "(III)I"⟩
theorem k_M_get : Cond.code y_M_get c_M_get 6 (some .int) ∈ kx_WS := kx_in 809 (by decide +kernel) rfl
abbrev c_M_side : ByteArray := prog_7_method_31_code
def y_M_side : MethodName := ⟨R_M, "side", "(III)I"⟩
theorem k_M_side : Cond.code y_M_side c_M_side 7 (some .int) ∈ kx_WS := kx_in 813 (by decide +kernel) rfl
abbrev c_M_order : ByteArray := prog_7_method_32_code
def y_M_order : MethodName := ⟨R_M, "order", "(II)I"⟩
theorem k_M_order : Cond.code y_M_order c_M_order 5 (some .int) ∈ kx_WS := kx_in 817 (by decide +kernel) rfl
abbrev c_M_settled : ByteArray := prog_7_method_33_code
def y_M_settled : MethodName := ⟨R_M, "settled", "()I"⟩
theorem k_M_settled : Cond.code y_M_settled c_M_settled 6 (some .int) ∈ kx_WS := kx_in 821 (by decide +kernel) rfl
abbrev c_M_count : ByteArray := prog_7_method_34_code
def y_M_count : MethodName := ⟨R_M, "count", "(I)I"⟩
theorem k_M_count : Cond.code y_M_count c_M_count 2 (some .int) ∈ kx_WS := kx_in 825 (by decide +kernel) rfl
end
section
/-! The judgement of a body over a named world: the world is a list of cells, a cell's name is its place in the list. -/
section KXA
abbrev kx_Z : Type := Program × Launch × Env × Room × State × MethodId × Array Value × List Frame × Method × Code
/-- a method: code, locals, owner, answer, name, cells, slots, level, handlers -/
abbrev kx_Y : Type := ByteArray × Nat × String × Option FieldType × MethodName × Nat × Nat × Nat × List (Nat × Nat × Nat × Nat)
/-- the launch, numbers and slots, arrays' numbers, the first address of the world -/
abbrev kx_E : Type := Launch × va_G × List (ClassId × FieldType) × Nat
/-- how a call ends: an answer, or the name of what it threw -/
abbrev kx_O : Type := Option Value ⊕ String
abbrev kx_L : Type := List (Nat × Value)
def kx_lk : kx_L → Nat → Option Value
  | [], _ => none
  | (j, v) :: t, i => cond (Nat.beq j i) (some v) (kx_lk t i)
def kx_sub : kx_L → kx_L → Prop
  | [], _ => True
  | (i, v) :: t, L => kx_lk L i = some v ∧ kx_sub t L
def kx_dd : kx_L → kx_L
  | [] => []
  | (j, v) :: t => (j, v) :: (kx_dd t).filter (fun q => !(q.1 == j))
theorem kx_lk_self {L : kx_L} {i : Nat} {v : Value} : kx_lk ((i, v) :: L) i = some v := by
  show cond (Nat.beq i i) _ _ = _
  rw [Nat.beq_refl]; rfl
theorem kx_lk_ne {L : kx_L} {i j : Nat} {v : Value} (h : j ≠ i) : kx_lk ((j, v) :: L) i = kx_lk L i := by
  show cond (Nat.beq j i) _ _ = _
  have e : Nat.beq j i = false := by
    cases h1 : Nat.beq j i with
    | true => exact absurd (Nat.eq_of_beq_eq_true h1) h
    | false => rfl
  rw [e]; rfl
theorem kx_dd_lk : ∀ (L : kx_L) (q : Nat × Value), q ∈ kx_dd L → kx_lk L q.1 = some q.2
  | [], q, h => by cases h
  | (j, v) :: t, q, h => by
    rcases List.mem_cons.mp h with rfl | h
    · exact kx_lk_self
    · obtain ⟨h1, h2⟩ := List.mem_filter.mp h
      have hne : j ≠ q.1 := by
        intro e; subst e; simp at h2
      rw [kx_lk_ne hne]
      exact kx_dd_lk t q h1
theorem kx_lk_dd : ∀ (L : kx_L) (i : Nat) (v : Value), kx_lk L i = some v → (i, v) ∈ kx_dd L
  | [], i, v, h => by cases h
  | (j, u) :: t, i, v, h => by
    by_cases e : j = i
    · subst e
      rw [kx_lk_self] at h
      cases h
      exact List.mem_cons_self
    · rw [kx_lk_ne e] at h
      refine List.mem_cons_of_mem _ (List.mem_filter.mpr ⟨kx_lk_dd t i v h, ?_⟩)
      simp [Ne.symm e]
def kx_Lc (ls : Array Slot) (nL : Nat) (L : kx_L) : Prop := ls.size = nL ∧ lv_wf ls ∧ ∀ i v, kx_lk L i = some v → v.category = 1 ∧ ls[i]? = some (.val v)
theorem kx_Lc.has {ls : Array Slot} {nL : Nat} {L : kx_L} (h : kx_Lc ls nL L) : lv_has ls nL (kx_dd L) :=
  ⟨h.1, h.2.1, fun q hq => (h.2.2 q.1 q.2 (kx_dd_lk L q hq)).2⟩
theorem kx_Lc.put {ls ls' : Array Slot} {nL i : Nat} {v : Value} {L : kx_L} (h : kx_Lc ls nL L) (hv : v.category = 1)
    (h' : lv_has ls' nL ((i, v) :: (kx_dd L).filter (fun q => !(q.1 == i) && !(q.1 + 1 == i && q.2.category == 2)))) : kx_Lc ls' nL ((i, v) :: L) := by
  refine ⟨h'.1, h'.2.1, fun j u hu => ?_⟩
  by_cases e : i = j
  · subst e
    rw [kx_lk_self] at hu
    cases hu
    exact ⟨hv, h'.2.2 (i, v) List.mem_cons_self⟩
  · rw [kx_lk_ne e] at hu
    have hc := (h.2.2 j u hu).1
    refine ⟨hc, h'.2.2 (j, u) (List.mem_cons_of_mem _ (List.mem_filter.mpr ⟨kx_lk_dd L j u hu, ?_⟩))⟩
    simp [Ne.symm e, hc]
theorem kx_Lc.sub {ls : Array Slot} {nL : Nat} : ∀ {L' L : kx_L}, kx_Lc ls nL L → kx_sub L' L → kx_Lc ls nL L' := by
  intro L' L h hs
  refine ⟨h.1, h.2.1, ?_⟩
  induction L' with
  | nil => intro i v hv; cases hv
  | cons q t ih =>
    obtain ⟨j, u⟩ := q
    intro i v hv
    by_cases e : j = i
    · subst e
      rw [kx_lk_self] at hv
      cases hv
      exact h.2.2 _ _ hs.1
    · rw [kx_lk_ne e] at hv
      exact ih hs.2 i v hv
end KXA
section KXB
abbrev kx_A (b : Nat) : Nat → Prop := fun q => b ≤ q
/-- how a call of the world's methods ends -/
def kx_Qs (E : kx_E) (Q : kx_O → va_W → Prop) : Array Value → State → Outcome → State → Prop := fun _ st oc t =>
  (∃ (v : Option Value) (w : va_W), oc = .returned v ∧ Q (.inl v) w ∧ va_P E.2.1 vwCl w t.heap ∧ va_D (kx_A E.2.2.2) w) ∧ va_F (kx_A E.2.2.2) st t
def kx_Xs (E : kx_E) (Q : kx_O → va_W → Prop) : String → State → State → Prop := fun X st t =>
  (∃ w : va_W, Q (.inr X) w ∧ va_P E.2.1 vwCl w t.heap ∧ va_D (kx_A E.2.2.2) w) ∧ va_F (kx_A E.2.2.2) st t
def kx_rm (Y : kx_Y) : Room := { frames := 1 + Y.2.2.2.2.2.2.2.1, cells := Y.2.2.2.2.2.1, slots := Y.2.2.2.2.2.2.1, locals := 100 + 30 * Y.2.2.2.2.2.2.2.1 }
def kx_strs : List (String × Nat × String) := [("ConsistBus", 32, "id or mask out of range"), ("ConsistBus", 43, "the id is taken, or the train is full"), ("ConsistBus", 160, "there is no such car"), ("ConsistBus", 163, "there is no such end"), ("ConsistBus", 71, "an end is coupled, or both cars are of one run"), ("ConsistBus", 87, "the end is not coupled"), ("ConsistBus", 98, "rounds out of range"), ("ConsistBus", 109, "there is no such fact"), ("ConsistBus", 126, "byte or value out of range"), ("ConsistBus", 132, "byte out of range"), ("ConsistBus", 137, "there is no such function"), ("ConsistBus", 156, "there is no such count")]
def kx_dcs : List MethodName := [⟨"java/lang/RuntimeException", "<init>", "(Ljava/lang/String;)V"⟩, ⟨"java/lang/Exception", "<init>", "(Ljava/lang/String;)V"⟩, ⟨"java/lang/Throwable", "<init>", "(Ljava/lang/String;)V"⟩]
def kx_cas : List String := ["java/lang/IllegalArgumentException", "java/lang/IllegalStateException", "java/util/NoSuchElementException"]
def kx_ncs : List (String × String) := [("java/lang/IllegalArgumentException", "java/lang/IllegalStateException"), ("java/lang/IllegalArgumentException", "java/util/NoSuchElementException"), ("java/lang/IllegalStateException", "java/lang/IllegalArgumentException"), ("java/lang/IllegalStateException", "java/util/NoSuchElementException"), ("java/util/NoSuchElementException", "java/lang/IllegalArgumentException"), ("java/util/NoSuchElementException", "java/lang/IllegalStateException")]
/-- what throwing, catching and arrays of references want of the start -/
def kx_Ex (E : kx_E) (U : State) : Prop :=
  vx_Zq Bundle.tN "UNASSIGNED_STACK" Bundle.steD (kx_A E.2.2.2) U U.heap ∧ vx_Zq Bundle.tN "SUPPRESSED_SENTINEL" Bundle.listD (kx_A E.2.2.2) U U.heap ∧
  (∀ q ∈ kx_strs, ∃ sa, vk_R q.1 q.2.1 q.2.2 sa U) ∧ (∀ x ∈ kx_dcs, va_Nw (.declares x) U) ∧ (∀ q ∈ kx_ncs, va_Nc q.1 q.2 U) ∧ va_AO "ConsistBus$Car" U ∧ va_AO "ConsistBus$End" U ∧ E.1.stackTraces = false ∧ (∀ x ∈ kx_cas, va_Nw (.castable x x) U)
theorem kx_Ex.go {E : kx_E} {s U : State} (hW : s.WarmedH U.vm) (hk : ∀ a : Nat, a < s.heap.size → ¬ kx_A E.2.2.2 a → U.heap[a]? = s.heap[a]?) (h : kx_Ex E s) : kx_Ex E U := by
  obtain ⟨h1, h2, h3, h4, h5, h6, h7, h8, h9⟩ := h
  exact ⟨(h1.kept hk).moved hW.alike, (h2.kept hk).moved hW.alike, fun q hq => by obtain ⟨sa, h⟩ := h3 q hq; exact ⟨sa, h.warm hW⟩, fun x hx => va_Nw.warmD hW (h4 x hx), fun q hq => (h5 q hq).moved hW.alike, h6.moved hW.alike, h7.moved hW.alike, h8, fun x hx => va_Nw.warmC hW (h9 x hx)⟩
theorem kx_Ex.calling {E : kx_E} {U : State} (g : JFrame) (mk : MethodId) (a : Array Value) (h : kx_Ex E U) : kx_Ex E (U.calling g mk a) := by
  obtain ⟨h1, h2, h3, h4, h5, h6, h7, h8, h9⟩ := h
  exact ⟨h1.moved (U := U.calling g mk a) (Vm.Alike.refl U.vm), h2.moved (U := U.calling g mk a) (Vm.Alike.refl U.vm), fun q hq => by obtain ⟨sa, h⟩ := h3 q hq; exact ⟨sa, h.same rfl⟩, fun x hx => va_Nw.same rfl rfl (h4 x hx), fun q hq => (h5 q hq).moved (Vm.Alike.refl U.vm), h6.moved (Vm.Alike.refl U.vm), h7.moved (Vm.Alike.refl U.vm), h8, fun x hx => va_Nw.same rfl rfl (h9 x hx)⟩
/-- the arrays of the claim: int, boolean, long, and two of references -/
def kx_ty (E : kx_E) : Prop := E.2.2.1.map (·.2) = kx_tys
def kx_ci (E : kx_E) (t : Nat) : ClassId := (E.2.2.1.getD t (0, .int)).1
def kx_hd (Y : kx_Y) : Cond := match Y.2.2.2.2.2.2.2.2 with
  | [] => .code Y.2.2.2.2.1 Y.1 Y.2.1 Y.2.2.2.1
  | hh => .codeWith Y.2.2.2.2.1 Y.1 Y.2.1 Y.2.2.2.1 hh
def kx_ws (Y : kx_Y) : List Cond := kx_hd Y :: kx_WS
/-- what a body stands on -/
def kx_C (E : kx_E) (Y : kx_Y) (z : kx_Z) : Prop :=
  z.1.tables.exec = Jvm.exec ∧ z.2.2.2.2.2.2.2.2.2.code = Y.1 ∧ z.2.2.2.2.2.2.2.2.2.maxLocals = Y.2.1 ∧ z.2.2.2.2.1.vm.findClass Y.2.2.1 = some z.2.2.2.2.2.1.cls ∧
  (∀ c ∈ kx_WS, c.before z.2.2.2.2.2.2.1 z.2.2.2.2.1 = true) ∧ va_K E.2.1 vwCl E.2.2.1 z.2.2.2.2.1 ∧ E.2.2.2 ≤ z.2.2.2.2.1.heap.size ∧ z.2.2.2.2.2.2.2.2.1.locks = false ∧
  z.2.2.2.2.2.2.2.2.1.sig.returnType = Y.2.2.2.1 ∧ z.2.2.2.2.2.2.2.2.1.name = Y.2.2.2.2.1.name ∧ z.2.2.2.2.2.2.2.2.2.exceptionTable.toList = tableOf Y.2.2.2.2.2.2.2.2 ∧ z.2.2.2.1 = kx_rm Y ∧ z.2.1 = E.1 ∧
  kx_Ex E z.2.2.2.2.1 ∧ kx_ty E
/-- the machine, at pc with locals L and operands st in the world w, comes to an end with Q -/
def kx_R (E : kx_E) (Y : kx_Y) (z : kx_Z) (pc : Nat) (L : kx_L) (st : List Value) (w : va_W) (kc ks : Nat) (Q : kx_O → va_W → Prop) : Prop :=
  kx_C E Y z → ∀ (H : Heap) (ls : Array Slot) (locs : List Loc), kx_Lc ls Y.2.1 L → va_P E.2.1 vwCl w H → va_D (kx_A E.2.2.2) w → va_S (kx_A E.2.2.2) z.2.2.2.2.1.heap H locs →
    W z.1 z.2.1 z.2.2.1 z.2.2.2.1 z.2.2.2.2.1 z.2.2.2.2.2.1 z.2.2.2.2.2.2.1 z.2.2.2.2.2.2.2.1 z.2.2.2.2.2.2.2.2.1 z.2.2.2.2.2.2.2.2.2 H locs kc ks
      (vx_MQ z.2.2.2.2.2.2.2.1 (kx_Qs E Q) (kx_Xs E Q) z.2.2.2.2.2.2.1 z.2.2.2.2.1 Y.2.2.2.2.2.1 Y.2.2.2.2.2.2.1 (kx_A E.2.2.2)) (F0 z.2.2.2.2.2.1 pc ls st)
/-- the world, as a state has it -/
def kx_Wd (E : kx_E) (w : va_W) (U : State) : Prop := va_P E.2.1 vwCl w U.heap ∧ va_D (kx_A E.2.2.2) w ∧ va_K E.2.1 vwCl E.2.2.1 U ∧ E.2.2.2 ≤ U.heap.size ∧ kx_Ex E U ∧ kx_ty E
/-- a method's contract at one world -/
def kx_S (E : kx_E) (Y : kx_Y) (as : List Value) (w : va_W) (Q : kx_O → va_W → Prop) : Prop :=
  vx_Met E.1 Y.2.2.2.2.1 (kx_ws Y) (kx_rm Y) (va_Pc as (kx_Wd E w)) (kx_Qs E Q) (kx_Xs E Q) Y.2.2.2.2.2.1 Y.2.2.2.2.2.2.1 (kx_A E.2.2.2)
end KXB
end
section
section KXR
variable {E : kx_E} {Y : kx_Y} {z : kx_Z} {pc : Nat} {L : kx_L} {st : List Value} {w : va_W} {kc ks : Nat} {Q : kx_O → va_W → Prop}
theorem kx_iconst {n : Int} (v : Int32) (hd : decode Y.1 pc = .ok (.iconst n, 1)) (hv : Int32.ofInt n = v)
    (kk : kx_R E Y z (pc + 1) L (.int v :: st) w kc ks Q) : kx_R E Y z pc L st w kc ks Q := by
  intro hC H ls locs hl hP hD hS
  exact lv_iconst hC.1 hC.2.1 hd hv (kk hC H ls locs hl hP hD hS)
theorem kx_bipush {n : Int} (v : Int32) (hd : decode Y.1 pc = .ok (.bipush n, 2)) (hv : (Int8.ofInt n).toInt32 = v)
    (kk : kx_R E Y z (pc + 2) L (.int v :: st) w kc ks Q) : kx_R E Y z pc L st w kc ks Q := by
  intro hC H ls locs hl hP hD hS
  exact lv_bipush hC.1 hC.2.1 hd hv (kk hC H ls locs hl hP hD hS)
theorem kx_sipush {n : Int} (v : Int32) (hd : decode Y.1 pc = .ok (.sipush n, 3)) (hv : (Int16.ofInt n).toInt32 = v)
    (kk : kx_R E Y z (pc + 3) L (.int v :: st) w kc ks Q) : kx_R E Y z pc L st w kc ks Q := by
  intro hC H ls locs hl hP hD hS
  exact lv_sipush hC.1 hC.2.1 hd hv (kk hC H ls locs hl hP hD hS)
theorem kx_null (hd : decode Y.1 pc = .ok (.aconst_null, 1))
    (kk : kx_R E Y z (pc + 1) L (.null :: st) w kc ks Q) : kx_R E Y z pc L st w kc ks Q := by
  intro hC H ls locs hl hP hD hS
  exact lv_null hC.1 hC.2.1 hd (kk hC H ls locs hl hP hD hS)
theorem kx_ldci {idx : Nat} (v : Int32) (hd : decode Y.1 pc = .ok (.ldc idx, 2)) (hc : Cond.constant Y.2.2.1 idx v ∈ kx_WS)
    (kk : kx_R E Y z (pc + 2) L (.int v :: st) w kc ks Q) : kx_R E Y z pc L st w kc ks Q := by
  intro hC H ls locs hl hP hD hS
  exact lv_ldc hC.1 hC.2.1 hC.2.2.2.1 (hC.2.2.2.2.1 _ hc) hd (kk hC H ls locs hl hP hD hS)
theorem kx_iload_n {k : Fin 4} {x : Int32} (hd : decode Y.1 pc = .ok (.iload_n k, 1)) (hv : kx_lk L k.val = some (.int x))
    (kk : kx_R E Y z (pc + 1) L (.int x :: st) w kc ks Q) : kx_R E Y z pc L st w kc ks Q := by
  intro hC H ls locs hl hP hD hS
  exact lv_iload_n hC.1 hC.2.1 hd rfl (hl.2.2 _ _ hv).2 (kk hC H ls locs hl hP hD hS)
theorem kx_iload {k : Nat} {x : Int32} (hd : decode Y.1 pc = .ok (.iload k, 2)) (hv : kx_lk L k = some (.int x))
    (kk : kx_R E Y z (pc + 2) L (.int x :: st) w kc ks Q) : kx_R E Y z pc L st w kc ks Q := by
  intro hC H ls locs hl hP hD hS
  exact lv_iload hC.1 hC.2.1 hd (hl.2.2 _ _ hv).2 (kk hC H ls locs hl hP hD hS)
theorem kx_aload_n {k : Fin 4} {v : Value} (hd : decode Y.1 pc = .ok (.aload_n k, 1)) (hv : kx_lk L k.val = some v) (hr : v.isRef = true)
    (kk : kx_R E Y z (pc + 1) L (v :: st) w kc ks Q) : kx_R E Y z pc L st w kc ks Q := by
  intro hC H ls locs hl hP hD hS
  cases v <;> first | (simp [Value.isRef] at hr; done) | exact lv_aload_n hC.1 hC.2.1 hd rfl (hl.2.2 _ _ hv).2 (kk hC H ls locs hl hP hD hS) | exact lv_aload_nN hC.1 hC.2.1 hd rfl (hl.2.2 _ _ hv).2 (kk hC H ls locs hl hP hD hS)
theorem kx_aload {k : Nat} {v : Value} (hd : decode Y.1 pc = .ok (.aload k, 2)) (hv : kx_lk L k = some v) (hr : v.isRef = true)
    (kk : kx_R E Y z (pc + 2) L (v :: st) w kc ks Q) : kx_R E Y z pc L st w kc ks Q := by
  intro hC H ls locs hl hP hD hS
  cases v <;> first | (simp [Value.isRef] at hr; done) | exact lv_aload hC.1 hC.2.1 hd (hl.2.2 _ _ hv).2 (kk hC H ls locs hl hP hD hS) | exact lv_aloadN hC.1 hC.2.1 hd (hl.2.2 _ _ hv).2 (kk hC H ls locs hl hP hD hS)
theorem kx_istore_n {k : Fin 4} {x : Int32} (hd : decode Y.1 pc = .ok (.istore_n k, 1)) (hk : k.val < Y.2.1)
    (kk : kx_R E Y z (pc + 1) ((k.val, .int x) :: L) st w kc ks Q) : kx_R E Y z pc L (.int x :: st) w kc ks Q := by
  intro hC H ls locs hl hP hD hS
  exact lv_istore_n hC.1 hC.2.1 hd rfl hl.has hk rfl (fun ls1 h1 => kk hC H ls1 locs (hl.put rfl h1) hP hD hS)
theorem kx_istore {k : Nat} {x : Int32} (hd : decode Y.1 pc = .ok (.istore k, 2)) (hk : k < Y.2.1)
    (kk : kx_R E Y z (pc + 2) ((k, .int x) :: L) st w kc ks Q) : kx_R E Y z pc L (.int x :: st) w kc ks Q := by
  intro hC H ls locs hl hP hD hS
  exact lv_istore hC.1 hC.2.1 hd hl.has hk rfl (fun ls1 h1 => kk hC H ls1 locs (hl.put rfl h1) hP hD hS)
theorem kx_astore_n {k : Fin 4} {v : Value} (hd : decode Y.1 pc = .ok (.astore_n k, 1)) (hk : k.val < Y.2.1) (hr : v.isRef = true)
    (kk : kx_R E Y z (pc + 1) ((k.val, v) :: L) st w kc ks Q) : kx_R E Y z pc L (v :: st) w kc ks Q := by
  intro hC H ls locs hl hP hD hS
  cases v <;> first | (simp [Value.isRef] at hr; done) | exact lv_astore_n hC.1 hC.2.1 hd rfl hl.has hk rfl (fun ls1 h1 => kk hC H ls1 locs (hl.put rfl h1) hP hD hS) | exact lv_astore_nN hC.1 hC.2.1 hd rfl hl.has hk rfl (fun ls1 h1 => kk hC H ls1 locs (hl.put rfl h1) hP hD hS)
theorem kx_astore {k : Nat} {v : Value} (hd : decode Y.1 pc = .ok (.astore k, 2)) (hk : k < Y.2.1) (hr : v.isRef = true)
    (kk : kx_R E Y z (pc + 2) ((k, v) :: L) st w kc ks Q) : kx_R E Y z pc L (v :: st) w kc ks Q := by
  intro hC H ls locs hl hP hD hS
  cases v <;> first | (simp [Value.isRef] at hr; done) | exact lv_astore hC.1 hC.2.1 hd hl.has hk rfl (fun ls1 h1 => kk hC H ls1 locs (hl.put rfl h1) hP hD hS) | exact lv_astoreN hC.1 hC.2.1 hd hl.has hk rfl (fun ls1 h1 => kk hC H ls1 locs (hl.put rfl h1) hP hD hS)
theorem kx_iinc {k : Nat} {n : Int} {x : Int32} (v : Int32) (hd : decode Y.1 pc = .ok (.iinc k n, 3)) (hv : kx_lk L k = some (.int x)) (hk : k < Y.2.1) (hx : x + Int32.ofInt n = v)
    (kk : kx_R E Y z (pc + 3) ((k, .int v) :: L) st w kc ks Q) : kx_R E Y z pc L st w kc ks Q := by
  intro hC H ls locs hl hP hD hS
  obtain ⟨j, hj⟩ := List.getElem?_of_mem (kx_lk_dd L k _ hv)
  exact lv_iinc hC.1 hC.2.1 hd hl.has hj hx hk rfl (fun ls1 h1 => kk hC H ls1 locs (hl.put rfl h1) hP hD hS)
theorem kx_iadd {x y : Int32} (v : Int32) (hd : decode Y.1 pc = .ok (.iadd, 1)) (hv : x + y = v)
    (kk : kx_R E Y z (pc + 1) L (.int v :: st) w kc ks Q) : kx_R E Y z pc L (.int y :: .int x :: st) w kc ks Q := by
  intro hC H ls locs hl hP hD hS
  subst hv
  exact lv_iadd hC.1 hC.2.1 hd (kk hC H ls locs hl hP hD hS)
theorem kx_isub {x y : Int32} (v : Int32) (hd : decode Y.1 pc = .ok (.isub, 1)) (hv : x - y = v)
    (kk : kx_R E Y z (pc + 1) L (.int v :: st) w kc ks Q) : kx_R E Y z pc L (.int y :: .int x :: st) w kc ks Q := by
  intro hC H ls locs hl hP hD hS
  subst hv
  exact lv_isub hC.1 hC.2.1 hd (kk hC H ls locs hl hP hD hS)
theorem kx_imul {x y : Int32} (v : Int32) (hd : decode Y.1 pc = .ok (.imul, 1)) (hv : x * y = v)
    (kk : kx_R E Y z (pc + 1) L (.int v :: st) w kc ks Q) : kx_R E Y z pc L (.int y :: .int x :: st) w kc ks Q := by
  intro hC H ls locs hl hP hD hS
  subst hv
  exact lv_imul hC.1 hC.2.1 hd (kk hC H ls locs hl hP hD hS)
theorem kx_iand {x y : Int32} (v : Int32) (hd : decode Y.1 pc = .ok (.iand, 1)) (hv : x &&& y = v)
    (kk : kx_R E Y z (pc + 1) L (.int v :: st) w kc ks Q) : kx_R E Y z pc L (.int y :: .int x :: st) w kc ks Q := by
  intro hC H ls locs hl hP hD hS
  subst hv
  exact lv_iand hC.1 hC.2.1 hd (kk hC H ls locs hl hP hD hS)
theorem kx_ior {x y : Int32} (v : Int32) (hd : decode Y.1 pc = .ok (.ior, 1)) (hv : x ||| y = v)
    (kk : kx_R E Y z (pc + 1) L (.int v :: st) w kc ks Q) : kx_R E Y z pc L (.int y :: .int x :: st) w kc ks Q := by
  intro hC H ls locs hl hP hD hS
  subst hv
  exact lv_ior hC.1 hC.2.1 hd (kk hC H ls locs hl hP hD hS)
theorem kx_ixor {x y : Int32} (v : Int32) (hd : decode Y.1 pc = .ok (.ixor, 1)) (hv : x ^^^ y = v)
    (kk : kx_R E Y z (pc + 1) L (.int v :: st) w kc ks Q) : kx_R E Y z pc L (.int y :: .int x :: st) w kc ks Q := by
  intro hC H ls locs hl hP hD hS
  subst hv
  exact lv_ixor hC.1 hC.2.1 hd (kk hC H ls locs hl hP hD hS)
theorem kx_ishl {x y : Int32} (v : Int32) (hd : decode Y.1 pc = .ok (.ishl, 1)) (hv : x <<< (y &&& 31) = v)
    (kk : kx_R E Y z (pc + 1) L (.int v :: st) w kc ks Q) : kx_R E Y z pc L (.int y :: .int x :: st) w kc ks Q := by
  intro hC H ls locs hl hP hD hS
  subst hv
  exact lv_ishl hC.1 hC.2.1 hd (kk hC H ls locs hl hP hD hS)
theorem kx_ishr {x y : Int32} (v : Int32) (hd : decode Y.1 pc = .ok (.ishr, 1)) (hv : x >>> (y &&& 31) = v)
    (kk : kx_R E Y z (pc + 1) L (.int v :: st) w kc ks Q) : kx_R E Y z pc L (.int y :: .int x :: st) w kc ks Q := by
  intro hC H ls locs hl hP hD hS
  subst hv
  exact lv_ishr hC.1 hC.2.1 hd (kk hC H ls locs hl hP hD hS)
theorem kx_idiv {x y : Int32} (v : Int32) (hd : decode Y.1 pc = .ok (.idiv, 1)) (hy : ¬ y = 0) (hv : x / y = v)
    (kk : kx_R E Y z (pc + 1) L (.int v :: st) w kc ks Q) : kx_R E Y z pc L (.int y :: .int x :: st) w kc ks Q := by
  intro hC H ls locs hl hP hD hS
  subst hv
  exact lv_idiv hC.1 hC.2.1 hd hy (kk hC H ls locs hl hP hD hS)
theorem kx_irem {x y : Int32} (v : Int32) (hd : decode Y.1 pc = .ok (.irem, 1)) (hy : ¬ y = 0) (hv : x - x / y * y = v)
    (kk : kx_R E Y z (pc + 1) L (.int v :: st) w kc ks Q) : kx_R E Y z pc L (.int y :: .int x :: st) w kc ks Q := by
  intro hC H ls locs hl hP hD hS
  subst hv
  exact lv_irem hC.1 hC.2.1 hd hy (kk hC H ls locs hl hP hD hS)
theorem kx_ineg {x : Int32} (hd : decode Y.1 pc = .ok (.ineg, 1))
    (kk : kx_R E Y z (pc + 1) L (.int (-x) :: st) w kc ks Q) : kx_R E Y z pc L (.int x :: st) w kc ks Q := by
  intro hC H ls locs hl hP hD hS
  exact lv_ineg hC.1 hC.2.1 hd (kk hC H ls locs hl hP hD hS)
theorem kx_i2l {x : Int32} (hd : decode Y.1 pc = .ok (.i2l, 1))
    (kk : kx_R E Y z (pc + 1) L (.long x.toInt64 :: st) w kc ks Q) : kx_R E Y z pc L (.int x :: st) w kc ks Q := by
  intro hC H ls locs hl hP hD hS
  exact lv_i2l hC.1 hC.2.1 hd rfl (kk hC H ls locs hl hP hD hS)
theorem kx_lcmp {x y : Int64} (hd : decode Y.1 pc = .ok (.lcmp, 1))
    (kk : kx_R E Y z (pc + 1) L (.int (lg_cmp x y) :: st) w kc ks Q) : kx_R E Y z pc L (.long y :: .long x :: st) w kc ks Q := by
  intro hC H ls locs hl hP hD hS
  exact W.lcmp hC.1 hC.2.1 hd (kk hC H ls locs hl hP hD hS)
theorem kx_dup {v : Value} (hd : decode Y.1 pc = .ok (.dup, 1)) (hc : v.category = 1)
    (kk : kx_R E Y z (pc + 1) L (v :: v :: st) w kc ks Q) : kx_R E Y z pc L (v :: st) w kc ks Q := by
  intro hC H ls locs hl hP hD hS
  exact lv_dup hC.1 hC.2.1 hd hc (kk hC H ls locs hl hP hD hS)
theorem kx_pop {v : Value} (hd : decode Y.1 pc = .ok (.pop, 1)) (hc : v.category = 1)
    (kk : kx_R E Y z (pc + 1) L st w kc ks Q) : kx_R E Y z pc L (v :: st) w kc ks Q := by
  intro hC H ls locs hl hP hD hS
  exact lv_pop hC.1 hC.2.1 hd hc (kk hC H ls locs hl hP hD hS)
theorem kx_dup_x1 {v u : Value} (hd : decode Y.1 pc = .ok (.dup_x1, 1)) (hc : v.category = 1) (hu : u.category = 1)
    (kk : kx_R E Y z (pc + 1) L (v :: u :: v :: st) w kc ks Q) : kx_R E Y z pc L (v :: u :: st) w kc ks Q := by
  intro hC H ls locs hl hP hD hS
  exact lv_dup_x1 hC.1 hC.2.1 hd hc hu (kk hC H ls locs hl hP hD hS)
theorem kx_dup2 {v u : Value} (hd : decode Y.1 pc = .ok (.dup2, 1)) (hc : v.category = 1) (hu : u.category = 1)
    (kk : kx_R E Y z (pc + 1) L (v :: u :: v :: u :: st) w kc ks Q) : kx_R E Y z pc L (v :: u :: st) w kc ks Q := by
  intro hC H ls locs hl hP hD hS
  exact lv_dup2_11 hC.1 hC.2.1 hd hc hu (kk hC H ls locs hl hP hD hS)
theorem kx_goto {off : Int} (tgt : Nat) (hd : decode Y.1 pc = .ok (.goto off, 3)) (ht : (pc : Int) + off = (tgt : Int))
    (kk : kx_R E Y z tgt L st w kc ks Q) : kx_R E Y z pc L st w kc ks Q := by
  intro hC H ls locs hl hP hD hS
  exact lv_goto hC.1 hC.2.1 hd ht (kk hC H ls locs hl hP hD hS)
theorem kx_if_eq {x : Int32} {off : Int} (tgt : Nat) (hd : decode Y.1 pc = .ok (.ifCond .eq off, 3)) (ht : (pc : Int) + off = (tgt : Int))
    (kt : x = 0 → kx_R E Y z tgt L st w kc ks Q) (kf : ¬ x = 0 → kx_R E Y z (pc + 3) L st w kc ks Q) : kx_R E Y z pc L (.int x :: st) w kc ks Q := by
  intro hC H ls locs hl hP hD hS
  exact lv_if_eq hC.1 hC.2.1 hd ht (fun h9 => kt h9 hC H ls locs hl hP hD hS) (fun h9 => kf h9 hC H ls locs hl hP hD hS)
theorem kx_icmp_eq {x y : Int32} {off : Int} (tgt : Nat) (hd : decode Y.1 pc = .ok (.if_icmp .eq off, 3)) (ht : (pc : Int) + off = (tgt : Int))
    (kt : x = y → kx_R E Y z tgt L st w kc ks Q) (kf : ¬ x = y → kx_R E Y z (pc + 3) L st w kc ks Q) : kx_R E Y z pc L (.int y :: .int x :: st) w kc ks Q := by
  intro hC H ls locs hl hP hD hS
  exact lv_icmp_eq hC.1 hC.2.1 hd ht (fun h9 => kt h9 hC H ls locs hl hP hD hS) (fun h9 => kf h9 hC H ls locs hl hP hD hS)
theorem kx_if_ne {x : Int32} {off : Int} (tgt : Nat) (hd : decode Y.1 pc = .ok (.ifCond .ne off, 3)) (ht : (pc : Int) + off = (tgt : Int))
    (kt : ¬ x = 0 → kx_R E Y z tgt L st w kc ks Q) (kf : x = 0 → kx_R E Y z (pc + 3) L st w kc ks Q) : kx_R E Y z pc L (.int x :: st) w kc ks Q := by
  intro hC H ls locs hl hP hD hS
  exact lv_if_ne hC.1 hC.2.1 hd ht (fun h9 => kt h9 hC H ls locs hl hP hD hS) (fun h9 => kf h9 hC H ls locs hl hP hD hS)
theorem kx_icmp_ne {x y : Int32} {off : Int} (tgt : Nat) (hd : decode Y.1 pc = .ok (.if_icmp .ne off, 3)) (ht : (pc : Int) + off = (tgt : Int))
    (kt : ¬ x = y → kx_R E Y z tgt L st w kc ks Q) (kf : x = y → kx_R E Y z (pc + 3) L st w kc ks Q) : kx_R E Y z pc L (.int y :: .int x :: st) w kc ks Q := by
  intro hC H ls locs hl hP hD hS
  exact lv_icmp_ne hC.1 hC.2.1 hd ht (fun h9 => kt h9 hC H ls locs hl hP hD hS) (fun h9 => kf h9 hC H ls locs hl hP hD hS)
theorem kx_if_lt {x : Int32} {off : Int} (tgt : Nat) (hd : decode Y.1 pc = .ok (.ifCond .lt off, 3)) (ht : (pc : Int) + off = (tgt : Int))
    (kt : x < 0 → kx_R E Y z tgt L st w kc ks Q) (kf : ¬ x < 0 → kx_R E Y z (pc + 3) L st w kc ks Q) : kx_R E Y z pc L (.int x :: st) w kc ks Q := by
  intro hC H ls locs hl hP hD hS
  exact lv_if_lt hC.1 hC.2.1 hd ht (fun h9 => kt h9 hC H ls locs hl hP hD hS) (fun h9 => kf h9 hC H ls locs hl hP hD hS)
theorem kx_icmp_lt {x y : Int32} {off : Int} (tgt : Nat) (hd : decode Y.1 pc = .ok (.if_icmp .lt off, 3)) (ht : (pc : Int) + off = (tgt : Int))
    (kt : x < y → kx_R E Y z tgt L st w kc ks Q) (kf : ¬ x < y → kx_R E Y z (pc + 3) L st w kc ks Q) : kx_R E Y z pc L (.int y :: .int x :: st) w kc ks Q := by
  intro hC H ls locs hl hP hD hS
  exact lv_icmp_lt hC.1 hC.2.1 hd ht (fun h9 => kt h9 hC H ls locs hl hP hD hS) (fun h9 => kf h9 hC H ls locs hl hP hD hS)
theorem kx_if_ge {x : Int32} {off : Int} (tgt : Nat) (hd : decode Y.1 pc = .ok (.ifCond .ge off, 3)) (ht : (pc : Int) + off = (tgt : Int))
    (kt : 0 ≤ x → kx_R E Y z tgt L st w kc ks Q) (kf : ¬ 0 ≤ x → kx_R E Y z (pc + 3) L st w kc ks Q) : kx_R E Y z pc L (.int x :: st) w kc ks Q := by
  intro hC H ls locs hl hP hD hS
  exact lv_if_ge hC.1 hC.2.1 hd ht (fun h9 => kt h9 hC H ls locs hl hP hD hS) (fun h9 => kf h9 hC H ls locs hl hP hD hS)
theorem kx_icmp_ge {x y : Int32} {off : Int} (tgt : Nat) (hd : decode Y.1 pc = .ok (.if_icmp .ge off, 3)) (ht : (pc : Int) + off = (tgt : Int))
    (kt : y ≤ x → kx_R E Y z tgt L st w kc ks Q) (kf : ¬ y ≤ x → kx_R E Y z (pc + 3) L st w kc ks Q) : kx_R E Y z pc L (.int y :: .int x :: st) w kc ks Q := by
  intro hC H ls locs hl hP hD hS
  exact lv_icmp_ge hC.1 hC.2.1 hd ht (fun h9 => kt h9 hC H ls locs hl hP hD hS) (fun h9 => kf h9 hC H ls locs hl hP hD hS)
theorem kx_if_gt {x : Int32} {off : Int} (tgt : Nat) (hd : decode Y.1 pc = .ok (.ifCond .gt off, 3)) (ht : (pc : Int) + off = (tgt : Int))
    (kt : 0 < x → kx_R E Y z tgt L st w kc ks Q) (kf : ¬ 0 < x → kx_R E Y z (pc + 3) L st w kc ks Q) : kx_R E Y z pc L (.int x :: st) w kc ks Q := by
  intro hC H ls locs hl hP hD hS
  exact lv_if_gt hC.1 hC.2.1 hd ht (fun h9 => kt h9 hC H ls locs hl hP hD hS) (fun h9 => kf h9 hC H ls locs hl hP hD hS)
theorem kx_icmp_gt {x y : Int32} {off : Int} (tgt : Nat) (hd : decode Y.1 pc = .ok (.if_icmp .gt off, 3)) (ht : (pc : Int) + off = (tgt : Int))
    (kt : y < x → kx_R E Y z tgt L st w kc ks Q) (kf : ¬ y < x → kx_R E Y z (pc + 3) L st w kc ks Q) : kx_R E Y z pc L (.int y :: .int x :: st) w kc ks Q := by
  intro hC H ls locs hl hP hD hS
  exact lv_icmp_gt hC.1 hC.2.1 hd ht (fun h9 => kt h9 hC H ls locs hl hP hD hS) (fun h9 => kf h9 hC H ls locs hl hP hD hS)
theorem kx_if_le {x : Int32} {off : Int} (tgt : Nat) (hd : decode Y.1 pc = .ok (.ifCond .le off, 3)) (ht : (pc : Int) + off = (tgt : Int))
    (kt : x ≤ 0 → kx_R E Y z tgt L st w kc ks Q) (kf : ¬ x ≤ 0 → kx_R E Y z (pc + 3) L st w kc ks Q) : kx_R E Y z pc L (.int x :: st) w kc ks Q := by
  intro hC H ls locs hl hP hD hS
  exact lv_if_le hC.1 hC.2.1 hd ht (fun h9 => kt h9 hC H ls locs hl hP hD hS) (fun h9 => kf h9 hC H ls locs hl hP hD hS)
theorem kx_icmp_le {x y : Int32} {off : Int} (tgt : Nat) (hd : decode Y.1 pc = .ok (.if_icmp .le off, 3)) (ht : (pc : Int) + off = (tgt : Int))
    (kt : x ≤ y → kx_R E Y z tgt L st w kc ks Q) (kf : ¬ x ≤ y → kx_R E Y z (pc + 3) L st w kc ks Q) : kx_R E Y z pc L (.int y :: .int x :: st) w kc ks Q := by
  intro hC H ls locs hl hP hD hS
  exact lv_icmp_le hC.1 hC.2.1 hd ht (fun h9 => kt h9 hC H ls locs hl hP hD hS) (fun h9 => kf h9 hC H ls locs hl hP hD hS)
theorem kx_ifnull {off : Int} (tgt : Nat) {o : Option Nat} (hd : decode Y.1 pc = .ok (.ifnull off, 3)) (ht : (pc : Int) + off = (tgt : Int))
    (kt : o = none → kx_R E Y z tgt L st w kc ks Q) (kf : ∀ a, o = some a → kx_R E Y z (pc + 3) L st w kc ks Q) : kx_R E Y z pc L (va_rf o :: st) w kc ks Q := by
  intro hC H ls locs hl hP hD hS
  cases o with
  | none => exact lv_ifnullN hC.1 hC.2.1 hd ht (kt rfl hC H ls locs hl hP hD hS)
  | some a => exact lv_ifnull hC.1 hC.2.1 hd (kf a rfl hC H ls locs hl hP hD hS)
theorem kx_ifnonnull {off : Int} (tgt : Nat) {o : Option Nat} (hd : decode Y.1 pc = .ok (.ifnonnull off, 3)) (ht : (pc : Int) + off = (tgt : Int))
    (kt : ∀ a, o = some a → kx_R E Y z tgt L st w kc ks Q) (kf : o = none → kx_R E Y z (pc + 3) L st w kc ks Q) : kx_R E Y z pc L (va_rf o :: st) w kc ks Q := by
  intro hC H ls locs hl hP hD hS
  cases o with
  | none => exact lv_ifnonnullN hC.1 hC.2.1 hd (kf rfl hC H ls locs hl hP hD hS)
  | some a => exact lv_ifnonnull hC.1 hC.2.1 hd ht (kt a rfl hC H ls locs hl hP hD hS)
theorem kx_tabIn {dflt lo hi : Int} {offs : Array Int} {len : Nat} {x : Int32} {off : Int} (tgt : Nat) (hd : decode Y.1 pc = .ok (.tableswitch dflt lo hi offs, len)) (h1 : ¬ x.toInt < lo) (h2 : ¬ hi < x.toInt) (ho : offs[(x.toInt - lo).toNat]? = some off) (ht : (pc : Int) + off = (tgt : Int))
    (kk : kx_R E Y z tgt L st w kc ks Q) : kx_R E Y z pc L (.int x :: st) w kc ks Q := by
  intro hC H ls locs hl hP hD hS
  exact lv_tableIn hC.1 hC.2.1 hd h1 h2 ho ht (kk hC H ls locs hl hP hD hS)
theorem kx_tabOut {dflt lo hi : Int} {offs : Array Int} {len : Nat} {x : Int32} (tgt : Nat) (hd : decode Y.1 pc = .ok (.tableswitch dflt lo hi offs, len)) (h : x.toInt < lo ∨ hi < x.toInt) (ht : (pc : Int) + dflt = (tgt : Int))
    (kk : kx_R E Y z tgt L st w kc ks Q) : kx_R E Y z pc L (.int x :: st) w kc ks Q := by
  intro hC H ls locs hl hP hD hS
  exact lv_tableOut hC.1 hC.2.1 hd h ht (kk hC H ls locs hl hP hD hS)
theorem kx_loc {L1 : kx_L} (h : kx_sub L1 L) (kk : kx_R E Y z pc L1 st w kc ks Q) : kx_R E Y z pc L st w kc ks Q := fun hC H ls locs hl hP hD hS => kk hC H ls locs (hl.sub h) hP hD hS
theorem kx_top {x : Int32} (y : Int32) (h : x = y) (kk : kx_R E Y z pc L (.int y :: st) w kc ks Q) : kx_R E Y z pc L (.int x :: st) w kc ks Q := h ▸ kk
theorem kx_at {pc1 : Nat} (h : pc = pc1) (kk : kx_R E Y z pc1 L st w kc ks Q) : kx_R E Y z pc L st w kc ks Q := h ▸ kk
theorem kx_w {w1 : va_W} (h : w = w1) (kk : kx_R E Y z pc L st w1 kc ks Q) : kx_R E Y z pc L st w kc ks Q := h ▸ kk
end KXR
end
section
section KXM
variable {E : kx_E} {Y : kx_Y} {z : kx_Z} {pc : Nat} {L : kx_L} {st : List Value} {w : va_W} {kc ks : Nat} {Q : kx_O → va_W → Prop}
/-- the place k of the things of number ci, as the pool of own names it at idx -/
def kx_F (own : String) (idx ci k : Nat) : Prop := ∃ (C : String) (T : u_T) (N : Nat), vwCl[ci]? = some (C, T, N) ∧ k < N ∧ (∀ c ∈ u_ws C T N, c ∈ kx_WS) ∧ Cond.fieldLink own idx (T k).1 (T k).2.1 (T k).2.2.1 ∈ kx_WS
/-- a value that may be written there -/
def kx_P (ci k : Nat) (fin : Bool) (v : Value) : Prop := ∃ (C : String) (T : u_T) (N : Nat) (ty0 : Nat → FieldType) (ty : FieldType), vwCl[ci]? = some (C, T, N) ∧ (∀ k, k < N → parseFieldDescriptor (T k).2.2.1 = some (ty0 k)) ∧ (∀ a, a < N → ∀ b, b < N → a ≠ b → (T a).2.1 ≠ (T b).2.1) ∧ (T k).2.2.2 = fin ∧ (fin = true → (T k).1 = C) ∧ parseFieldDescriptor (T k).2.2.1 = some ty ∧ narrow ty v = v ∧ fits ty v = true
theorem kx_get {idx ci k x a : Nat} {fs : List Value} (v : Value) (hd : decode Y.1 pc = .ok (.getfield idx, 3)) (hf : kx_F Y.2.2.1 idx ci k) (hw : w[x]? = some (a, .inr (ci, fs))) (hv : fs[k]? = some v)
    (kk : kx_R E Y z (pc + 3) L (v :: st) w kc ks Q) : kx_R E Y z pc L (.ref a :: st) w kc ks Q := by
  intro hC H ls locs hl hP hD hS
  obtain ⟨C, T, N, h1, h2, h3, h4⟩ := hf
  exact va_get hC.1 hC.2.1 hC.2.2.2.2.1 h3 hC.2.2.2.1 hC.2.2.2.2.2.1 hP x hw h1 k h2 (hC.2.2.2.2.1 _ h4) (fun _ h9 => h9) hv hd (kk hC H ls locs hl hP hD hS)
theorem kx_put {idx ci k x a : Nat} {fs : List Value} {v : Value} (hd : decode Y.1 pc = .ok (.putfield idx, 3)) (hf : kx_F Y.2.2.1 idx ci k) (hp : kx_P ci k false v) (hw : w[x]? = some (a, .inr (ci, fs))) (hl9 : k < fs.length)
    (kk : kx_R E Y z (pc + 3) L st (w.set x (a, .inr (ci, fs.set k v))) kc ks Q) : kx_R E Y z pc L (v :: .ref a :: st) w kc ks Q := by
  intro hC H ls locs hl hP hD hS
  obtain ⟨C, T, N, h1, h2, h3, h4⟩ := hf
  obtain ⟨C1, T1, N1, ty0, ty, g1, g2, g3, g4, g5, g6, g7, g8⟩ := hp
  cases Option.some.inj (h1.symm.trans g1)
  exact va_put hC.1 hC.2.1 hC.2.2.2.2.1 h3 ty0 g2 g3 hC.2.2.2.1 hC.2.2.2.2.2.1 hP hD hS x hw h1 k h2 (hC.2.2.2.2.1 _ h4) (fun _ h9 => h9) g4 g6 g7 g8 hl9 hd (fun H1 locs1 hP1 hD1 hS1 => kk hC H1 ls locs1 hl hP1 hD1 hS1)
theorem kx_putF {idx ci k x a : Nat} {fs : List Value} {v : Value} {C : String} {T : u_T} {N : Nat} (hd : decode Y.1 pc = .ok (.putfield idx, 3)) (hf : kx_F Y.2.2.1 idx ci k) (hp : kx_P ci k true v) (hc : vwCl[ci]? = some (C, T, N)) (hown : C = Y.2.2.1) (hin : Y.2.2.2.2.1.name = "<init>") (hw : w[x]? = some (a, .inr (ci, fs))) (hl9 : k < fs.length)
    (kk : kx_R E Y z (pc + 3) L st (w.set x (a, .inr (ci, fs.set k v))) kc ks Q) : kx_R E Y z pc L (v :: .ref a :: st) w kc ks Q := by
  intro hC H ls locs hl hP hD hS
  obtain ⟨C, T, N, h1, h2, h3, h4⟩ := hf
  obtain ⟨C1, T1, N1, ty0, ty, g1, g2, g3, g4, g5, g6, g7, g8⟩ := hp
  cases Option.some.inj (h1.symm.trans g1)
  cases Option.some.inj (h1.symm.trans hc)
  exact va_putF hC.1 hC.2.1 hC.2.2.2.2.1 h3 ty0 g2 g3 hC.2.2.2.1 hC.2.2.2.2.2.1 hP hD hS x hw h1 k h2 (hC.2.2.2.2.1 _ h4) (fun _ h9 => h9) g4 (hC.2.2.2.2.2.2.2.2.2.1.trans hin) ((g5 rfl).trans hown) g6 g7 g8 hl9 hd (fun H1 locs1 hP1 hD1 hS1 => kk hC H1 ls locs1 hl hP1 hD1 hS1)
theorem kx_tyAt {t : Nat} {ty : FieldType} (hE : kx_ty E) (h : kx_tys[t]? = some ty) : E.2.2.1[t]? = some (kx_ci E t, ty) := by
  unfold kx_ty at hE
  rw [← hE, List.getElem?_map] at h
  unfold kx_ci
  cases h2 : E.2.2.1[t]? with
  | none => rw [h2] at h; cases h
  | some q =>
    rw [h2] at h
    obtain ⟨c, y⟩ := q
    cases h
    rw [List.getD_eq_getElem?_getD, h2]; rfl
abbrev kx_ai (E : kx_E) (n : Nat) (f : Nat → Int32) : va_E := .inl (kx_ci E 0, n, .inl f)
abbrev kx_az (E : kx_E) (n : Nat) (f : Nat → Int32) : va_E := .inl (kx_ci E 1, n, .inl f)
abbrev kx_aj (E : kx_E) (n : Nat) (f : Nat → Int64) : va_E := .inl (kx_ci E 2, n, .inr (.inl f))
abbrev kx_aq (E : kx_E) (t n : Nat) (f : Nat → Option Nat) : va_E := .inl (kx_ci E t, n, .inr (.inr (.inr (.inr f))))
theorem kx_ix {i n : Nat} (h : i < n) (hn : n < 2 ^ 31) : vp_in (nI i) n ∧ (nI i).toNatClampNeg = i := ⟨vp_in_nI h hn, nI_clamp (Nat.lt_trans h hn)⟩
theorem kx_iald {x a n i : Nat} {f : Nat → Int32} (hd : decode Y.1 pc = .ok (.iaload, 1)) (hw : w[x]? = some (a, kx_ai E n f)) (hi : i < n) (hn : n < 2 ^ 31)
    (kk : kx_R E Y z (pc + 1) L (.int (f i) :: st) w kc ks Q) : kx_R E Y z pc L (.int (nI i) :: .ref a :: st) w kc ks Q := by
  intro hC H ls locs hl hP hD hS
  obtain ⟨h1, h2⟩ := kx_ix hi hn
  refine va_iald hC.1 hC.2.1 hC.2.2.2.2.2.1 hP x 0 hw (kx_tyAt hC.2.2.2.2.2.2.2.2.2.2.2.2.2.2 rfl) h1 hd ?_
  rw [h2]
  exact kk hC H ls locs hl hP hD hS
theorem kx_zald {x a n i : Nat} {f : Nat → Int32} (hd : decode Y.1 pc = .ok (.baload, 1)) (hw : w[x]? = some (a, kx_az E n f)) (hi : i < n) (hn : n < 2 ^ 31)
    (kk : kx_R E Y z (pc + 1) L (.int (f i) :: st) w kc ks Q) : kx_R E Y z pc L (.int (nI i) :: .ref a :: st) w kc ks Q := by
  intro hC H ls locs hl hP hD hS
  obtain ⟨h1, h2⟩ := kx_ix hi hn
  refine va_zald hC.1 hC.2.1 hC.2.2.2.2.2.1 hP x 1 hw (kx_tyAt hC.2.2.2.2.2.2.2.2.2.2.2.2.2.2 rfl) h1 hd ?_
  rw [h2]
  exact kk hC H ls locs hl hP hD hS
theorem kx_lald {x a n i : Nat} {f : Nat → Int64} (hd : decode Y.1 pc = .ok (.laload, 1)) (hw : w[x]? = some (a, kx_aj E n f)) (hi : i < n) (hn : n < 2 ^ 31)
    (kk : kx_R E Y z (pc + 1) L (.long (f i) :: st) w kc ks Q) : kx_R E Y z pc L (.int (nI i) :: .ref a :: st) w kc ks Q := by
  intro hC H ls locs hl hP hD hS
  obtain ⟨h1, h2⟩ := kx_ix hi hn
  refine va_lald hC.1 hC.2.1 hC.2.2.2.2.2.1 hP x 2 hw (kx_tyAt hC.2.2.2.2.2.2.2.2.2.2.2.2.2.2 rfl) h1 hd ?_
  rw [h2]
  exact kk hC H ls locs hl hP hD hS
theorem kx_aald {x a n i t : Nat} {C : String} {f : Nat → Option Nat} (hd : decode Y.1 pc = .ok (.aaload, 1)) (hw : w[x]? = some (a, kx_aq E t n f)) (ht : kx_tys[t]? = some (.object C)) (hi : i < n) (hn : n < 2 ^ 31)
    (kk : kx_R E Y z (pc + 1) L (va_rf (f i) :: st) w kc ks Q) : kx_R E Y z pc L (.int (nI i) :: .ref a :: st) w kc ks Q := by
  intro hC H ls locs hl hP hD hS
  obtain ⟨h1, h2⟩ := kx_ix hi hn
  refine va_aldq hC.1 hC.2.1 hC.2.2.2.2.2.1 hP x t hw (kx_tyAt hC.2.2.2.2.2.2.2.2.2.2.2.2.2.2 ht) h1 hd ?_
  rw [h2]
  exact kk hC H ls locs hl hP hD hS
theorem kx_iast {x a n i : Nat} {f : Nat → Int32} {v : Int32} (hd : decode Y.1 pc = .ok (.iastore, 1)) (hw : w[x]? = some (a, kx_ai E n f)) (hi : i < n) (hn : n < 2 ^ 31)
    (kk : kx_R E Y z (pc + 1) L st (w.set x (a, kx_ai E n (upd f i v))) kc ks Q) : kx_R E Y z pc L (.int v :: .int (nI i) :: .ref a :: st) w kc ks Q := by
  intro hC H ls locs hl hP hD hS
  obtain ⟨h1, h2⟩ := kx_ix hi hn
  refine va_iast hC.1 hC.2.1 hC.2.2.2.2.2.1 hP hD hS x 0 hw (kx_tyAt hC.2.2.2.2.2.2.2.2.2.2.2.2.2.2 rfl) h1 hd (fun H1 locs1 hP1 hD1 hS1 => ?_)
  rw [h2] at hP1 hD1
  exact kk hC H1 ls locs1 hl hP1 hD1 hS1
theorem kx_zast {x a n i : Nat} {f : Nat → Int32} {v : Int32} (hd : decode Y.1 pc = .ok (.bastore, 1)) (hw : w[x]? = some (a, kx_az E n f)) (hi : i < n) (hn : n < 2 ^ 31) (hv : vp_nar .boolean v = v)
    (kk : kx_R E Y z (pc + 1) L st (w.set x (a, kx_az E n (upd f i v))) kc ks Q) : kx_R E Y z pc L (.int v :: .int (nI i) :: .ref a :: st) w kc ks Q := by
  intro hC H ls locs hl hP hD hS
  obtain ⟨h1, h2⟩ := kx_ix hi hn
  refine va_zast hC.1 hC.2.1 hC.2.2.2.2.2.1 hP hD hS x 1 hw (kx_tyAt hC.2.2.2.2.2.2.2.2.2.2.2.2.2.2 rfl) h1 hd (fun H1 locs1 hP1 hD1 hS1 => ?_)
  rw [h2, hv] at hP1 hD1
  exact kk hC H1 ls locs1 hl hP1 hD1 hS1
theorem kx_last {x a n i : Nat} {f : Nat → Int64} {v : Int64} (hd : decode Y.1 pc = .ok (.lastore, 1)) (hw : w[x]? = some (a, kx_aj E n f)) (hi : i < n) (hn : n < 2 ^ 31)
    (kk : kx_R E Y z (pc + 1) L st (w.set x (a, kx_aj E n (vp_updL f i v))) kc ks Q) : kx_R E Y z pc L (.long v :: .int (nI i) :: .ref a :: st) w kc ks Q := by
  intro hC H ls locs hl hP hD hS
  obtain ⟨h1, h2⟩ := kx_ix hi hn
  refine va_last hC.1 hC.2.1 hC.2.2.2.2.2.1 hP hD hS x 2 hw (kx_tyAt hC.2.2.2.2.2.2.2.2.2.2.2.2.2.2 rfl) h1 hd (fun H1 locs1 hP1 hD1 hS1 => ?_)
  rw [h2] at hP1 hD1
  exact kk hC H1 ls locs1 hl hP1 hD1 hS1
theorem kx_aast {x y a n i t v ci : Nat} {vs : List Value} {r : vw_C} {f : Nat → Option Nat} (hd : decode Y.1 pc = .ok (.aastore, 1)) (hw : w[x]? = some (a, kx_aq E t n f)) (hv : w[y]? = some (v, .inr (ci, vs))) (hr : vwCl[ci]? = some r) (ht : kx_tys[t]? = some (.object r.1)) (hi : i < n) (hn : n < 2 ^ 31)
    (kk : kx_R E Y z (pc + 1) L st (w.set x (a, kx_aq E t n (va_up f i (some v)))) kc ks Q) : kx_R E Y z pc L (.ref v :: .int (nI i) :: .ref a :: st) w kc ks Q := by
  intro hC H ls locs hl hP hD hS
  obtain ⟨h1, h2⟩ := kx_ix hi hn
  refine va_astq hC.1 hC.2.1 hC.2.2.2.2.2.1 hP hD hS x t y ci hw (kx_tyAt hC.2.2.2.2.2.2.2.2.2.2.2.2.2.2 ht) hv hr h1 hd (fun H1 locs1 hP1 hD1 hS1 => ?_)
  rw [h2] at hP1 hD1
  exact kk hC H1 ls locs1 hl hP1 hD1 hS1
theorem kx_alen {x a t : Nat} {q : vp_A} {ty : FieldType} (hd : decode Y.1 pc = .ok (.arraylength, 1)) (hw : w[x]? = some (a, .inl (kx_ci E t, q))) (ht : kx_tys[t]? = some ty)
    (kk : kx_R E Y z (pc + 1) L (.int (nI q.1) :: st) w kc ks Q) : kx_R E Y z pc L (.ref a :: st) w kc ks Q := by
  intro hC H ls locs hl hP hD hS
  exact va_alen hC.1 hC.2.1 hC.2.2.2.2.2.1 hP x t hw (kx_tyAt hC.2.2.2.2.2.2.2.2.2.2.2.2.2.2 ht) rfl hd (kk hC H ls locs hl hP hD hS)
theorem kx_vret (hd : decode Y.1 pc = .ok (.return_, 1)) (hr : Y.2.2.2.1 = none) (h1 : kc ≤ Y.2.2.2.2.2.1) (h2 : ks ≤ Y.2.2.2.2.2.2.1) (hQ : Q (.inl none) w) : kx_R E Y z pc L [] w kc ks Q := by
  intro hC H ls locs hl hP hD hS
  exact W.widen h1 h2 (vx_ret (W.vret hC.1 hC.2.1 (hC.2.2.2.2.2.2.2.2.1.trans hr) (fun t ht hW => ⟨⟨none, w, rfl, hQ, by rw [ht]; exact hP, hD⟩, hS.F ht⟩) hS.2.2 hd hC.2.2.2.2.2.2.2.1))
theorem kx_iret {v : Int32} (hd : decode Y.1 pc = .ok (.ireturn, 1)) (hr : Y.2.2.2.1 = some .int) (h1 : kc ≤ Y.2.2.2.2.2.1) (h2 : ks ≤ Y.2.2.2.2.2.2.1) (hQ : Q (.inl (some (.int v))) w) : kx_R E Y z pc L [.int v] w kc ks Q := by
  intro hC H ls locs hl hP hD hS
  exact W.widen h1 h2 (vx_ret (W.iret hC.1 hC.2.1 (hC.2.2.2.2.2.2.2.2.1.trans hr) (fun t ht hW => ⟨⟨_, w, rfl, hQ, by rw [ht]; exact hP, hD⟩, hS.F ht⟩) hS.2.2 hd hC.2.2.2.2.2.2.2.1))
theorem kx_zret {v : Int32} (hd : decode Y.1 pc = .ok (.ireturn, 1)) (hr : Y.2.2.2.1 = some .boolean) (hn : narrow .boolean (.int v) = .int v) (h1 : kc ≤ Y.2.2.2.2.2.1) (h2 : ks ≤ Y.2.2.2.2.2.2.1) (hQ : Q (.inl (some (.int v))) w) : kx_R E Y z pc L [.int v] w kc ks Q := by
  intro hC H ls locs hl hP hD hS
  exact W.widen h1 h2 (vx_ret (W.zret hC.1 hC.2.1 (hC.2.2.2.2.2.2.2.2.1.trans hr) hn (fun t ht hW => ⟨⟨_, w, rfl, hQ, by rw [ht]; exact hP, hD⟩, hS.F ht⟩) hS.2.2 hd hC.2.2.2.2.2.2.2.1))
theorem kx_aret {v : Value} {C : String} (hd : decode Y.1 pc = .ok (.areturn, 1)) (hr : Y.2.2.2.1 = some (.object C)) (hv : v.isRef = true) (h1 : kc ≤ Y.2.2.2.2.2.1) (h2 : ks ≤ Y.2.2.2.2.2.2.1) (hQ : Q (.inl (some v)) w) : kx_R E Y z pc L [v] w kc ks Q := by
  intro hC H ls locs hl hP hD hS
  exact W.widen h1 h2 (vx_ret (W.aret hC.1 hC.2.1 (hC.2.2.2.2.2.2.2.2.1.trans hr) (Or.inl ⟨C, rfl⟩) (by cases v <;> first | (simp [Value.isRef] at hv; done) | exact Or.inl rfl | exact Or.inr ⟨_, rfl⟩) (fun t ht hW => ⟨⟨_, w, rfl, hQ, by rw [ht]; exact hP, hD⟩, hS.F ht⟩) hS.2.2 hd hC.2.2.2.2.2.2.2.1))
end KXM
end
section
section KXN
variable {E : kx_E} {Y : kx_Y} {z : kx_Z} {pc : Nat} {L : kx_L} {st : List Value} {w : va_W} {kc ks : Nat} {Q : kx_O → va_W → Prop}
theorem kx_RAeq {U : State} {c1 c2 : ClassId} {ty : FieldType} (h1 : va_RA U c1 ty) (h2 : va_RA U c2 ty) : c1 = c2 := by
  cases ty with
  | object C =>
    obtain ⟨_, _, _, _, _, h1⟩ := h1
    obtain ⟨_, _, _, _, _, h2⟩ := h2
    exact Option.some.inj (h1.symm.trans h2)
  | _ => exact Option.some.inj (Eq.trans (Eq.symm h1) h2)
theorem kx_Kci {U : State} {cA : ClassId} {t : Nat} {ty : FieldType} (hE : kx_ty E) (ht : kx_tys[t]? = some ty) (hK : va_K E.2.1 vwCl (E.2.2.1 ++ [(cA, ty)]) U) : cA = kx_ci E t := by
  have h1 := kx_tyAt hE ht
  have hl := (List.getElem?_eq_some_iff.mp h1).1
  have g1 := (hK.2 t _ (by rw [List.getElem?_append_left hl]; exact h1)).2
  have g2 := (hK.2 E.2.2.1.length (cA, ty) (by simp)).2
  exact kx_RAeq g2 g1
theorem kx_newa {atype : ArrayType} {t n : Nat} {ty : FieldType} (a0 : vp_A) (hd : decode Y.1 pc = .ok (.newarray atype, 2)) (harr : Cond.arrayClass (newarray.typeOf atype) ∈ kx_WS) (hty : newarray.typeOf atype = ty) (ht : kx_tys[t]? = some ty)
    (ha : ∀ cA : ClassId, vp_cell cA a0 = arrV cA n (fun _ => defaultValue ty)) (hn : n < 2 ^ 31) (hb : n * componentBytes ty ≤ 536870912) (h1 : kc + 1 ≤ Y.2.2.2.2.2.1) (h2 : ks + n ≤ Y.2.2.2.2.2.2.1)
    (kk : ∀ q, kx_R E Y z (pc + 2) L (.ref q :: st) (w ++ [(q, .inl (kx_ci E t, a0))]) (kc + 1) (ks + n) Q) : kx_R E Y z pc L (.int (nI n) :: st) w kc ks Q := by
  intro hC H ls locs hl hP hD hS
  refine va_newa hC.1 hC.2.1 (hC.2.2.2.2.1 _ harr) hty hC.2.2.2.2.2.1 hP hD hS (fun q h => Nat.le_trans hC.2.2.2.2.2.2.1 h) ha (nI_pos hn) (nI_clamp hn) hb (by rw [hC.2.2.2.2.2.2.2.2.2.2.2.1]; exact h1) (by rw [hC.2.2.2.2.2.2.2.2.2.2.2.1]; exact h2) hd (fun q cA H1 hK1 hP1 hD1 hS1 => ?_)
  have e := kx_Kci hC.2.2.2.2.2.2.2.2.2.2.2.2.2.2 ht hK1
  subst e
  exact kk q hC H1 ls locs hl hP1 hD1 hS1
theorem kx_newq {idx t n : Nat} {C : String} (hd : decode Y.1 pc = .ok (.anewarray idx, 3)) (hc : Cond.classLink Y.2.2.1 idx C ∈ kx_WS) (ho : ∀ U : State, kx_Ex E U → va_AO C U) (ht : kx_tys[t]? = some (.object C))
    (hn : n < 2 ^ 31) (hb : n * 4 ≤ 536870912) (h1 : kc + 1 ≤ Y.2.2.2.2.2.1) (h2 : ks + n ≤ Y.2.2.2.2.2.2.1)
    (kk : ∀ q, kx_R E Y z (pc + 3) L (.ref q :: st) (w ++ [(q, kx_aq E t n (fun _ => none))]) (kc + 1) (ks + n) Q) : kx_R E Y z pc L (.int (nI n) :: st) w kc ks Q := by
  intro hC H ls locs hl hP hD hS
  refine va_newq hC.1 hC.2.1 hC.2.2.2.1 (hC.2.2.2.2.1 _ hc) (ho _ hC.2.2.2.2.2.2.2.2.2.2.2.2.2.1) hC.2.2.2.2.2.1 hP hD hS (fun q h => Nat.le_trans hC.2.2.2.2.2.2.1 h) (nI_pos hn) (nI_clamp hn) hb (by rw [hC.2.2.2.2.2.2.2.2.2.2.2.1]; exact h1) (by rw [hC.2.2.2.2.2.2.2.2.2.2.2.1]; exact h2) hd (fun q cA H1 hK1 hP1 hD1 hS1 => ?_)
  have e := kx_Kci hC.2.2.2.2.2.2.2.2.2.2.2.2.2.2 ht hK1
  subst e
  exact kk q hC H1 ls locs hl hP1 hD1 hS1
/-- a thing of number ci may be made by own at idx; fs: its fields at first -/
def kx_N (own : String) (idx ci : Nat) (fs : List Value) : Prop := ∃ (C : String) (T : u_T) (N : Nat) (ty : Nat → FieldType), vwCl[ci]? = some (C, T, N) ∧ (∀ k, k < N → parseFieldDescriptor (T k).2.2.1 = some (ty k)) ∧ (∀ c ∈ u_ws C T N, c ∈ kx_WS) ∧ Cond.classLink own idx C ∈ kx_WS ∧ Cond.instantiable C N ∈ kx_WS ∧ Cond.initialized C ∈ kx_WS ∧ fs.length = N ∧ ∀ j, j < N → defaultValue (ty j) = vp_V fs j
theorem kx_new {idx ci : Nat} {fs : List Value} (hd : decode Y.1 pc = .ok (.new idx, 3)) (hN : kx_N Y.2.2.1 idx ci fs) (h1 : kc + 1 ≤ Y.2.2.2.2.2.1) (h2 : ks + fs.length ≤ Y.2.2.2.2.2.2.1)
    (kk : ∀ q, kx_R E Y z (pc + 3) L (.ref q :: st) (w ++ [(q, .inr (ci, fs))]) (kc + 1) (ks + fs.length) Q) : kx_R E Y z pc L st w kc ks Q := by
  intro hC H ls locs hl hP hD hS
  obtain ⟨C, T, N, ty, g1, g2, g3, g4, g5, g6, g7, g8⟩ := hN
  subst g7
  exact va_new hC.1 hC.2.1 hC.2.2.2.2.1 g3 ty g2 hC.2.2.2.1 (hC.2.2.2.2.1 _ g4) (hC.2.2.2.2.1 _ g5) (hC.2.2.2.2.1 _ g6) hC.2.2.2.2.2.1 hP hD hS (fun q h => Nat.le_trans hC.2.2.2.2.2.2.1 h) g1 g8 (by rw [hC.2.2.2.2.2.2.2.2.2.2.2.1]; exact h1) (by rw [hC.2.2.2.2.2.2.2.2.2.2.2.1]; exact h2) hd (fun q H1 hP1 hD1 hS1 => kk q hC H1 ls locs hl hP1 hD1 hS1)
theorem kx_obj {idx a : Nat} (hd : decode Y.1 pc = .ok (.invokespecial idx, 3)) (h1 : Cond.methodLink Y.2.2.1 idx Lib.objectInit ∈ kx_WS) (h2 : Cond.instanceMethod Lib.objectInit ∈ kx_WS) (h3 : Cond.code Lib.objectInit ⟨#[0xb1]⟩ 1 none ∈ kx_WS) (h4 : (st.map fun v => v.category).sum ≤ 60)
    (kk : kx_R E Y z (pc + 3) L st w kc ks Q) : kx_R E Y z pc L (.ref a :: st) w kc ks Q := by
  intro hC H ls locs hl hP hD hS
  have hR := hC.2.2.2.2.2.2.2.2.2.2.2.1
  refine W.objInit hC.1 hC.2.1 hC.2.2.2.1 (hC.2.2.2.2.1 _ h1) (hC.2.2.2.2.1 _ h2) (hC.2.2.2.2.1 _ h3) rfl (by rw [hC.2.2.1]; exact hl.1) rfl hd ?_ ?_ (kk hC H ls locs hl hP hD hS)
  · rw [hR]; show 1 ≤ 1 + _; omega
  · rw [hR]; show 2 * 0 + _ + 12 ≤ 100 + _; omega
end KXN
end
section
section KXC
variable {E : kx_E} {Y : kx_Y} {z : kx_Z} {pc : Nat} {L : kx_L} {st : List Value} {w : va_W} {kc ks : Nat} {Q : kx_O → va_W → Prop}
theorem kx_blind {as : List Value} : FrameBlind (va_Pc as (kx_Wd E w)) := by
  intro a U g mk h
  obtain ⟨h0, h1, h2, h3, h4, h5, h6⟩ := h
  exact ⟨h0, h1, h2, va_K.moved (u := U) (U := U.calling g mk a) (Vm.Alike.refl U.vm) h3, h4, h5.calling g mk a, h6⟩
theorem kx_good {c : Cond} (h : c ∈ kx_WS) : c ∈ kx_WS ∧ ((c.onTables && c.keeps) = true ∨ ∃ ty, c = .arrayClass ty) := ⟨h, good_of_word (List.mem_filter.mp h).2⟩
theorem kx_argsIn : ∀ (as : List Value) (k i : Nat) (v : Value), kx_lk (lv_args k as) i = some v → (i, v) ∈ lv_args k as := by
  have key : ∀ (l : kx_L) (i : Nat) (v : Value), kx_lk l i = some v → (i, v) ∈ l := by
    intro l
    induction l with
    | nil => intro i v h; cases h
    | cons q t ih =>
      obtain ⟨j, u⟩ := q
      intro i v h
      by_cases e : j = i
      · subst e
        rw [kx_lk_self] at h
        cases h
        exact List.mem_cons_self
      · rw [kx_lk_ne e] at h
        exact List.mem_cons_of_mem _ (ih i v h)
  exact fun as k i v h => key _ i v h
theorem kx_of {as : List Value} (hy : plainName Y.2.2.2.2.1.cls = true) (hcls : Y.2.2.2.2.1.cls = Y.2.2.1) (hh : Y.2.2.2.2.2.2.2.2 = []) (hn : (lg_sl as).length ≤ Y.2.1) (hc : ∀ q ∈ lv_args 0 as, q.2.category = 1)
    (body : ∀ z : kx_Z, kx_R E Y z 0 (lv_args 0 as) [] w 0 0 Q) : kx_S E Y as w Q := by
  have hw : kx_ws Y = Cond.code Y.2.2.2.2.1 Y.1 Y.2.1 Y.2.2.2.1 :: kx_WS := by unfold kx_ws kx_hd; rw [hh]
  refine vx_ofW (cc := Y.1) (maxL := Y.2.1) (ret := Y.2.2.2.1) hy hw ?_
  intro p e s m args below meth c s₁ B hml ht hv
  obtain ⟨rfl, hP, hD, hK, hb, hEx, hty⟩ := hv
  have hts := atoms_spec (ws := kx_ws Y) B.pre
  have hl := lv_entry as (n := Y.2.1) hn
  rw [lg_entry_eq]
  generalize (lg_sl as ++ List.replicate (Y.2.1 - (lg_sl as).length) Slot.unset).toArray = ls at hl ⊢
  refine body (p, E.1, e, kx_rm Y, s, m, as.toArray, below, meth, c) ⟨B.exec, B.bytes, hml, ?_, fun c hc => hts c (List.mem_cons_of_mem _ hc), hK, hb, B.notSynchronized, B.returns, (name_of_methodNamed B.named B.method).1, ?_, rfl, rfl, hEx, hty⟩ s.heap ls [] ⟨hl.1, hl.2.1, fun i v h => ?_⟩ hP hD va_S.rf
  · show s.vm.findClass Y.2.2.1 = some m.cls
    rw [← hcls]
    exact findClass_of_methodNamed B.named
  · show c.exceptionTable.toList = tableOf Y.2.2.2.2.2.2.2.2
    rw [hh, List.eq_nil_iff_forall_not_mem.mpr (fun x hx => ht x hx)]
    rfl
  · have h1 := kx_argsIn as 0 i v h
    exact ⟨hc _ h1, hl.2.2 _ h1⟩
/-- on from a call -/
theorem kx_run {p : Program} {l : Launch} {e : Env} {R : Room} {s : State} {m : MethodId} {args a : Array Value} {below : List Frame} {meth : Method} {c : Code} {H : Heap} {locs : List Loc} {cells slots mc ms : Nat} {P : State → Prop} {ls : Array Slot} {st0 rest : List Value} {Q1 : kx_O → va_W → Prop}
    (hr : vx_Run p l e R s m args below meth c H locs cells slots mc ms (F0 m pc ls st0) rest (kx_Qs E Q1 a) (kx_Xs E Q1) (kx_A E.2.2.2)) (hS : va_S (kx_A E.2.2.2) s.heap H locs)
    (kk : ∀ (v : Option Value) (w1 : va_W) (H1 : Heap) (locs1 : List Loc), Q1 (.inl v) w1 → va_P E.2.1 vwCl w1 H1 → va_D (kx_A E.2.2.2) w1 → va_S (kx_A E.2.2.2) s.heap H1 locs1 → W p l e R s m args below meth c H1 locs1 (cells + mc) (slots + ms) P (F0 m (pc + 3) ls (v.toList ++ rest)))
    (kx : ∀ (X : String) (ce : Cell) (q : Addr) (w1 : va_W) (H1 : Heap) (locs1 : List Loc), Q1 (.inr X) w1 → va_P E.2.1 vwCl w1 H1 → va_D (kx_A E.2.2.2) w1 → va_S (kx_A E.2.2.2) s.heap H1 locs1 → H1[q]? = some ce → ce.vm = .none → s.vm.findClass X = some ce.cls → vx_W p l e R s m args below meth c H1 locs1 (cells + mc) (slots + ms) P (F0 m pc ls rest) q) :
    W p l e R s m args below meth c H locs cells slots P (F0 m pc ls st0) := by
  intro T hT X
  rcases hr T hT X with ⟨v, st₀, t, T', L, h0, X', hL, e1, e2, ⟨⟨v1, w1, hv, hq, hP1, hD1⟩, hF⟩, st⟩ | ⟨q, st₀, t, T', L, X1, ce, h0, X', hL, e1, e2, ⟨⟨w1, hq, hP1, hD1⟩, hF⟩, hce, hcv, hcl, st⟩
  · cases hv
    obtain ⟨k1, k2, k3⟩ := vx_keep h0 e1 hS (fun q _ h => h) (fun q h => h) hL hF
    obtain ⟨t2, a1, b1⟩ := kk v w1 T'.heap (locs ++ L) hq (by rw [e1]; exact hP1) hD1 k3 T' rfl X'
    exact ⟨t2, st t2 a1, b1⟩
  · obtain ⟨k1, k2, k3⟩ := vx_keep h0 e1 hS (fun q _ h => h) (fun q h => h) hL hF
    obtain ⟨t2, a1, b1⟩ := kx X1 ce q w1 T'.heap (locs ++ L) hq (by rw [e1]; exact hP1) hD1 k3 (by rw [e1]; exact hce) hcv hcl T' rfl X'
    exact ⟨t2, st.trans a1, b1⟩
/-- a call by a name, of a method without a table of its own: n arguments -/
def kx_LV (own : String) (idx n : Nat) (Y1 : kx_Y) : Prop := Y1.2.2.2.2.2.2.2.2 = [] ∧ kx_hd Y1 ∈ kx_WS ∧ Cond.methodLink own idx Y1.2.2.2.2.1 ∈ kx_WS ∧ Cond.instanceMethod Y1.2.2.2.2.1 ∈ kx_WS ∧ Cond.selects Y1.2.2.2.2.1.cls Y1.2.2.2.2.1 Y1.2.2.2.2.1 ∈ kx_WS ∧ Cond.initialized Y1.2.2.2.2.1.cls ∈ kx_WS ∧ Y1.2.2.2.2.1.cls = Y1.2.2.1 ∧
  Y1.2.2.2.2.1.cls ≠ "java/lang/invoke/MethodHandle" ∧ Y1.2.2.2.2.1.cls ≠ "java/lang/invoke/VarHandle" ∧ (parseMethodDescriptor Y1.2.2.2.2.1.desc).map (fun d => d.parameters.length) = some n
def kx_LS (own : String) (idx n : Nat) (Y1 : kx_Y) : Prop := Y1.2.2.2.2.2.2.2.2 = [] ∧ kx_hd Y1 ∈ kx_WS ∧ Cond.methodLink own idx Y1.2.2.2.2.1 ∈ kx_WS ∧ Cond.static Y1.2.2.2.2.1 ∈ kx_WS ∧ Cond.initialized Y1.2.2.2.2.1.cls ∈ kx_WS ∧
  Y1.2.2.2.2.1.cls ≠ "java/lang/invoke/MethodHandle" ∧ Y1.2.2.2.2.1.cls ≠ "java/lang/invoke/VarHandle" ∧ (parseMethodDescriptor Y1.2.2.2.2.1.desc).map (fun d => d.parameters.length) = some n
def kx_LI (own : String) (idx n : Nat) (Y1 : kx_Y) : Prop := Y1.2.2.2.2.2.2.2.2 = [] ∧ Y1.2.2.2.1 = none ∧ Y1.2.2.2.2.1.name = "<init>" ∧ kx_hd Y1 ∈ kx_WS ∧ Cond.methodLink own idx Y1.2.2.2.2.1 ∈ kx_WS ∧ Cond.instanceMethod Y1.2.2.2.2.1 ∈ kx_WS ∧ Cond.initialized Y1.2.2.2.2.1.cls ∈ kx_WS ∧
  Y1.2.2.2.2.1.cls ≠ "java/lang/invoke/MethodHandle" ∧ Y1.2.2.2.2.1.cls ≠ "java/lang/invoke/VarHandle" ∧ (parseMethodDescriptor Y1.2.2.2.2.1.desc).map (fun d => d.parameters.length) = some n
theorem kx_pre {as : List Value} {s U : State} {H : Heap} {locs : List Loc} (hU : U.heap = H) (hW : s.WarmedH U.vm) (hP : va_P E.2.1 vwCl w H) (hD : va_D (kx_A E.2.2.2) w) (hK : va_K E.2.1 vwCl E.2.2.1 s) (hb : E.2.2.2 ≤ s.heap.size) (hEx : kx_Ex E s) (hty : kx_ty E) (hS : va_S (kx_A E.2.2.2) s.heap H locs) : va_Pc as (kx_Wd E w) as.toArray U :=
  ⟨rfl, by rw [hU]; exact hP, hD, va_K.moved hW.alike hK, by rw [hU]; exact Nat.le_trans hb hS.1, kx_Ex.go hW (fun a h1 h2 => by rw [hU]; exact hS.2.1 a h1 h2) hEx, hty⟩
theorem kx_room {Y1 : kx_Y} (h1 : Y1.2.2.2.2.2.2.2.1 + 1 ≤ Y.2.2.2.2.2.2.2.1) (h2 : Y1.2.1 ≤ 11) : (kx_rm Y1).frames + 1 ≤ (kx_rm Y).frames ∧ 8 + (Y1.2.1 + 11) + (kx_rm Y1).locals ≤ (kx_rm Y).locals := by
  constructor
  · show 1 + _ + 1 ≤ 1 + _
    omega
  · show 8 + (_ + 11) + (100 + 30 * _) ≤ 100 + 30 * _
    omega
theorem kx_hdc {Y1 : kx_Y} (h : Y1.2.2.2.2.2.2.2.2 = []) : kx_hd Y1 = Cond.code Y1.2.2.2.2.1 Y1.1 Y1.2.1 Y1.2.2.2.1 := by unfold kx_hd; rw [h]
theorem kx_callV {Y1 : kx_Y} {as rest : List Value} {idx n ci x a : Nat} {fs : List Value} {Q1 : kx_O → va_W → Prop} {r : vw_C} (hd : decode Y.1 pc = .ok (.invokevirtual idx, 3)) (hl9 : kx_LV Y.2.2.1 idx n Y1) (hn : as.length = n) (hw : w[x]? = some (a, .inr (ci, fs))) (hci : vwCl[ci]? = some r) (hr9 : r.1 = Y1.2.2.1)
    (hlv : Y1.2.2.2.2.2.2.2.1 + 1 ≤ Y.2.2.2.2.2.2.2.1) (hnl : Y1.2.1 ≤ 11) (hr : (rest.map fun v => v.category).sum ≤ 8) (h1 : kc + Y1.2.2.2.2.2.1 ≤ Y.2.2.2.2.2.1) (h2 : ks + Y1.2.2.2.2.2.2.1 ≤ Y.2.2.2.2.2.2.1) (hst : st = as.reverse ++ .ref a :: rest)
    (hM : kx_S E Y1 (.ref a :: as) w Q1) (kx : ∀ X w1, Q1 (.inr X) w1 → Y.2.2.2.2.2.2.2.2 = [] ∧ Q (.inr X) w1)
    (kk : ∀ v w1, Q1 (.inl v) w1 → kx_R E Y z (pc + 3) L (v.toList ++ rest) w1 (kc + Y1.2.2.2.2.2.1) (ks + Y1.2.2.2.2.2.2.1) Q) : kx_R E Y z pc L st w kc ks Q := by
  subst hst
  obtain ⟨p, l, e, R, s, m, args, below, meth, c⟩ := z
  intro hC H ls locs hl hP hD hS
  have hCC := hC
  obtain ⟨hx, hb, hml, hown, hts, hK, hbs, hlk, hret, hnm, htab, hR, hl0, hEx, hty⟩ := hC
  obtain ⟨g1, g2, g3, g4, g5, g6, g7, g8, g9, g10⟩ := hl9
  dsimp only at hx hb hml hown hts hK hbs hlk hret hnm htab hR hl0 hEx hS ⊢
  subst hR; subst hl0
  have hG : GoodIn kx_WS (wsV Y.2.2.1 idx Y1.2.2.2.2.1.cls Y1.2.2.2.2.1 (kx_ws Y1)) := by
    intro c hc
    unfold wsV at hc
    rcases List.mem_append.mp hc with hc | hc
    · simp only [List.mem_cons, List.not_mem_nil, or_false] at hc
      rcases hc with rfl | rfl | rfl | rfl
      · exact kx_good g3
      · exact kx_good g4
      · exact kx_good g5
      · exact kx_good g6
    · rcases List.mem_cons.mp hc with rfl | hc
      · exact kx_good g2
      · exact kx_good hc
  have hwc : kx_ws Y1 = Cond.code Y1.2.2.2.2.1 Y1.1 Y1.2.1 Y1.2.2.2.1 :: kx_WS := by unfold kx_ws; rw [kx_hdc g1]
  refine kx_run (vx_runV (As := as) (rest := rest) (n := n) (C := Y1.2.2.2.2.1.cls) ⟨hx, hb, hml, hown, hts⟩ hM (cwV n hts hG hwc rfl rfl ⟨rfl, g8, g9, g10⟩ (kx_room hlv hnl)) ⟨kx_blind, ?_, fun U hU hW => kx_pre hU hW hP hD hK hbs hEx hty hS⟩ rfl hn hl.1 rfl (by show 2 * 0 + _ ≤ 8; omega) hd ⟨h1, h2⟩) hS ?_ ?_
  · obtain ⟨cell, q1, q2, q3⟩ := va_recv hK hP hci hw
    exact ⟨cell, q1, q2, by rw [g7, ← hr9]; exact q3⟩
  · intro v w1 H1 locs1 hq hP1 hD1 hS1
    exact kk v w1 hq hCC H1 ls locs1 hl hP1 hD1 hS1
  · intro X ce q w1 H1 locs1 hq hP1 hD1 hS1 hce hcv hcl
    obtain ⟨e1, e2⟩ := kx X w1 hq
    refine vx_out (fun x hx => ?_) hlk hce hcv hcl (fun t ht ha => ⟨⟨w1, e2, by rw [ht]; exact hP1, hD1⟩, hS1.F ht⟩) hS1.2.2 h1 h2
    rw [htab, e1] at hx
    cases hx
theorem kx_callS {Y1 : kx_Y} {as rest : List Value} {idx n : Nat} {Q1 : kx_O → va_W → Prop} (hd : decode Y.1 pc = .ok (.invokestatic idx, 3)) (hl9 : kx_LS Y.2.2.1 idx n Y1) (hn : as.length = n)
    (hlv : Y1.2.2.2.2.2.2.2.1 + 1 ≤ Y.2.2.2.2.2.2.2.1) (hnl : Y1.2.1 ≤ 11) (hr : (rest.map fun v => v.category).sum ≤ 8) (h1 : kc + Y1.2.2.2.2.2.1 ≤ Y.2.2.2.2.2.1) (h2 : ks + Y1.2.2.2.2.2.2.1 ≤ Y.2.2.2.2.2.2.1) (hst : st = as.reverse ++ rest)
    (hM : kx_S E Y1 as w Q1) (kx : ∀ X w1, Q1 (.inr X) w1 → Y.2.2.2.2.2.2.2.2 = [] ∧ Q (.inr X) w1)
    (kk : ∀ v w1, Q1 (.inl v) w1 → kx_R E Y z (pc + 3) L (v.toList ++ rest) w1 (kc + Y1.2.2.2.2.2.1) (ks + Y1.2.2.2.2.2.2.1) Q) : kx_R E Y z pc L st w kc ks Q := by
  subst hst
  obtain ⟨p, l, e, R, s, m, args, below, meth, c⟩ := z
  intro hC H ls locs hl hP hD hS
  have hCC := hC
  obtain ⟨hx, hb, hml, hown, hts, hK, hbs, hlk, hret, hnm, htab, hR, hl0, hEx, hty⟩ := hC
  obtain ⟨g1, g2, g3, g4, g6, g8, g9, g10⟩ := hl9
  dsimp only at hx hb hml hown hts hK hbs hlk hret hnm htab hR hl0 hEx hS ⊢
  subst hR; subst hl0
  have hG : GoodIn kx_WS (va_wsS Y.2.2.1 idx Y1.2.2.2.2.1 (kx_ws Y1)) := by
    intro c hc
    unfold va_wsS at hc
    rcases List.mem_append.mp hc with hc | hc
    · simp only [List.mem_cons, List.not_mem_nil, or_false] at hc
      rcases hc with rfl | rfl | rfl
      · exact kx_good g3
      · exact kx_good g4
      · exact kx_good g6
    · rcases List.mem_cons.mp hc with rfl | hc
      · exact kx_good g2
      · exact kx_good hc
  have hwc : kx_ws Y1 = Cond.code Y1.2.2.2.2.1 Y1.1 Y1.2.1 Y1.2.2.2.1 :: kx_WS := by unfold kx_ws; rw [kx_hdc g1]
  refine kx_run (vx_runS (As := as) (rest := rest) (n := n) ⟨hx, hb, hml, hown, hts⟩ hM (va_cwS n hts hG hwc rfl rfl ⟨g8, g9, g10⟩ (kx_room hlv hnl)) ⟨kx_blind, fun U hU hW => kx_pre hU hW hP hD hK hbs hEx hty hS⟩ rfl hn hl.1 rfl (by show 2 * 0 + _ ≤ 8; omega) hd ⟨h1, h2⟩) hS ?_ ?_
  · intro v w1 H1 locs1 hq hP1 hD1 hS1
    exact kk v w1 hq hCC H1 ls locs1 hl hP1 hD1 hS1
  · intro X ce q w1 H1 locs1 hq hP1 hD1 hS1 hce hcv hcl
    obtain ⟨e1, e2⟩ := kx X w1 hq
    refine vx_out (fun x hx => ?_) hlk hce hcv hcl (fun t ht ha => ⟨⟨w1, e2, by rw [ht]; exact hP1, hD1⟩, hS1.F ht⟩) hS1.2.2 h1 h2
    rw [htab, e1] at hx
    cases hx
theorem kx_met {as : List Value} (hM : kx_S E Y as w Q) (hno : ∀ X w1, ¬ Q (.inr X) w1) : Met E.1 Y.2.2.2.2.1 (kx_ws Y) (kx_rm Y) (va_Pc as (kx_Wd E w)) (kx_Qs E Q) Y.2.2.2.2.2.1 Y.2.2.2.2.2.2.1 (kx_A E.2.2.2) := by
  intro p e ha hc hk s m args below hf happ hP hK
  obtain ⟨n, o, h1, h2, h3, h4⟩ := hM p e ha hc hk s m args below hf happ hP hK
  refine ⟨n, o, h1, h2, h3, ?_⟩
  rcases h4 with h | ⟨q, -, X, ce, L, ⟨⟨w1, hq, -⟩, -⟩, -⟩
  · exact h
  · exact absurd hq (hno X w1)
theorem kx_vr {p : Program} {l : Launch} {e : Env} {R : Room} {s : State} {m : MethodId} {args : Array Value} {below : List Frame} {meth : Method} {c : Code} {H : Heap} {locs : List Loc} {cells slots mc ms : Nat} {g : JFrame} {rest : List Value} {Qa : State → Outcome → State → Prop} {XC : String → State → State → Prop} {free : Addr → Prop}
    (h : va_Run p l e R s m args below meth c H locs cells slots mc ms g rest Qa free) : vx_Run p l e R s m args below meth c H locs cells slots mc ms g rest Qa XC free := fun T hT X => Or.inl (h T hT X)
theorem kx_callI {Y1 : kx_Y} {as rest : List Value} {idx n a : Nat} {Q1 : kx_O → va_W → Prop} (hd : decode Y.1 pc = .ok (.invokespecial idx, 3)) (hl9 : kx_LI Y.2.2.1 idx n Y1) (hn : as.length = n)
    (hlv : Y1.2.2.2.2.2.2.2.1 + 1 ≤ Y.2.2.2.2.2.2.2.1) (hnl : Y1.2.1 ≤ 11) (hr : (rest.map fun v => v.category).sum ≤ 8) (h1 : kc + Y1.2.2.2.2.2.1 ≤ Y.2.2.2.2.2.1) (h2 : ks + Y1.2.2.2.2.2.2.1 ≤ Y.2.2.2.2.2.2.1) (hst : st = as.reverse ++ .ref a :: rest)
    (hM : kx_S E Y1 (.ref a :: as) w Q1) (hno : ∀ X w1, ¬ Q1 (.inr X) w1)
    (kk : ∀ v w1, Q1 (.inl v) w1 → kx_R E Y z (pc + 3) L (v.toList ++ rest) w1 (kc + Y1.2.2.2.2.2.1) (ks + Y1.2.2.2.2.2.2.1) Q) : kx_R E Y z pc L st w kc ks Q := by
  subst hst
  obtain ⟨p, l, e, R, s, m, args, below, meth, c⟩ := z
  intro hC H ls locs hl hP hD hS
  have hCC := hC
  obtain ⟨hx, hb, hml, hown, hts, hK, hbs, hlk, hret, hnm, htab, hR, hl0, hEx, hty⟩ := hC
  obtain ⟨g1, gr, gn, g2, g3, g4, g6, g8, g9, g10⟩ := hl9
  dsimp only at hx hb hml hown hts hK hbs hlk hret hnm htab hR hl0 hEx hS ⊢
  subst hR; subst hl0
  have hG : GoodIn kx_WS (kx_ws Y1) := by
    intro c hc
    rcases List.mem_cons.mp hc with rfl | hc
    · exact kx_good g2
    · exact kx_good hc
  have hwc : kx_ws Y1 = Cond.code Y1.2.2.2.2.1 Y1.1 Y1.2.1 none :: kx_WS := by unfold kx_ws; rw [kx_hdc g1, gr]
  refine kx_run (kx_vr (va_runI (As := as) (rest := rest) (n := n) ⟨hx, hb, hml, hown, hts⟩ (kx_met hM hno) (cwI n hts hG hwc rfl rfl (hts _ g6) (hts _ g3) (hts _ g4) gn ⟨g8, g9, g10⟩ (kx_room hlv hnl)) ⟨kx_blind, fun U hU hW => kx_pre hU hW hP hD hK hbs hEx hty hS⟩ rfl hn hl.1 rfl (by show 2 * 0 + _ ≤ 8; omega) hd ⟨h1, h2⟩)) hS ?_ ?_
  · intro v w1 H1 locs1 hq hP1 hD1 hS1
    exact kk v w1 hq hCC H1 ls locs1 hl hP1 hD1 hS1
  · intro X ce q w1 H1 locs1 hq
    exact absurd hq (hno X w1)
end KXC
end
section
section KXT
variable {E : kx_E} {Y : kx_Y} {z : kx_Z} {pc : Nat} {L : kx_L} {st : List Value} {w : va_W} {kc ks : Nat} {Q : kx_O → va_W → Prop}
abbrev kx_up : List String := ["java/lang/RuntimeException", "java/lang/Exception"]
def kx_bad : List Cond := kx_dcs.map Cond.declares ++ kx_cas.map (fun x => Cond.castable x x)
theorem kx_badOk {args : Array Value} {s : State} (h4 : ∀ x ∈ kx_dcs, va_Nw (.declares x) s) (h9 : ∀ x ∈ kx_cas, va_Nw (.castable x x) s) : ∀ c ∈ kx_bad, c.before args s = true := by
  intro c hc
  rcases List.mem_append.mp hc with hc | hc
  · obtain ⟨x, hx9, rfl⟩ := List.mem_map.mp hc
    exact va_Nw.use rfl (h4 x hx9)
  · obtain ⟨x, hx9, rfl⟩ := List.mem_map.mp hc
    exact va_Nw.use rfl (h9 x hx9)
/-- 'throw new cls(text)' by the pool of own -/
def kx_TH (own : String) (ik is ic : Nat) (cls text : String) : Prop := Bundle.fit cls = true ∧ Cond.classLink own ik cls ∈ kx_WS ∧ Cond.initialized cls ∈ kx_WS ∧ (own, is, text) ∈ kx_strs ∧
  (∀ c ∈ (vx_atS own ic cls kx_up).filter goodWord, c ∈ lw_tbl) ∧ (∀ c ∈ (vx_atS own ic cls kx_up).filter (fun c => !goodWord c), c ∈ kx_bad) ∧ (∀ c ∈ vx_atS own ic cls kx_up, vx_ot c = true)
theorem kx_upfit : ∀ n ∈ kx_up, Bundle.fit n = true := by decide +kernel
theorem kx_throw {cls text : String} {ik is ic : Nat} (d0 : decode Y.1 pc = .ok (.new ik, 3)) (d3 : decode Y.1 (pc + 3) = .ok (.dup, 1)) (d4 : decode Y.1 (pc + 4) = .ok (.ldc is, 2)) (d6 : decode Y.1 (pc + 6) = .ok (.invokespecial ic, 3)) (d9 : decode Y.1 (pc + 9) = .ok (.athrow, 1))
    (ht : kx_TH Y.2.2.1 ik is ic cls text) (hh : Y.2.2.2.2.2.2.2.2 = []) (hdl : 5 ≤ Y.2.2.2.2.2.2.2.1) (hst : (st.map fun v => v.category).sum ≤ 60) (h1 : kc + 1 ≤ Y.2.2.2.2.2.1) (h2 : ks + 6 ≤ Y.2.2.2.2.2.2.1) (hQ : Q (.inr cls) w) : kx_R E Y z pc L st w kc ks Q := by
  obtain ⟨p, l, e, R, s, m, args, below, meth, c⟩ := z
  intro hC H ls locs hl hP hD hS
  obtain ⟨hx, hb, hml, hown, hts, hK, hbs, hlk, hret, hnm, htab, hR, hl0, hEx, hty⟩ := hC
  dsimp only at hx hb hml hown hts hK hbs hlk hret hnm htab hR hl0 hEx hS ⊢
  subst hR; subst hl0
  obtain ⟨g1, g2, g3, g4, g5, g6, g7⟩ := ht
  obtain ⟨e1, e2, e3, e4, -, -, -, e8, e9⟩ := hEx
  obtain ⟨sa, hsa⟩ := e3 _ g4
  have hat : ∀ c ∈ vx_atS Y.2.2.1 ic cls kx_up, c.before args s = true := vx_hat (B := kx_bad) (fun c hc => hts c (List.mem_filter.mpr ⟨g5 c hc, (List.mem_filter.mp hc).2⟩)) g6 (kx_badOk e4 e9)
  refine vx_throwS (A := kx_A E.2.2.2) hx hb e8 hown g1 kx_upfit (hts _ g2) (hts _ g3) hsa hat (fun c hc => ?_) e1 e2 hS (hl.1.trans hml.symm) d0 d3 d4 d6 d9 (fun x hx9 => ?_) ?_ ?_ h1 h2 hlk (fun t ha hz hk => ?_) hS.2.2 h1 h2
  · rcases List.mem_cons.mp hc with rfl | hc
    · unfold vx_ot; rw [(List.mem_filter.mp g2).2]; simp
    · rcases List.mem_cons.mp hc with rfl | hc
      · unfold vx_ot; rw [(List.mem_filter.mp g3).2]; simp
      · exact g7 c hc
  · rw [htab, hh] at hx9
    cases hx9
  · show 2 + 3 < 1 + _
    omega
  · show _ + (13 * (2 + 1) + 43) ≤ 100 + 30 * _
    omega
  · refine ⟨⟨w, hQ, hP.kept (fun k q hq => hk q.1 (hP k q hq).lt), hD⟩, Nat.le_trans hS.1 hz, fun q h3 h4 => ?_⟩
    rw [hk q (Nat.lt_of_lt_of_le h3 hS.1)]
    exact hS.2.1 q h3 h4
/-- System.arraycopy of ints, between two arrays of the world -/
def kx_CP (own : String) (idx : Nat) : Prop := Cond.methodLink own idx arraycopyName ∈ kx_WS ∧ Cond.native arraycopyName ∈ kx_WS ∧ Cond.static arraycopyName ∈ kx_WS ∧ Cond.initialized "java/lang/System" ∈ kx_WS
theorem kx_copy {idx x y a b n0 n1 sp dp n : Nat} {f g : Nat → Int32} (hd : decode Y.1 pc = .ok (.invokestatic idx, 3)) (hc : kx_CP Y.2.2.1 idx) (ha : w[x]? = some (a, kx_ai E n0 f)) (hb9 : w[y]? = some (b, kx_ai E n1 g)) (h0 : n0 < 2 ^ 31) (h1 : n1 < 2 ^ 31) (hs : sp + n ≤ n0) (ht : dp + n ≤ n1) (hst : (st.map fun v => v.category).sum ≤ 8) (hdl : 1 ≤ Y.2.2.2.2.2.2.2.1)
    (kk : kx_R E Y z (pc + 3) L st (w.set y (b, kx_ai E n1 (va_cpy f g sp dp n))) kc ks Q) : kx_R E Y z pc L (.int (nI n) :: .int (nI dp) :: .ref b :: .int (nI sp) :: .ref a :: st) w kc ks Q := by
  intro hC H ls locs hl hP hD hS
  obtain ⟨c1, c2, c3, c4⟩ := hc
  have hty := kx_tyAt (t := 0) (ty := .int) hC.2.2.2.2.2.2.2.2.2.2.2.2.2.2 rfl
  have hR := hC.2.2.2.2.2.2.2.2.2.2.2.1
  have en : (nI n).toNatClampNeg = n := nI_clamp (by omega)
  have es : (nI sp).toNatClampNeg = sp := nI_clamp (by omega)
  have ed : (nI dp).toNatClampNeg = dp := nI_clamp (by omega)
  refine va_copyi hC.1 hC.2.1 (hC.2.2.1.trans hl.1.symm) hC.2.2.2.1 (hC.2.2.2.2.1 _ c1) (hC.2.2.2.2.1 _ c2) (hC.2.2.2.2.1 _ c3) (hC.2.2.2.2.1 _ c4) hC.2.2.2.2.2.1 hP hD hS x y 0 0 ha hb9 hty hty rfl (nI_pos (by omega)) (nI_pos (by omega)) (nI_pos (by omega)) (by rw [es, en]; exact hs) (by rw [ed, en]; exact ht) (fun i _ => rfl) ?_ ?_ hd (fun H1 locs1 hP1 hD1 hS1 => ?_)
  · rw [hR]; show 1 ≤ 1 + _; omega
  · rw [hR]
    have hz : nativeFrameWords "java/lang/System" "arraycopy" 5 ≤ 100 := by decide +kernel
    show _ + (_ + 11) ≤ 100 + 30 * _
    omega
  · rw [es, ed, en] at hP1 hD1
    exact kk hC H1 ls locs1 hl hP1 hD1 hS1
def kx_MN (own : String) (idx : Nat) : Prop := Cond.methodLink own idx Lib.Math.min.name ∈ kx_WS ∧ Cond.static Lib.Math.min.name ∈ kx_WS ∧ Cond.initialized "java/lang/Math" ∈ kx_WS ∧ Cond.code Lib.Math.min.name Lib.Math.min.code 2 (some .int) ∈ kx_WS
theorem kx_min {idx a b : Nat} (hd : decode Y.1 pc = .ok (.invokestatic idx, 3)) (hc : kx_MN Y.2.2.1 idx) (ha : a < 2 ^ 31) (hb9 : b < 2 ^ 31) (hst : (st.map fun v => v.category).sum ≤ 8) (hdl : 1 ≤ Y.2.2.2.2.2.2.2.1) (h1 : kc ≤ Y.2.2.2.2.2.1) (h2 : ks ≤ Y.2.2.2.2.2.2.1)
    (kk : kx_R E Y z (pc + 3) L (.int (nI (min a b)) :: st) w kc ks Q) : kx_R E Y z pc L (.int (nI b) :: .int (nI a) :: st) w kc ks Q := by
  intro hC H ls locs hl hP hD hS
  obtain ⟨c1, c2, c3, c4⟩ := hc
  have hR := hC.2.2.2.2.2.2.2.2.2.2.2.1
  refine va_mmin hC.1 hC.2.1 (hC.2.2.1.trans hl.1.symm) hC.2.2.2.1 (hC.2.2.2.2.1 _ c1) (hC.2.2.2.2.1 _ c2) (hC.2.2.2.2.1 _ c3) (hC.2.2.2.2.1 _ c4) ?_ ?_ (by rw [hR]; exact h1) (by rw [hR]; exact h2) hd ?_
  · rw [hR]; show 1 ≤ 1 + _; omega
  · rw [hR]; show _ + 13 ≤ 100 + 30 * _; omega
  · have e : (if nI b < nI a then nI b else nI a) = nI (min a b) := by
      by_cases h : b < a
      · rw [if_pos ((nI_ltI hb9 ha).mpr h), Nat.min_eq_right (by omega)]
      · rw [if_neg (fun h9 => h ((nI_ltI hb9 ha).mp h9)), Nat.min_eq_left (by omega)]
    rw [e]
    exact kk hC H ls locs hl hP hD hS
end KXT
end
section
section KXU
/-- the words of 'throw new X(text)' where X hands its text on by the entry ix of its own pool -/
def kx_ownN (own : String) (ic : Nat) (X Y : String) (ix : Nat) (bytes : ByteArray) (names : List String) : List Cond :=
  Bundle.throwableAtoms ++ Bundle.throwableSAtoms ++ Bundle.passSAtoms X Y ix bytes ++ Bundle.chainSAtoms Y names ++
  [.methodLink own ic (Bundle.initS X), .instantiable X 6, .castable X X, .selects X Bundle.tFill0 Bundle.tFill0, .selects X Bundle.tFill Bundle.tFill,
   .lays X Bundle.tN "cause" "Ljava/lang/Throwable;", .lays X Bundle.tN "stackTrace" Bundle.steD, .lays X Bundle.tN "suppressedExceptions" Bundle.listD, .lays X Bundle.tN "detailMessage" "Ljava/lang/String;",
   .isRef (.static Bundle.tN "UNASSIGNED_STACK" Bundle.steD), .isRef (.static Bundle.tN "SUPPRESSED_SENTINEL" Bundle.listD),
   .fieldLink Bundle.tN 198 Bundle.tN "backtrace" "Ljava/lang/Object;", .lays Bundle.tN Bundle.tN "backtrace" "Ljava/lang/Object;", .lays X Bundle.tN "backtrace" "Ljava/lang/Object;"]
variable {p : Program} {l : Launch} {e : Env} {R : Room} {s : State} {m₀ : MethodId} {args : Array Value} {below : List Frame} {meth : Method} {c : Code} {W : State} {locs : List Loc} {cells slots : Nat}
set_option maxHeartbeats 2000000 in
theorem kx_ctorThrow (X : Stand p l e R s m₀ args below meth c W locs cells slots) (hexec : p.tables.exec = Jvm.exec) (htr : e.platform.stackTraces = false) {own cls sup : String} {names : List String} {ic ix : Nat} {bytes : ByteArray}
    (hown : s.vm.findClass own = some m₀.cls) (hcls : Bundle.fit cls = true) (hsup : Bundle.fit sup = true) (hnames : ∀ n ∈ names, Bundle.fit n = true)
    (b0 : decode bytes 0 = .ok (.aload_n 0, 1)) (b1 : decode bytes 1 = .ok (.aload_n 1, 1)) (b2 : decode bytes 2 = .ok (.invokespecial ix, 3)) (b5 : decode bytes 5 = .ok (.return_, 1))
    (h : ∀ a ∈ kx_ownN own ic cls sup ix bytes names, a.before args s = true)
    (hlocs : ∀ x ∈ locs, ∀ cell, s.heap[x.base]? = some cell → cell.vm.isStatics = false)
    {a : Addr} {cX : ClassId} {kX : Class} (hfoundX : s.vm.findClass cls = some cX) (hkX : s.vm.classes[cX]? = some kX) (hcell : W.heap[a]? = some (freshCell cX kX)) (hnew : s.heap.size ≤ a)
    {msg : Value} (hmsg : msg.isRef = true)
    {g : JFrame} (hg : g.method = m₀) (hsize : g.locals.size = c.maxLocals) (hlocked : g.locked = none) (hentered : g.entered = []) {rest : List Value} (hstack : g.stack = msg :: .ref a :: .ref a :: rest)
    (hd6 : decode c.code g.pc = .ok (.invokespecial ic, 3)) (hd9 : decode c.code (g.pc + 3) = .ok (.athrow, 1)) (hout : ∀ x ∈ c.exceptionTable.toList, covers x (g.pc + 3) = false)
    (hRframes : names.length + 4 < R.frames) (hRlocals : 2 * g.monitorRoom + ((Value.ref a :: rest).map fun v => v.category).sum + (13 * (names.length + 2) + 42) ≤ R.locals) (hlocks : meth.locks = false) :
    ∃ U : State, Steps p.tables e below (W.setTop g) U ∧ U.status = .running ∧ Ended U below (.threw a) ∧ s.WarmedH U.vm ∧ s.sameButNew ({ U with vm := s.vm } : State) locs cells slots ∧
      ∃ ce, U.heap[a]? = some ce ∧ ce.vm = .none ∧ s.vm.findClass cls = some ce.cls := by
  have howns : e.platform.frameOwnsMonitors = true := by rw [X.admits.platform]
  have hfin : e.platform.finalization = false := by rw [X.admits.platform]
  have hpl : e.platform.magicAccessors = ({} : Platform).magicAccessors := by rw [X.admits.platform]
  have a' : ∀ x, x ∈ kx_ownN own ic cls sup ix bytes names → x.holds args s none s [] = true := fun x hx => h x hx
  obtain ⟨T, Z0, L, -, Y⟩ := ThrowableC.of_atoms (args := args) howns hfin hpl (fun x hx => h x (by simp [kx_ownN, hx]))
  obtain ⟨Z, M, LZ, LM, hnZ⟩ := Init0T.ofS_atoms (args := args) hpl L Y (fun x hx => h x (by simp [kx_ownN, hx]))
  obtain ⟨P2, Ps2, hlen2, L2, hL2, hP2m, hlink2, hlinks2⟩ := Bundle.chainS (args := args) hpl hnZ names sup hsup hnames (fun x hx => h x (by simp [kx_ownN, hx]))
  obtain ⟨P1, L1, hP1m, hP1s⟩ := PassC.ofS_atoms (args := args) (s := s) hpl (X := cls) (Y := sup) (Bundle.fit_spec hcls).1 (Bundle.fit_spec hsup).2 b0 b1 b2 b5 (fun x hx => h x (by simp [kx_ownN, hx]))
  have hlink1 : P1.sup = P2.m := Option.some.inj (hP1s.symm.trans hP2m)
  have hfound : s.vm.findClass cls = some P1.m.cls := findClass_of_methodNamed hP1m
  cases Option.some.inj (hfoundX.symm.trans hfound)
  obtain ⟨c1, kX', hc1, hk, hord, -, -, hn6⟩ := Cond.instantiable_spec (a' (.instantiable cls 6) (by simp [kx_ownN]))
  cases Option.some.inj (hc1.symm.trans hfound)
  cases Option.some.inj (hkX.symm.trans hk)
  have hsel0 : selectMethod e.platform s.vm P1.m.cls T.fill0 = .method T.fill0 := by
    obtain ⟨c2, r2, m2, q1, q2, q3, q4, -⟩ := Cond.selects_spec (a' (.selects cls Bundle.tFill0 Bundle.tFill0) (by simp [kx_ownN]))
    cases Option.some.inj (q1.symm.trans hfound)
    cases Option.some.inj (q2.symm.trans (State.methodFound?_of_named Y.fill0 (by decide)))
    cases Option.some.inj (q3.symm.trans Y.fill0)
    rw [Launch.admits_selectMethod X.admits]; exact q4
  have hselF : selectMethod e.platform s.vm P1.m.cls T.fill = .method T.fill := by
    obtain ⟨c2, r2, m2, q1, q2, q3, q4, -⟩ := Cond.selects_spec (a' (.selects cls Bundle.tFill Bundle.tFill) (by simp [kx_ownN]))
    cases Option.some.inj (q1.symm.trans hfound)
    cases Option.some.inj (q2.symm.trans (State.methodFound?_of_named Y.fill (by decide)))
    cases Option.some.inj (q3.symm.trans Y.fill)
    rw [Launch.admits_selectMethod X.admits]; exact q4
  obtain ⟨cellS0, hcS0, hiss⟩ := Y.statics
  obtain ⟨u0, hu0⟩ := Cond.staticRefV Y.unassigned L.unassignedStatic L.statics hcS0 hiss (a' (.isRef (.static Bundle.tN "UNASSIGNED_STACK" Bundle.steD)) (by simp [kx_ownN]))
  obtain ⟨sen, hsen⟩ := Cond.staticRefV Y.sentinel L.sentinelStatic L.statics hcS0 hiss (a' (.isRef (.static Bundle.tN "SUPPRESSED_SENTINEL" Bundle.listD)) (by simp [kx_ownN]))
  obtain ⟨ci198, i198, fB, hk198, hg198, ha198, hsB, -, hnB, htB, hffB⟩ := Cond.ownField (t := .object "java/lang/Object") Y.found L.cls (by decide +kernel) (a' (.fieldLink Bundle.tN 198 Bundle.tN "backtrace" "Ljava/lang/Object;") (by simp [kx_ownN])) (a' (.lays Bundle.tN Bundle.tN "backtrace" "Ljava/lang/Object;") (by simp [kx_ownN])) e.platform hpl
  obtain ⟨cellS, hcS', heS, -, hkeep⟩ := X.same.2.2.2.2.2 T.aS cellS0 hcS0
  have hcellS : W.heap[T.aS]? = some cellS := hcS'
  have hout' : ∀ i, (⟨T.aS, i⟩ : Loc) ∉ locs := fun i hmem => by
    have := hlocs _ hmem cellS0 hcS0
    rw [hiss] at this; cases this
  have hknownS : cellS.vm ≠ .unknown := by
    rw [heS]; intro hu
    rw [show cellS0.vm = .unknown from hu] at hiss
    cases hiss
  have hneS : T.aS ≠ a := Nat.ne_of_lt (Nat.lt_of_lt_of_le (Array.getElem?_eq_some_iff.mp hcS0).1 hnew)
  obtain ⟨iM, hffM⟩ := Y.msg
  obtain ⟨tyC, dC, hdC, hdnC⟩ := Cond.laysAt hfound hk Y.cause (a' (.lays cls Bundle.tN "cause" "Ljava/lang/Throwable;") (by simp [kx_ownN]))
  obtain ⟨tyS, dS, hdS, hdnS⟩ := Cond.laysAt hfound hk Y.stack (a' (.lays cls Bundle.tN "stackTrace" Bundle.steD) (by simp [kx_ownN]))
  obtain ⟨tyP, dP, hdP, hdnP⟩ := Cond.laysAt hfound hk Y.supp (a' (.lays cls Bundle.tN "suppressedExceptions" Bundle.listD) (by simp [kx_ownN]))
  obtain ⟨tyM, dM, hdM, hdnM⟩ := Cond.laysAt hfound hk hffM (a' (.lays cls Bundle.tN "detailMessage" "Ljava/lang/String;") (by simp [kx_ownN]))
  obtain ⟨tyB, dB, hdB, hdnB⟩ := Cond.laysAt hfound hk hffB (a' (.lays cls Bundle.tN "backtrace" "Ljava/lang/Object;") (by simp [kx_ownN]))
  have bC := Cond.laysApart hdB hdC hdnB hdnC (by rw [hnB, Y.causeName]; decide)
  have bS := Cond.laysApart hdB hdS hdnB hdnS (by rw [hnB, Y.stackName]; decide)
  have bP := Cond.laysApart hdB hdP hdnB hdnP (by rw [hnB, Y.suppName]; decide)
  have hskip : SkipFacts T e.platform s (fun u => u) u0 ((preparedCellV T.toThrowableT (freshCell P1.m.cls kX) a u0 sen).withEntry W.cur) :=
    ⟨{ ci198 := ci198, i198 := i198, fBack := fB }, ⟨hk198, hg198, ha198, hsB⟩, by
      have := fresh_default (c := P1.m.cls) tyB
      rw [htB] at this
      simpa [preparedCellV, Cell.setSlot, Cell.withEntry, Array.getElem?_setIfInBounds, bC, bS, bP, bC.symm, bS.symm, bP.symm, defaultValue] using this, fun _ _ => rfl⟩
  obtain ⟨tm, methC, cdC, kC, vm₁, hnC, -, -, -, -, -, -, -, hW₁, st1⟩ := Steps.initColdS (tb := p.tables) (e := e) (below := below) (s := s) (U := W) X.here hexec X.warmed hpl hown (t := Bundle.initS cls) rfl rfl (Bundle.fit_spec hcls).2
    (a' (.methodLink own ic (Bundle.initS cls)) (by simp [kx_ownN])) (h (.instanceMethod (Bundle.initS cls)) (by simp [kx_ownN, Bundle.passSAtoms])) (bytes := bytes) (maxL := 2) (h (.code (Bundle.initS cls) bytes 2 none) (by simp [kx_ownN, Bundle.passSAtoms]))
    (f := g) hg (a := a) (msg := msg) (rest := .ref a :: rest) hstack hd6
  cases Option.some.inj (hnC.symm.trans hP1m)
  have X₁ := X.noted hW₁
  obtain ⟨vm₂, X₂, st2⟩ := X₁.ctorMessageOffV hexec (g := { g with stack := .ref a :: rest }) hg hsize T L Z LZ M LM (P1 :: P2 :: Ps2)
    (fun P hP => by
      rcases List.mem_cons.mp hP with rfl | hP
      · exact L1
      · rcases List.mem_cons.mp hP with rfl | hP
        · exact L2
        · exact hL2 P hP) ⟨hlink1, hlink2, hlinks2⟩ (u0 := u0) (sen := sen) (self := a) hmsg (cell := freshCell P1.m.cls kX) (cellS := cellS)
    hcell (fun _ => by simp) (by simp) rfl rfl hsel0 hselF hcellS hneS hknownS (by rw [hkeep _ (hout' _)]; exact hu0) (by rw [hkeep _ (hout' _)]; exact hsen)
    (Takes.of_laid hk hord tyC (by rw [Y.causeType]; rfl)) (Takes.of_laid hk hord tyS (by rw [Y.stackType]; exact fits_refV_array _ u0)) (Takes.of_laid hk hord tyP (by rw [Y.suppType]; exact fits_refV_object _ sen))
    (Takes.of_laid hk hord tyM (by rw [Y.msgType]; exact fits_refV_object _ ⟨msg, hmsg⟩)) Y.objLocals hskip htr [] hd6
    (by simp only [List.length_cons, hlen2]; omega) (by simp only [List.length_cons, hlen2]; exact hRlocals)
  obtain ⟨hwalk, hrun, hended, hWU, hsame⟩ := X₂.athrowLeaves hexec (g := { g with stack := .ref a :: rest, pc := g.pc + 3 }) hg hlocked hentered hout (a := a) (rest := rest) rfl hd9 hlocks
  have hlt : a < ((W.setVm vm₁).setVm vm₂).heap.size := (Array.getElem?_eq_some_iff.mp hcell).1
  have hU := heapAt_setCell_self (s := (W.setVm vm₁).setVm vm₂) (plainBareV T.toThrowableT (freshCell P1.m.cls kX) a u0 sen msg) hlt
  refine ⟨_, st1 _ (fun acts => ?_), hrun, hended, hWU, hsame.weaken (fun y hy hlt' => ?_) (Nat.le_refl _) (Nat.le_refl _), _, hU, rfl, hfound⟩
  · rw [doInvoke_state]
    exact st2 _ hwalk
  · rcases List.mem_append.mp hy with h1 | h1
    · exact h1
    · exfalso
      have hb : y.base = a := by
        simp only [List.mem_cons, List.not_mem_nil, or_false] at h1
        rcases h1 with rfl | rfl | rfl | rfl | rfl <;> rfl
      rw [hb] at hlt'
      exact Nat.not_lt.mpr hnew hlt'
end KXU
end
section
section KXV
abbrev kx_nse : String := "java/util/NoSuchElementException"
abbrev kx_rte : String := "java/lang/RuntimeException"
abbrev kx_bN : ByteArray := prog_17_method_4_code
def kx_atN (own : String) (ic : Nat) : List Cond := (kx_ownN own ic kx_nse kx_rte 13 kx_bN ["java/lang/Exception"]).filter vx_no
def kx_TN (own : String) (ik is ic : Nat) (text : String) : Prop := Cond.classLink own ik kx_nse ∈ kx_WS ∧ Cond.initialized kx_nse ∈ kx_WS ∧ (own, is, text) ∈ kx_strs ∧
  (∀ c ∈ (kx_atN own ic).filter goodWord, c ∈ lw_tbl) ∧ (∀ c ∈ (kx_atN own ic).filter (fun c => !goodWord c), c ∈ kx_bad) ∧ (∀ c ∈ kx_atN own ic, vx_ot c = true)
variable {E : kx_E} {Y : kx_Y} {z : kx_Z} {pc : Nat} {L : kx_L} {st : List Value} {w : va_W} {kc ks : Nat} {Q : kx_O → va_W → Prop}
theorem kx_throwN {text : String} {ik is ic : Nat} (d0 : decode Y.1 pc = .ok (.new ik, 3)) (d3 : decode Y.1 (pc + 3) = .ok (.dup, 1)) (d4 : decode Y.1 (pc + 4) = .ok (.ldc is, 2)) (d6 : decode Y.1 (pc + 6) = .ok (.invokespecial ic, 3)) (d9 : decode Y.1 (pc + 9) = .ok (.athrow, 1))
    (ht : kx_TN Y.2.2.1 ik is ic text) (hh : Y.2.2.2.2.2.2.2.2 = []) (hdl : 5 ≤ Y.2.2.2.2.2.2.2.1) (hst : (st.map fun v => v.category).sum ≤ 60) (h1 : kc + 1 ≤ Y.2.2.2.2.2.1) (h2 : ks + 6 ≤ Y.2.2.2.2.2.2.1) (hQ : Q (.inr kx_nse) w) : kx_R E Y z pc L st w kc ks Q := by
  obtain ⟨p, l, e, R, s, m, args, below, meth, c⟩ := z
  intro hC H ls locs hl hP hD hS
  obtain ⟨hexec, hb, hml, hown, hts, hK, hbs, hlk, hret, hnm, htab, hR, hl0, hEx, hty⟩ := hC
  dsimp only at hexec hb hml hown hts hK hbs hlk hret hnm htab hR hl0 hEx hS ⊢
  subst hR; subst hl0
  obtain ⟨g2, g3, g4, g5, g6, g7⟩ := ht
  obtain ⟨e1, e2, e3, e4, -, -, -, e8, e9⟩ := hEx
  obtain ⟨sa, hsa⟩ := e3 _ g4
  have hat : ∀ c ∈ kx_atN Y.2.2.1 ic, c.before args s = true := vx_hat (B := kx_bad) (fun c hc => hts c (List.mem_filter.mpr ⟨g5 c hc, (List.mem_filter.mp hc).2⟩)) g6 (kx_badOk e4 e9)
  have hsize : ls.size = c.maxLocals := hl.1.trans hml.symm
  have hout : ∀ x ∈ c.exceptionTable.toList, covers x (pc + 9) = false := fun x hx9 => by
    rw [htab, hh] at hx9
    cases hx9
  intro T hT X
  have htr : e.platform.stackTraces = false := (show e.platform.stackTraces = E.1.stackTraces by rw [X.admits.platform]).trans e8
  have hcells : kc + 1 ≤ (kx_rm Y).cells := h1
  have hslots : ks + 6 ≤ (kx_rm Y).slots := h2
  have V := vx_rebase X (R' := { frames := (kx_rm Y).frames, locals := (kx_rm Y).locals, cells := 1, slots := 6 }) (Nat.le_refl _) (Nat.le_refl _) hcells hslots
  obtain ⟨s', hA⟩ : ∃ z, z = (T.setVm s.vm).setFrames (.invoking m args :: below) := ⟨_, rfl⟩
  rw [← hA] at V
  have hvm : s'.vm = s.vm := by rw [hA]; rfl
  have hhp : s'.heap = H := by rw [hA]; exact hT
  have hW0 : s.WarmedH s'.vm := by rw [hvm]; exact State.WarmedH.refl s
  have hat' : ∀ c ∈ kx_atN Y.2.2.1 ic, c.before args s' = true := fun c hc => vx_ot_at hW0 hvm.symm (g7 c hc) (hat c hc)
  have hot : ∀ {c : Cond}, c ∈ kx_WS → vx_ot c = true := fun {c} hc => by unfold vx_ot; rw [(List.mem_filter.mp hc).2]; simp
  have hk' : (Cond.classLink Y.2.2.1 ik kx_nse).before args s' = true := vx_ot_at hW0 hvm.symm (hot g2) (hts _ g2)
  have hini' : (Cond.initialized kx_nse).before args s' = true := vx_ot_at hW0 hvm.symm (hot g3) (hts _ g3)
  have hU' : vx_Zq Bundle.tN "UNASSIGNED_STACK" Bundle.steD (kx_A E.2.2.2) s' s'.heap := by rw [hhp]; exact vx_Zq.moved hW0.alike (e1.kept hS.2.1)
  have hN' : vx_Zq Bundle.tN "SUPPRESSED_SENTINEL" Bundle.listD (kx_A E.2.2.2) s' s'.heap := by rw [hhp]; exact vx_Zq.moved hW0.alike (e2.kept hS.2.1)
  have h : ∀ c ∈ kx_ownN Y.2.2.1 ic kx_nse kx_rte 13 kx_bN ["java/lang/Exception"], c.before args s' = true := vx_own hat' (vx_isRefq hU'.1) (vx_isRefq hN'.1) hU'.2.word hN'.2.word
  have hown' : s'.vm.findClass Y.2.2.1 = some m.cls := by rw [hvm]; exact hown
  have hins : (Cond.instantiable kx_nse 6).before args s' = true := h _ (by simp [kx_ownN])
  obtain ⟨vm₁, cX, kX, hfX, hkX, -, -, X₁, st1⟩ := V.newCold hexec (own := Y.2.2.1) (C := kx_nse) (index := ik) (n := 6) hown' hk' hins hini'
    (g := F0 m pc ls st) rfl (by rw [hb]; exact d0) (Nat.le_refl _) (Nat.le_refl _)
  generalize hT1 : (T.setVm vm₁).pushCell { cls := cX, slots := kX.instanceTypes.map defaultValue, vm := .none } = T1 at X₁ st1
  have hcat : (Value.ref T.heap.size).category = 1 := rfl
  have hcellA : T1.heap[T.heap.size]? = some (freshCell cX kX) := by rw [← hT1]; exact State.heap_pushCell_size _ _
  have d3' : decode c.code (pc + 3) = .ok (.dup, 1) := by rw [hb]; exact d3
  have d4' : decode c.code (pc + 4) = .ok (.ldc is, 2) := by rw [hb]; exact d4
  have hstr' : vk_R Y.2.2.1 is text sa s' := vk_R.warm hW0 hsa
  obtain ⟨U, hsteps, hrun, hend, hW, hsame, ce, hce, hO, hOc⟩ := kx_ctorThrow X₁ hexec htr (own := Y.2.2.1) (cls := kx_nse) (sup := kx_rte) (names := ["java/lang/Exception"]) (ic := ic) (ix := 13) (bytes := kx_bN) hown' (by decide +kernel) (by decide +kernel) (by decide +kernel) (by decide +kernel) (by decide +kernel) (by decide +kernel) (by decide +kernel) h (fun x hx => nomatch hx) hfX hkX hcellA (by rw [hhp, hT]; exact Nat.le_refl _) (msg := .ref sa) rfl
    (g := { method := m, pc := pc + 6, locals := ls, stack := .ref sa :: .ref T.heap.size :: .ref T.heap.size :: st, locked := none }) rfl hsize rfl rfl (rest := st) rfl
    (by rw [hb]; exact d6) (by rw [hb]; exact d9) hout (by show 1 + 4 < 1 + _; omega) (by simp only [List.map_cons, List.sum_cons, hcat]; show 2 * 0 + (1 + _) + (13 * (1 + 2) + 42) ≤ 100 + 30 * _; omega) hlk
  obtain ⟨f1, f2⟩ := vx_frame hsame
  rw [hhp] at f1 f2
  have hWs : s.WarmedH U.vm := State.WarmedH.trans hW0 hW
  have hcl : s.vm.findClass kx_nse = some ce.cls := by
    have h9 := hOc
    rw [hvm] at h9
    exact h9
  have hall : s.sameButNew ({ U with vm := s.vm } : State) locs Y.2.2.2.2.2.1 Y.2.2.2.2.2.2.1 := by
    subst hA
    obtain ⟨e1, e2⟩ := hsame
    rw [State.setFrames_setFrames] at e1
    have h2 : (T.setVm s.vm).sameButNew ({ U with vm := s.vm } : State) [] (0 + 1) (0 + 6) := ⟨e1, e2⟩
    have h3 := X.same.trans h2
    rw [List.append_nil] at h3
    exact h3.mono h1 ‹ks + 6 ≤ Y.2.2.2.2.2.2.1›
  have hkp : ∀ q : Nat, q < H.size → U.heap[q]? = H[q]? := fun q hq => f2 q hq (fun z hz => nomatch hz)
  refine ⟨U, ?_, .threw T.heap.size, hrun, hend, Or.inr ⟨T.heap.size, rfl, kx_nse, ce, locs, ⟨⟨w, hQ, hP.kept (fun k q hq => hkp q.1 (hP k q hq).lt), hD⟩, Nat.le_trans hS.1 f1, fun q h3 h4 => ?_⟩, hce, hO, hcl, hWs, hall, hS.2.2⟩⟩
  · refine st1 _ ?_
    show Steps p.tables e below (T1.setTop { method := m, pc := pc + 3, locals := ls, stack := .ref T.heap.size :: st, locked := none }) _
    jvm_step X₁.here [X₁.here.top, hexec, d3', Value.category]
    exact X₁.ldcString hexec (own := Y.2.2.1) (text := text) (index := is) (a := sa) hown' hstr'.1 hstr'.2
      (g := { method := m, pc := pc + 4, locals := ls, stack := .ref T.heap.size :: .ref T.heap.size :: st, locked := none }) rfl d4' _ hsteps
  · rw [hkp q (Nat.lt_of_lt_of_le h3 hS.1)]
    exact hS.2.1 q h3 h4
end KXV
end
section
abbrev Y_B_init : kx_Y := (c_B_init, 1, R_B, none, y_B_init, 5, 562, 2, [])
abbrev Y_R_init : kx_Y := (c_R_init, 1, R_R, none, y_R_init, 1, 24, 1, [])
abbrev Y_B_settled : kx_Y := (c_B_settled, 4, R_B, some .int, y_B_settled, 0, 0, 8, [])
abbrev Y_C_state : kx_Y := (c_C_state, 1, R_C, some .int, y_C_state, 0, 0, 3, [])
abbrev Y_C_agreesAt : kx_Y := (c_C_agreesAt, 2, R_C, some .boolean, y_C_agreesAt, 0, 0, 2, [])
abbrev Y_R_isSameAs : kx_Y := (c_R_isSameAs, 3, R_R, some .boolean, y_R_isSameAs, 0, 0, 1, [])
abbrev Y_B_trueRun : kx_Y := (c_B_trueRun, 6, R_B, some (.object "ConsistBus$Row"), y_B_trueRun, 0, 0, 3, [])
abbrev Y_N_outermost : kx_Y := (c_N_outermost, 3, R_N, some (.object "ConsistBus$End"), y_N_outermost, 0, 0, 1, [])
abbrev Y_R_clear : kx_Y := (c_R_clear, 1, R_R, none, y_R_clear, 0, 0, 1, [])
abbrev Y_R_append : kx_Y := (c_R_append, 2, R_R, none, y_R_append, 0, 0, 1, [])
abbrev Y_L_add : kx_Y := (c_L_add, 5, R_L, some .int, y_L_add, 40, 500, 9, [(0, 10, 13, 13), (0, 10, 17, 15)])
abbrev Y_B_add : kx_Y := (c_B_add, 4, R_B, some .int, y_B_add, 40, 500, 8, [])
abbrev Y_C_init : kx_Y := (c_C_init, 3, R_C, none, y_C_init, 31, 436, 4, [])
abbrev Y_N_init : kx_Y := (c_N_init, 2, R_N, none, y_N_init, 11, 158, 3, [])
abbrev Y_F_init : kx_Y := (c_F_init, 1, R_F, none, y_F_init, 6, 100, 2, [])
abbrev Y_A_fill : kx_Y := (c_A_fill, 4, R_A, none, y_A_fill, 0, 0, 1, [])
abbrev Y_L_couple : kx_Y := (c_L_couple, 7, R_L, some .int, y_L_couple, 10, 60, 9, [(0, 14, 17, 21), (0, 14, 21, 15)])
abbrev Y_B_couple : kx_Y := (c_B_couple, 8, R_B, some .int, y_B_couple, 10, 60, 8, [])
abbrev Y_B_endOf : kx_Y := (c_B_endOf, 4, R_B, some (.object "ConsistBus$End"), y_B_endOf, 2, 12, 7, [])
abbrev Y_B_carOf : kx_Y := (c_B_carOf, 3, R_B, some (.object "ConsistBus$Car"), y_B_carOf, 1, 6, 6, [])
abbrev Y_B_carWithId : kx_Y := (c_B_carWithId, 2, R_B, some (.object "ConsistBus$Car"), y_B_carWithId, 0, 0, 1, [])
abbrev Y_R_numberOf : kx_Y := (c_R_numberOf, 3, R_R, some .int, y_R_numberOf, 0, 0, 1, [])
abbrev Y_B_freeNumber : kx_Y := (c_B_freeNumber, 2, R_B, some .int, y_B_freeNumber, 0, 0, 1, [])
abbrev Y_N_join : kx_Y := (c_N_join, 3, R_N, none, y_N_join, 0, 0, 1, [])
abbrev Y_L_uncouple : kx_Y := (c_L_uncouple, 5, R_L, some .int, y_L_uncouple, 10, 60, 9, [(0, 10, 13, 21), (0, 10, 17, 15)])
abbrev Y_B_uncouple : kx_Y := (c_B_uncouple, 6, R_B, some .int, y_B_uncouple, 10, 60, 8, [])
abbrev Y_N_part : kx_Y := (c_N_part, 1, R_N, none, y_N_part, 0, 0, 1, [])
abbrev Y_L_reset : kx_Y := (c_L_reset, 3, R_L, some .int, y_L_reset, 10, 60, 9, [(0, 5, 8, 21)])
abbrev Y_B_reset : kx_Y := (c_B_reset, 2, R_B, none, y_B_reset, 10, 60, 8, [])
abbrev Y_C_forget : kx_Y := (c_C_forget, 1, R_C, none, y_C_forget, 0, 0, 3, [])
abbrev Y_N_forget : kx_Y := (c_N_forget, 1, R_N, none, y_N_forget, 0, 0, 2, [])
abbrev Y_L_rounds : kx_Y := (c_L_rounds, 5, R_L, some .int, y_L_rounds, 10, 60, 9, [(0, 10, 13, 13)])
abbrev Y_B_rounds : kx_Y := (c_B_rounds, 5, R_B, some .int, y_B_rounds, 10, 60, 8, [])
abbrev Y_B_playRound : kx_Y := (c_B_playRound, 4, R_B, some .int, y_B_playRound, 0, 0, 6, [])
abbrev Y_C_makeFrames : kx_Y := (c_C_makeFrames, 2, R_C, none, y_C_makeFrames, 0, 0, 3, [])
abbrev Y_C_fillFrame : kx_Y := (c_C_fillFrame, 3, R_C, none, y_C_fillFrame, 0, 0, 2, [])
abbrev Y_R_copyFrom : kx_Y := (c_R_copyFrom, 2, R_R, none, y_R_copyFrom, 0, 0, 1, [])
abbrev Y_C_listen : kx_Y := (c_C_listen, 5, R_C, some .int, y_C_listen, 0, 0, 4, [])
abbrev Y_N_incoming : kx_Y := (c_N_incoming, 2, R_N, some (.object "ConsistBus$Frame"), y_N_incoming, 0, 0, 1, [])
abbrev Y_N_lookInto : kx_Y := (c_N_lookInto, 2, R_N, none, y_N_lookInto, 0, 0, 3, [])
abbrev Y_N_fallSilent : kx_Y := (c_N_fallSilent, 1, R_N, none, y_N_fallSilent, 0, 0, 2, [])
abbrev Y_J_min : kx_Y := (c_J_min, 2, R_J, some .int, y_J_min, 0, 0, 1, [])
abbrev Y_R_appendAll : kx_Y := (c_R_appendAll, 3, R_R, none, y_R_appendAll, 0, 0, 1, [])
abbrev Y_C_renewDirectory : kx_Y := (c_C_renewDirectory, 2, R_C, none, y_C_renewDirectory, 0, 0, 3, [])
abbrev Y_C_draftDirectory : kx_Y := (c_C_draftDirectory, 5, R_C, none, y_C_draftDirectory, 0, 0, 2, [])
abbrev Y_R_turnRound : kx_Y := (c_R_turnRound, 4, R_R, none, y_R_turnRound, 0, 0, 1, [])
abbrev Y_R_hasCarTwice : kx_Y := (c_R_hasCarTwice, 5, R_R, some .boolean, y_R_hasCarTwice, 0, 0, 1, [])
abbrev Y_R_idAt : kx_Y := (c_R_idAt, 2, R_R, some .int, y_R_idAt, 0, 0, 1, [])
abbrev Y_C_growOlder : kx_Y := (c_C_growOlder, 2, R_C, none, y_C_growOlder, 0, 0, 1, [])
abbrev Y_C_heed : kx_Y := (c_C_heed, 2, R_C, some .int, y_C_heed, 0, 0, 2, [])
abbrev Y_C_takeNews : kx_Y := (c_C_takeNews, 5, R_C, none, y_C_takeNews, 0, 0, 1, [])
abbrev Y_L_coupling : kx_Y := (c_L_coupling, 5, R_L, some .int, y_L_coupling, 10, 60, 9, [(0, 10, 13, 21)])
abbrev Y_B_coupling : kx_Y := (c_B_coupling, 3, R_B, some .int, y_B_coupling, 10, 60, 8, [])
abbrev Y_L_about : kx_Y := (c_L_about, 5, R_L, some .int, y_L_about, 10, 60, 9, [(0, 10, 13, 21), (0, 10, 17, 13)])
abbrev Y_B_about : kx_Y := (c_B_about, 4, R_B, some .int, y_B_about, 10, 60, 8, [])
abbrev Y_C_fact : kx_Y := (c_C_fact, 2, R_C, some .int, y_C_fact, 0, 0, 4, [])
abbrev Y_R_endAt : kx_Y := (c_R_endAt, 2, R_R, some .int, y_R_endAt, 0, 0, 1, [])
abbrev Y_L_directory : kx_Y := (c_L_directory, 5, R_L, some .int, y_L_directory, 10, 60, 9, [(0, 10, 13, 21)])
abbrev Y_B_directory : kx_Y := (c_B_directory, 3, R_B, some .int, y_B_directory, 10, 60, 8, [])
abbrev Y_L_view : kx_Y := (c_L_view, 6, R_L, some .int, y_L_view, 10, 60, 9, [(0, 12, 15, 21)])
abbrev Y_B_view : kx_Y := (c_B_view, 4, R_B, some .int, y_B_view, 10, 60, 8, [])
abbrev Y_R_itemAt : kx_Y := (c_R_itemAt, 2, R_R, some .int, y_R_itemAt, 0, 0, 1, [])
abbrev Y_L_put : kx_Y := (c_L_put, 6, R_L, some .int, y_L_put, 10, 60, 9, [(0, 12, 15, 21), (0, 12, 19, 13)])
abbrev Y_B_put : kx_Y := (c_B_put, 5, R_B, some .int, y_B_put, 10, 60, 8, [])
abbrev Y_C_replaceByte : kx_Y := (c_C_replaceByte, 4, R_C, some .int, y_C_replaceByte, 0, 0, 2, [])
abbrev Y_C_byteOf : kx_Y := (c_C_byteOf, 2, R_C, some .int, y_C_byteOf, 0, 0, 1, [])
abbrev Y_L_get : kx_Y := (c_L_get, 6, R_L, some .int, y_L_get, 10, 60, 9, [(0, 12, 15, 21), (0, 12, 19, 13)])
abbrev Y_B_get : kx_Y := (c_B_get, 5, R_B, some .int, y_B_get, 10, 60, 8, [])
abbrev Y_C_known : kx_Y := (c_C_known, 4, R_C, some .int, y_C_known, 0, 0, 2, [])
abbrev Y_L_side : kx_Y := (c_L_side, 6, R_L, some .int, y_L_side, 10, 60, 9, [(0, 12, 15, 21), (0, 12, 19, 13)])
abbrev Y_B_side : kx_Y := (c_B_side, 8, R_B, some .int, y_B_side, 10, 60, 8, [])
abbrev Y_C_hasFunction : kx_Y := (c_C_hasFunction, 2, R_C, some .boolean, y_C_hasFunction, 0, 0, 1, [])
abbrev Y_L_order : kx_Y := (c_L_order, 5, R_L, some .int, y_L_order, 10, 60, 9, [(0, 10, 13, 21)])
abbrev Y_B_order : kx_Y := (c_B_order, 3, R_B, some .int, y_B_order, 10, 60, 8, [])
abbrev Y_L_count : kx_Y := (c_L_count, 4, R_L, some .int, y_L_count, 10, 60, 9, [(0, 9, 12, 13)])
abbrev Y_B_count : kx_Y := (c_B_count, 2, R_B, some .int, y_B_count, 10, 60, 8, [])
abbrev Y_M_init : kx_Y := (c_M_init, 1, R_M, none, y_M_init, 26, 11016, 1, [])
abbrev Y_M_thrown : kx_Y := (c_M_thrown, 1, R_M, some .int, y_M_thrown, 0, 0, 1, [])
abbrev Y_M_add : kx_Y := (c_M_add, 5, R_M, some .int, y_M_add, 0, 0, 2, [])
abbrev Y_M_find : kx_Y := (c_M_find, 3, R_M, some .int, y_M_find, 0, 0, 1, [])
abbrev Y_M_goes : kx_Y := (c_M_goes, 4, R_M, some .boolean, y_M_goes, 0, 0, 1, [])
abbrev Y_M_forget : kx_Y := (c_M_forget, 3, R_M, none, y_M_forget, 0, 0, 1, [])
abbrev Y_M_couple : kx_Y := (c_M_couple, 11, R_M, some .int, y_M_couple, 0, 0, 4, [])
abbrev Y_M_isEnd : kx_Y := (c_M_isEnd, 1, R_M, some .boolean, y_M_isEnd, 0, 0, 1, [])
abbrev Y_M_together : kx_Y := (c_M_together, 5, R_M, some .boolean, y_M_together, 0, 0, 3, [])
abbrev Y_M_run : kx_Y := (c_M_run, 5, R_M, some .int, y_M_run, 0, 0, 2, [])
abbrev Y_M_turn : kx_Y := (c_M_turn, 3, R_M, none, y_M_turn, 0, 0, 1, [])
abbrev Y_M_uncouple : kx_Y := (c_M_uncouple, 6, R_M, some .int, y_M_uncouple, 0, 0, 2, [])
abbrev Y_M_reset : kx_Y := (c_M_reset, 3, R_M, none, y_M_reset, 0, 0, 2, [])
abbrev Y_M_rounds : kx_Y := (c_M_rounds, 5, R_M, some .int, y_M_rounds, 0, 0, 5, [])
abbrev Y_M_round : kx_Y := (c_M_round, 4, R_M, some .int, y_M_round, 0, 0, 4, [])
abbrev Y_M_copy : kx_Y := (c_M_copy, 2, R_M, none, y_M_copy, 0, 0, 1, [])
abbrev Y_M_hears : kx_Y := (c_M_hears, 3, R_M, some .boolean, y_M_hears, 0, 0, 1, [])
abbrev Y_M_look : kx_Y := (c_M_look, 5, R_M, none, y_M_look, 0, 0, 2, [])
abbrev Y_M_settle : kx_Y := (c_M_settle, 6, R_M, none, y_M_settle, 0, 0, 3, [])
abbrev Y_M_seen : kx_Y := (c_M_seen, 6, R_M, some .int, y_M_seen, 0, 0, 2, [])
abbrev Y_M_learn : kx_Y := (c_M_learn, 9, R_M, none, y_M_learn, 0, 0, 2, [])
abbrev Y_M_agrees : kx_Y := (c_M_agrees, 5, R_M, some .boolean, y_M_agrees, 0, 0, 1, [])
abbrev Y_M_place : kx_Y := (c_M_place, 4, R_M, some .int, y_M_place, 0, 0, 1, [])
abbrev Y_M_coupling : kx_Y := (c_M_coupling, 4, R_M, some .int, y_M_coupling, 0, 0, 2, [])
abbrev Y_M_about : kx_Y := (c_M_about, 5, R_M, some .int, y_M_about, 0, 0, 3, [])
abbrev Y_M_stateOf : kx_Y := (c_M_stateOf, 4, R_M, some .int, y_M_stateOf, 0, 0, 2, [])
abbrev Y_M_directory : kx_Y := (c_M_directory, 4, R_M, some .int, y_M_directory, 0, 0, 2, [])
abbrev Y_M_view : kx_Y := (c_M_view, 6, R_M, some .int, y_M_view, 0, 0, 2, [])
abbrev Y_M_put : kx_Y := (c_M_put, 6, R_M, some .int, y_M_put, 0, 0, 2, [])
abbrev Y_M_get : kx_Y := (c_M_get, 6, R_M, some .int, y_M_get, 0, 0, 2, [])
abbrev Y_M_side : kx_Y := (c_M_side, 7, R_M, some .int, y_M_side, 0, 0, 2, [])
abbrev Y_M_order : kx_Y := (c_M_order, 5, R_M, some .int, y_M_order, 0, 0, 3, [])
abbrev Y_M_settled : kx_Y := (c_M_settled, 6, R_M, some .int, y_M_settled, 0, 0, 3, [])
abbrev Y_M_count : kx_Y := (c_M_count, 2, R_M, some .int, y_M_count, 0, 0, 2, [])
theorem f_B_11 : kx_F R_B 11 4 0 := ⟨_, _, _, rfl, by decide, u_B, kx_in 42 (by decide +kernel) rfl⟩
theorem f_B_15 : kx_F R_B 15 4 1 := ⟨_, _, _, rfl, by decide, u_B, kx_in 43 (by decide +kernel) rfl⟩
theorem f_B_18 : kx_F R_B 18 4 2 := ⟨_, _, _, rfl, by decide, u_B, kx_in 44 (by decide +kernel) rfl⟩
theorem f_B_25 : kx_F R_B 25 4 3 := ⟨_, _, _, rfl, by decide, u_B, kx_in 45 (by decide +kernel) rfl⟩
theorem f_B_37 : kx_F R_B 37 4 4 := ⟨_, _, _, rfl, by decide, u_B, kx_in 46 (by decide +kernel) rfl⟩
theorem f_B_53 : kx_F R_B 53 1 5 := ⟨_, _, _, rfl, by decide, u_N, kx_in 260 (by decide +kernel) rfl⟩
theorem f_B_77 : kx_F R_B 77 4 6 := ⟨_, _, _, rfl, by decide, u_B, kx_in 48 (by decide +kernel) rfl⟩
theorem f_B_80 : kx_F R_B 80 4 5 := ⟨_, _, _, rfl, by decide, u_B, kx_in 47 (by decide +kernel) rfl⟩
theorem f_B_89 : kx_F R_B 89 1 6 := ⟨_, _, _, rfl, by decide, u_N, kx_in 263 (by decide +kernel) rfl⟩
theorem f_B_103 : kx_F R_B 103 4 7 := ⟨_, _, _, rfl, by decide, u_B, kx_in 49 (by decide +kernel) rfl⟩
theorem f_B_106 : kx_F R_B 106 4 8 := ⟨_, _, _, rfl, by decide, u_B, kx_in 50 (by decide +kernel) rfl⟩
theorem f_B_114 : kx_F R_B 114 0 3 := ⟨_, _, _, rfl, by decide, u_C, kx_in 297 (by decide +kernel) rfl⟩
theorem f_B_120 : kx_F R_B 120 1 1 := ⟨_, _, _, rfl, by decide, u_N, kx_in 251 (by decide +kernel) rfl⟩
theorem f_B_165 : kx_F R_B 165 0 2 := ⟨_, _, _, rfl, by decide, u_C, kx_in 295 (by decide +kernel) rfl⟩
theorem f_B_173 : kx_F R_B 173 1 0 := ⟨_, _, _, rfl, by decide, u_N, kx_in 248 (by decide +kernel) rfl⟩
theorem f_B_183 : kx_F R_B 183 1 4 := ⟨_, _, _, rfl, by decide, u_N, kx_in 258 (by decide +kernel) rfl⟩
theorem f_C_9 : kx_F R_C 9 0 0 := ⟨_, _, _, rfl, by decide, u_C, kx_in 292 (by decide +kernel) rfl⟩
theorem f_C_15 : kx_F R_C 15 0 1 := ⟨_, _, _, rfl, by decide, u_C, kx_in 293 (by decide +kernel) rfl⟩
theorem f_C_20 : kx_F R_C 20 0 2 := ⟨_, _, _, rfl, by decide, u_C, kx_in 294 (by decide +kernel) rfl⟩
theorem f_C_27 : kx_F R_C 27 1 4 := ⟨_, _, _, rfl, by decide, u_N, kx_in 256 (by decide +kernel) rfl⟩
theorem f_C_34 : kx_F R_C 34 0 3 := ⟨_, _, _, rfl, by decide, u_C, kx_in 296 (by decide +kernel) rfl⟩
theorem f_C_38 : kx_F R_C 38 0 4 := ⟨_, _, _, rfl, by decide, u_C, kx_in 298 (by decide +kernel) rfl⟩
theorem f_C_41 : kx_F R_C 41 0 5 := ⟨_, _, _, rfl, by decide, u_C, kx_in 299 (by decide +kernel) rfl⟩
theorem f_C_45 : kx_F R_C 45 0 6 := ⟨_, _, _, rfl, by decide, u_C, kx_in 300 (by decide +kernel) rfl⟩
theorem f_C_60 : kx_F R_C 60 0 7 := ⟨_, _, _, rfl, by decide, u_C, kx_in 301 (by decide +kernel) rfl⟩
theorem f_C_63 : kx_F R_C 63 0 9 := ⟨_, _, _, rfl, by decide, u_C, kx_in 303 (by decide +kernel) rfl⟩
theorem f_C_66 : kx_F R_C 66 0 10 := ⟨_, _, _, rfl, by decide, u_C, kx_in 304 (by decide +kernel) rfl⟩
theorem f_C_69 : kx_F R_C 69 0 8 := ⟨_, _, _, rfl, by decide, u_C, kx_in 302 (by decide +kernel) rfl⟩
theorem f_C_76 : kx_F R_C 76 3 1 := ⟨_, _, _, rfl, by decide, u_R, kx_in 34 (by decide +kernel) rfl⟩
theorem f_C_87 : kx_F R_C 87 1 8 := ⟨_, _, _, rfl, by decide, u_N, kx_in 267 (by decide +kernel) rfl⟩
theorem f_C_90 : kx_F R_C 90 1 1 := ⟨_, _, _, rfl, by decide, u_N, kx_in 250 (by decide +kernel) rfl⟩
theorem f_C_93 : kx_F R_C 93 1 7 := ⟨_, _, _, rfl, by decide, u_N, kx_in 265 (by decide +kernel) rfl⟩
theorem f_C_101 : kx_F R_C 101 1 2 := ⟨_, _, _, rfl, by decide, u_N, kx_in 253 (by decide +kernel) rfl⟩
theorem f_C_108 : kx_F R_C 108 1 5 := ⟨_, _, _, rfl, by decide, u_N, kx_in 261 (by decide +kernel) rfl⟩
theorem f_C_115 : kx_F R_C 115 1 3 := ⟨_, _, _, rfl, by decide, u_N, kx_in 255 (by decide +kernel) rfl⟩
theorem f_C_119 : kx_F R_C 119 1 0 := ⟨_, _, _, rfl, by decide, u_N, kx_in 247 (by decide +kernel) rfl⟩
theorem f_C_122 : kx_F R_C 122 2 4 := ⟨_, _, _, rfl, by decide, u_F, kx_in 230 (by decide +kernel) rfl⟩
theorem f_C_127 : kx_F R_C 127 2 0 := ⟨_, _, _, rfl, by decide, u_F, kx_in 221 (by decide +kernel) rfl⟩
theorem f_C_132 : kx_F R_C 132 2 5 := ⟨_, _, _, rfl, by decide, u_F, kx_in 232 (by decide +kernel) rfl⟩
theorem f_C_133 : kx_F R_C 133 2 1 := ⟨_, _, _, rfl, by decide, u_F, kx_in 224 (by decide +kernel) rfl⟩
theorem f_C_134 : kx_F R_C 134 2 2 := ⟨_, _, _, rfl, by decide, u_F, kx_in 226 (by decide +kernel) rfl⟩
theorem f_C_141 : kx_F R_C 141 2 3 := ⟨_, _, _, rfl, by decide, u_F, kx_in 228 (by decide +kernel) rfl⟩
theorem f_N_9 : kx_F R_N 9 1 0 := ⟨_, _, _, rfl, by decide, u_N, kx_in 246 (by decide +kernel) rfl⟩
theorem f_N_18 : kx_F R_N 18 1 1 := ⟨_, _, _, rfl, by decide, u_N, kx_in 249 (by decide +kernel) rfl⟩
theorem f_N_22 : kx_F R_N 22 1 2 := ⟨_, _, _, rfl, by decide, u_N, kx_in 252 (by decide +kernel) rfl⟩
theorem f_N_28 : kx_F R_N 28 1 3 := ⟨_, _, _, rfl, by decide, u_N, kx_in 254 (by decide +kernel) rfl⟩
theorem f_N_32 : kx_F R_N 32 1 6 := ⟨_, _, _, rfl, by decide, u_N, kx_in 262 (by decide +kernel) rfl⟩
theorem f_N_35 : kx_F R_N 35 1 5 := ⟨_, _, _, rfl, by decide, u_N, kx_in 259 (by decide +kernel) rfl⟩
theorem f_N_42 : kx_F R_N 42 1 7 := ⟨_, _, _, rfl, by decide, u_N, kx_in 264 (by decide +kernel) rfl⟩
theorem f_N_46 : kx_F R_N 46 1 8 := ⟨_, _, _, rfl, by decide, u_N, kx_in 266 (by decide +kernel) rfl⟩
theorem f_N_49 : kx_F R_N 49 1 4 := ⟨_, _, _, rfl, by decide, u_N, kx_in 257 (by decide +kernel) rfl⟩
theorem f_N_55 : kx_F R_N 55 2 4 := ⟨_, _, _, rfl, by decide, u_F, kx_in 229 (by decide +kernel) rfl⟩
theorem f_N_62 : kx_F R_N 62 2 0 := ⟨_, _, _, rfl, by decide, u_F, kx_in 220 (by decide +kernel) rfl⟩
theorem f_N_67 : kx_F R_N 67 2 5 := ⟨_, _, _, rfl, by decide, u_F, kx_in 231 (by decide +kernel) rfl⟩
theorem f_N_68 : kx_F R_N 68 2 1 := ⟨_, _, _, rfl, by decide, u_F, kx_in 223 (by decide +kernel) rfl⟩
theorem f_F_12 : kx_F R_F 12 2 0 := ⟨_, _, _, rfl, by decide, u_F, kx_in 219 (by decide +kernel) rfl⟩
theorem f_F_18 : kx_F R_F 18 2 1 := ⟨_, _, _, rfl, by decide, u_F, kx_in 222 (by decide +kernel) rfl⟩
theorem f_F_21 : kx_F R_F 21 2 2 := ⟨_, _, _, rfl, by decide, u_F, kx_in 225 (by decide +kernel) rfl⟩
theorem f_F_25 : kx_F R_F 25 2 3 := ⟨_, _, _, rfl, by decide, u_F, kx_in 227 (by decide +kernel) rfl⟩
theorem f_R_9 : kx_F R_R 9 3 0 := ⟨_, _, _, rfl, by decide, u_R, kx_in 32 (by decide +kernel) rfl⟩
theorem f_R_15 : kx_F R_R 15 3 1 := ⟨_, _, _, rfl, by decide, u_R, kx_in 33 (by decide +kernel) rfl⟩
theorem f_M_7 : kx_F R_M 7 5 2 := ⟨_, _, _, rfl, by decide, u_M, kx_in 602 (by decide +kernel) rfl⟩
theorem f_M_13 : kx_F R_M 13 5 3 := ⟨_, _, _, rfl, by decide, u_M, kx_in 603 (by decide +kernel) rfl⟩
theorem f_M_16 : kx_F R_M 16 5 4 := ⟨_, _, _, rfl, by decide, u_M, kx_in 604 (by decide +kernel) rfl⟩
theorem f_M_19 : kx_F R_M 19 5 5 := ⟨_, _, _, rfl, by decide, u_M, kx_in 605 (by decide +kernel) rfl⟩
theorem f_M_22 : kx_F R_M 22 5 6 := ⟨_, _, _, rfl, by decide, u_M, kx_in 606 (by decide +kernel) rfl⟩
theorem f_M_26 : kx_F R_M 26 5 10 := ⟨_, _, _, rfl, by decide, u_M, kx_in 610 (by decide +kernel) rfl⟩
theorem f_M_29 : kx_F R_M 29 5 11 := ⟨_, _, _, rfl, by decide, u_M, kx_in 611 (by decide +kernel) rfl⟩
theorem f_M_32 : kx_F R_M 32 5 12 := ⟨_, _, _, rfl, by decide, u_M, kx_in 612 (by decide +kernel) rfl⟩
theorem f_M_35 : kx_F R_M 35 5 13 := ⟨_, _, _, rfl, by decide, u_M, kx_in 613 (by decide +kernel) rfl⟩
theorem f_M_38 : kx_F R_M 38 5 14 := ⟨_, _, _, rfl, by decide, u_M, kx_in 614 (by decide +kernel) rfl⟩
theorem f_M_41 : kx_F R_M 41 5 15 := ⟨_, _, _, rfl, by decide, u_M, kx_in 615 (by decide +kernel) rfl⟩
theorem f_M_44 : kx_F R_M 44 5 16 := ⟨_, _, _, rfl, by decide, u_M, kx_in 616 (by decide +kernel) rfl⟩
theorem f_M_47 : kx_F R_M 47 5 17 := ⟨_, _, _, rfl, by decide, u_M, kx_in 617 (by decide +kernel) rfl⟩
theorem f_M_50 : kx_F R_M 50 5 18 := ⟨_, _, _, rfl, by decide, u_M, kx_in 618 (by decide +kernel) rfl⟩
theorem f_M_53 : kx_F R_M 53 5 19 := ⟨_, _, _, rfl, by decide, u_M, kx_in 619 (by decide +kernel) rfl⟩
theorem f_M_56 : kx_F R_M 56 5 20 := ⟨_, _, _, rfl, by decide, u_M, kx_in 620 (by decide +kernel) rfl⟩
theorem f_M_59 : kx_F R_M 59 5 21 := ⟨_, _, _, rfl, by decide, u_M, kx_in 621 (by decide +kernel) rfl⟩
theorem f_M_62 : kx_F R_M 62 5 22 := ⟨_, _, _, rfl, by decide, u_M, kx_in 622 (by decide +kernel) rfl⟩
theorem f_M_65 : kx_F R_M 65 5 23 := ⟨_, _, _, rfl, by decide, u_M, kx_in 623 (by decide +kernel) rfl⟩
theorem f_M_68 : kx_F R_M 68 5 24 := ⟨_, _, _, rfl, by decide, u_M, kx_in 624 (by decide +kernel) rfl⟩
theorem f_M_71 : kx_F R_M 71 5 25 := ⟨_, _, _, rfl, by decide, u_M, kx_in 625 (by decide +kernel) rfl⟩
theorem f_M_74 : kx_F R_M 74 5 26 := ⟨_, _, _, rfl, by decide, u_M, kx_in 626 (by decide +kernel) rfl⟩
theorem f_M_77 : kx_F R_M 77 5 27 := ⟨_, _, _, rfl, by decide, u_M, kx_in 627 (by decide +kernel) rfl⟩
theorem f_M_80 : kx_F R_M 80 5 28 := ⟨_, _, _, rfl, by decide, u_M, kx_in 628 (by decide +kernel) rfl⟩
theorem f_M_83 : kx_F R_M 83 5 29 := ⟨_, _, _, rfl, by decide, u_M, kx_in 629 (by decide +kernel) rfl⟩
theorem f_M_86 : kx_F R_M 86 5 30 := ⟨_, _, _, rfl, by decide, u_M, kx_in 630 (by decide +kernel) rfl⟩
theorem f_M_89 : kx_F R_M 89 5 0 := ⟨_, _, _, rfl, by decide, u_M, kx_in 600 (by decide +kernel) rfl⟩
theorem f_M_93 : kx_F R_M 93 5 1 := ⟨_, _, _, rfl, by decide, u_M, kx_in 601 (by decide +kernel) rfl⟩
theorem f_M_123 : kx_F R_M 123 5 7 := ⟨_, _, _, rfl, by decide, u_M, kx_in 607 (by decide +kernel) rfl⟩
theorem f_M_152 : kx_F R_M 152 5 8 := ⟨_, _, _, rfl, by decide, u_M, kx_in 608 (by decide +kernel) rfl⟩
theorem f_M_155 : kx_F R_M 155 5 9 := ⟨_, _, _, rfl, by decide, u_M, kx_in 609 (by decide +kernel) rfl⟩
theorem p_C_0 (v : Int32) : kx_P 0 0 true (.int v) := ⟨_, _, _, _, _, rfl, ty_C_ok, nm_C, rfl, fun _ => rfl, ty_C_ok 0 (by decide), rfl, rfl⟩
theorem p_C_1 (v : Int32) : kx_P 0 1 true (.int v) := ⟨_, _, _, _, _, rfl, ty_C_ok, nm_C, rfl, fun _ => rfl, ty_C_ok 1 (by decide), rfl, rfl⟩
theorem p_C_2 (a : Nat) : kx_P 0 2 true (.ref a) := ⟨_, _, _, _, _, rfl, ty_C_ok, nm_C, rfl, fun _ => rfl, ty_C_ok 2 (by decide), rfl, rfl⟩
theorem p_C_3 (a : Nat) : kx_P 0 3 true (.ref a) := ⟨_, _, _, _, _, rfl, ty_C_ok, nm_C, rfl, fun _ => rfl, ty_C_ok 3 (by decide), rfl, rfl⟩
theorem p_C_4 (a : Nat) : kx_P 0 4 true (.ref a) := ⟨_, _, _, _, _, rfl, ty_C_ok, nm_C, rfl, fun _ => rfl, ty_C_ok 4 (by decide), rfl, rfl⟩
theorem p_C_5 (a : Nat) : kx_P 0 5 true (.ref a) := ⟨_, _, _, _, _, rfl, ty_C_ok, nm_C, rfl, fun _ => rfl, ty_C_ok 5 (by decide), rfl, rfl⟩
theorem p_C_6 (a : Nat) : kx_P 0 6 true (.ref a) := ⟨_, _, _, _, _, rfl, ty_C_ok, nm_C, rfl, fun _ => rfl, ty_C_ok 6 (by decide), rfl, rfl⟩
theorem p_C_7 (v : Int32) : kx_P 0 7 false (.int v) := ⟨_, _, _, _, _, rfl, ty_C_ok, nm_C, rfl, fun _ => rfl, ty_C_ok 7 (by decide), rfl, rfl⟩
theorem p_C_8 (v : Int32) : kx_P 0 8 false (.int v) := ⟨_, _, _, _, _, rfl, ty_C_ok, nm_C, rfl, fun _ => rfl, ty_C_ok 8 (by decide), rfl, rfl⟩
theorem p_C_9 (v : Int32) : kx_P 0 9 false (.int v) := ⟨_, _, _, _, _, rfl, ty_C_ok, nm_C, rfl, fun _ => rfl, ty_C_ok 9 (by decide), rfl, rfl⟩
theorem p_C_10 (v : Int32) : kx_P 0 10 false (.int v) := ⟨_, _, _, _, _, rfl, ty_C_ok, nm_C, rfl, fun _ => rfl, ty_C_ok 10 (by decide), rfl, rfl⟩
theorem p_N_0 (v : Int32) : kx_P 1 0 true (.int v) := ⟨_, _, _, _, _, rfl, ty_N_ok, nm_N, rfl, fun _ => rfl, ty_N_ok 0 (by decide), rfl, rfl⟩
theorem p_N_1 (a : Nat) : kx_P 1 1 true (.ref a) := ⟨_, _, _, _, _, rfl, ty_N_ok, nm_N, rfl, fun _ => rfl, ty_N_ok 1 (by decide), rfl, rfl⟩
theorem p_N_2 (a : Nat) : kx_P 1 2 true (.ref a) := ⟨_, _, _, _, _, rfl, ty_N_ok, nm_N, rfl, fun _ => rfl, ty_N_ok 2 (by decide), rfl, rfl⟩
theorem p_N_3 (a : Nat) : kx_P 1 3 true (.ref a) := ⟨_, _, _, _, _, rfl, ty_N_ok, nm_N, rfl, fun _ => rfl, ty_N_ok 3 (by decide), rfl, rfl⟩
theorem p_N_4 (a : Nat) : kx_P 1 4 false (.ref a) := ⟨_, _, _, _, _, rfl, ty_N_ok, nm_N, rfl, fun _ => rfl, ty_N_ok 4 (by decide), rfl, rfl⟩
theorem p_N_4_n : kx_P 1 4 false .null := ⟨_, _, _, _, _, rfl, ty_N_ok, nm_N, rfl, fun _ => rfl, ty_N_ok 4 (by decide), rfl, rfl⟩
theorem p_N_5 (a : Nat) : kx_P 1 5 false (.ref a) := ⟨_, _, _, _, _, rfl, ty_N_ok, nm_N, rfl, fun _ => rfl, ty_N_ok 5 (by decide), rfl, rfl⟩
theorem p_N_5_n : kx_P 1 5 false .null := ⟨_, _, _, _, _, rfl, ty_N_ok, nm_N, rfl, fun _ => rfl, ty_N_ok 5 (by decide), rfl, rfl⟩
theorem p_N_6 (v : Int32) : kx_P 1 6 false (.int v) := ⟨_, _, _, _, _, rfl, ty_N_ok, nm_N, rfl, fun _ => rfl, ty_N_ok 6 (by decide), rfl, rfl⟩
theorem p_N_7_0 : kx_P 1 7 false (.int (nI 0)) := ⟨_, _, _, _, _, rfl, ty_N_ok, nm_N, rfl, fun _ => rfl, ty_N_ok 7 (by decide), by decide +kernel, by decide +kernel⟩
theorem p_N_7_1 : kx_P 1 7 false (.int (nI 1)) := ⟨_, _, _, _, _, rfl, ty_N_ok, nm_N, rfl, fun _ => rfl, ty_N_ok 7 (by decide), by decide +kernel, by decide +kernel⟩
theorem p_N_8 (v : Int32) : kx_P 1 8 false (.int v) := ⟨_, _, _, _, _, rfl, ty_N_ok, nm_N, rfl, fun _ => rfl, ty_N_ok 8 (by decide), rfl, rfl⟩
theorem p_F_0 (a : Nat) : kx_P 2 0 true (.ref a) := ⟨_, _, _, _, _, rfl, ty_F_ok, nm_F, rfl, fun _ => rfl, ty_F_ok 0 (by decide), rfl, rfl⟩
theorem p_F_1 (a : Nat) : kx_P 2 1 true (.ref a) := ⟨_, _, _, _, _, rfl, ty_F_ok, nm_F, rfl, fun _ => rfl, ty_F_ok 1 (by decide), rfl, rfl⟩
theorem p_F_2 (a : Nat) : kx_P 2 2 true (.ref a) := ⟨_, _, _, _, _, rfl, ty_F_ok, nm_F, rfl, fun _ => rfl, ty_F_ok 2 (by decide), rfl, rfl⟩
theorem p_F_3 (a : Nat) : kx_P 2 3 true (.ref a) := ⟨_, _, _, _, _, rfl, ty_F_ok, nm_F, rfl, fun _ => rfl, ty_F_ok 3 (by decide), rfl, rfl⟩
theorem p_F_4 (v : Int32) : kx_P 2 4 false (.int v) := ⟨_, _, _, _, _, rfl, ty_F_ok, nm_F, rfl, fun _ => rfl, ty_F_ok 4 (by decide), rfl, rfl⟩
theorem p_F_5_0 : kx_P 2 5 false (.int (nI 0)) := ⟨_, _, _, _, _, rfl, ty_F_ok, nm_F, rfl, fun _ => rfl, ty_F_ok 5 (by decide), by decide +kernel, by decide +kernel⟩
theorem p_F_5_1 : kx_P 2 5 false (.int (nI 1)) := ⟨_, _, _, _, _, rfl, ty_F_ok, nm_F, rfl, fun _ => rfl, ty_F_ok 5 (by decide), by decide +kernel, by decide +kernel⟩
theorem p_R_0 (a : Nat) : kx_P 3 0 true (.ref a) := ⟨_, _, _, _, _, rfl, ty_R_ok, nm_R, rfl, fun _ => rfl, ty_R_ok 0 (by decide), rfl, rfl⟩
theorem p_R_1 (v : Int32) : kx_P 3 1 false (.int v) := ⟨_, _, _, _, _, rfl, ty_R_ok, nm_R, rfl, fun _ => rfl, ty_R_ok 1 (by decide), rfl, rfl⟩
theorem p_B_0 (a : Nat) : kx_P 4 0 true (.ref a) := ⟨_, _, _, _, _, rfl, ty_B_ok, nm_B, rfl, fun _ => rfl, ty_B_ok 0 (by decide), rfl, rfl⟩
theorem p_B_1 (a : Nat) : kx_P 4 1 true (.ref a) := ⟨_, _, _, _, _, rfl, ty_B_ok, nm_B, rfl, fun _ => rfl, ty_B_ok 1 (by decide), rfl, rfl⟩
theorem p_B_2 (a : Nat) : kx_P 4 2 true (.ref a) := ⟨_, _, _, _, _, rfl, ty_B_ok, nm_B, rfl, fun _ => rfl, ty_B_ok 2 (by decide), rfl, rfl⟩
theorem p_B_3 (a : Nat) : kx_P 4 3 true (.ref a) := ⟨_, _, _, _, _, rfl, ty_B_ok, nm_B, rfl, fun _ => rfl, ty_B_ok 3 (by decide), rfl, rfl⟩
theorem p_B_4 (v : Int32) : kx_P 4 4 false (.int v) := ⟨_, _, _, _, _, rfl, ty_B_ok, nm_B, rfl, fun _ => rfl, ty_B_ok 4 (by decide), rfl, rfl⟩
theorem p_B_5 (v : Int32) : kx_P 4 5 false (.int v) := ⟨_, _, _, _, _, rfl, ty_B_ok, nm_B, rfl, fun _ => rfl, ty_B_ok 5 (by decide), rfl, rfl⟩
theorem p_B_6 (v : Int32) : kx_P 4 6 false (.int v) := ⟨_, _, _, _, _, rfl, ty_B_ok, nm_B, rfl, fun _ => rfl, ty_B_ok 6 (by decide), rfl, rfl⟩
theorem p_B_7 (v : Int32) : kx_P 4 7 false (.int v) := ⟨_, _, _, _, _, rfl, ty_B_ok, nm_B, rfl, fun _ => rfl, ty_B_ok 7 (by decide), rfl, rfl⟩
theorem p_B_8 (v : Int32) : kx_P 4 8 false (.int v) := ⟨_, _, _, _, _, rfl, ty_B_ok, nm_B, rfl, fun _ => rfl, ty_B_ok 8 (by decide), rfl, rfl⟩
theorem p_M_0 (v : Int32) : kx_P 5 0 false (.int v) := ⟨_, _, _, _, _, rfl, ty_M_ok, nm_M, rfl, fun _ => rfl, ty_M_ok 0 (by decide), rfl, rfl⟩
theorem p_M_1 (v : Int32) : kx_P 5 1 false (.int v) := ⟨_, _, _, _, _, rfl, ty_M_ok, nm_M, rfl, fun _ => rfl, ty_M_ok 1 (by decide), rfl, rfl⟩
theorem p_M_2 (a : Nat) : kx_P 5 2 true (.ref a) := ⟨_, _, _, _, _, rfl, ty_M_ok, nm_M, rfl, fun _ => rfl, ty_M_ok 2 (by decide), rfl, rfl⟩
theorem p_M_3 (a : Nat) : kx_P 5 3 true (.ref a) := ⟨_, _, _, _, _, rfl, ty_M_ok, nm_M, rfl, fun _ => rfl, ty_M_ok 3 (by decide), rfl, rfl⟩
theorem p_M_4 (a : Nat) : kx_P 5 4 true (.ref a) := ⟨_, _, _, _, _, rfl, ty_M_ok, nm_M, rfl, fun _ => rfl, ty_M_ok 4 (by decide), rfl, rfl⟩
theorem p_M_5 (a : Nat) : kx_P 5 5 true (.ref a) := ⟨_, _, _, _, _, rfl, ty_M_ok, nm_M, rfl, fun _ => rfl, ty_M_ok 5 (by decide), rfl, rfl⟩
theorem p_M_6 (a : Nat) : kx_P 5 6 true (.ref a) := ⟨_, _, _, _, _, rfl, ty_M_ok, nm_M, rfl, fun _ => rfl, ty_M_ok 6 (by decide), rfl, rfl⟩
theorem p_M_7 (v : Int32) : kx_P 5 7 false (.int v) := ⟨_, _, _, _, _, rfl, ty_M_ok, nm_M, rfl, fun _ => rfl, ty_M_ok 7 (by decide), rfl, rfl⟩
theorem p_M_8 (v : Int32) : kx_P 5 8 false (.int v) := ⟨_, _, _, _, _, rfl, ty_M_ok, nm_M, rfl, fun _ => rfl, ty_M_ok 8 (by decide), rfl, rfl⟩
theorem p_M_9 (v : Int32) : kx_P 5 9 false (.int v) := ⟨_, _, _, _, _, rfl, ty_M_ok, nm_M, rfl, fun _ => rfl, ty_M_ok 9 (by decide), rfl, rfl⟩
theorem p_M_10 (a : Nat) : kx_P 5 10 true (.ref a) := ⟨_, _, _, _, _, rfl, ty_M_ok, nm_M, rfl, fun _ => rfl, ty_M_ok 10 (by decide), rfl, rfl⟩
theorem p_M_11 (a : Nat) : kx_P 5 11 true (.ref a) := ⟨_, _, _, _, _, rfl, ty_M_ok, nm_M, rfl, fun _ => rfl, ty_M_ok 11 (by decide), rfl, rfl⟩
theorem p_M_12 (a : Nat) : kx_P 5 12 true (.ref a) := ⟨_, _, _, _, _, rfl, ty_M_ok, nm_M, rfl, fun _ => rfl, ty_M_ok 12 (by decide), rfl, rfl⟩
theorem p_M_13 (a : Nat) : kx_P 5 13 true (.ref a) := ⟨_, _, _, _, _, rfl, ty_M_ok, nm_M, rfl, fun _ => rfl, ty_M_ok 13 (by decide), rfl, rfl⟩
theorem p_M_14 (a : Nat) : kx_P 5 14 true (.ref a) := ⟨_, _, _, _, _, rfl, ty_M_ok, nm_M, rfl, fun _ => rfl, ty_M_ok 14 (by decide), rfl, rfl⟩
theorem p_M_15 (a : Nat) : kx_P 5 15 true (.ref a) := ⟨_, _, _, _, _, rfl, ty_M_ok, nm_M, rfl, fun _ => rfl, ty_M_ok 15 (by decide), rfl, rfl⟩
theorem p_M_16 (a : Nat) : kx_P 5 16 true (.ref a) := ⟨_, _, _, _, _, rfl, ty_M_ok, nm_M, rfl, fun _ => rfl, ty_M_ok 16 (by decide), rfl, rfl⟩
theorem p_M_17 (a : Nat) : kx_P 5 17 true (.ref a) := ⟨_, _, _, _, _, rfl, ty_M_ok, nm_M, rfl, fun _ => rfl, ty_M_ok 17 (by decide), rfl, rfl⟩
theorem p_M_18 (a : Nat) : kx_P 5 18 true (.ref a) := ⟨_, _, _, _, _, rfl, ty_M_ok, nm_M, rfl, fun _ => rfl, ty_M_ok 18 (by decide), rfl, rfl⟩
theorem p_M_19 (a : Nat) : kx_P 5 19 true (.ref a) := ⟨_, _, _, _, _, rfl, ty_M_ok, nm_M, rfl, fun _ => rfl, ty_M_ok 19 (by decide), rfl, rfl⟩
theorem p_M_20 (a : Nat) : kx_P 5 20 true (.ref a) := ⟨_, _, _, _, _, rfl, ty_M_ok, nm_M, rfl, fun _ => rfl, ty_M_ok 20 (by decide), rfl, rfl⟩
theorem p_M_21 (a : Nat) : kx_P 5 21 true (.ref a) := ⟨_, _, _, _, _, rfl, ty_M_ok, nm_M, rfl, fun _ => rfl, ty_M_ok 21 (by decide), rfl, rfl⟩
theorem p_M_22 (a : Nat) : kx_P 5 22 true (.ref a) := ⟨_, _, _, _, _, rfl, ty_M_ok, nm_M, rfl, fun _ => rfl, ty_M_ok 22 (by decide), rfl, rfl⟩
theorem p_M_23 (a : Nat) : kx_P 5 23 true (.ref a) := ⟨_, _, _, _, _, rfl, ty_M_ok, nm_M, rfl, fun _ => rfl, ty_M_ok 23 (by decide), rfl, rfl⟩
theorem p_M_24 (a : Nat) : kx_P 5 24 true (.ref a) := ⟨_, _, _, _, _, rfl, ty_M_ok, nm_M, rfl, fun _ => rfl, ty_M_ok 24 (by decide), rfl, rfl⟩
theorem p_M_25 (a : Nat) : kx_P 5 25 true (.ref a) := ⟨_, _, _, _, _, rfl, ty_M_ok, nm_M, rfl, fun _ => rfl, ty_M_ok 25 (by decide), rfl, rfl⟩
theorem p_M_26 (a : Nat) : kx_P 5 26 true (.ref a) := ⟨_, _, _, _, _, rfl, ty_M_ok, nm_M, rfl, fun _ => rfl, ty_M_ok 26 (by decide), rfl, rfl⟩
theorem p_M_27 (a : Nat) : kx_P 5 27 true (.ref a) := ⟨_, _, _, _, _, rfl, ty_M_ok, nm_M, rfl, fun _ => rfl, ty_M_ok 27 (by decide), rfl, rfl⟩
theorem p_M_28 (a : Nat) : kx_P 5 28 true (.ref a) := ⟨_, _, _, _, _, rfl, ty_M_ok, nm_M, rfl, fun _ => rfl, ty_M_ok 28 (by decide), rfl, rfl⟩
theorem p_M_29 (a : Nat) : kx_P 5 29 true (.ref a) := ⟨_, _, _, _, _, rfl, ty_M_ok, nm_M, rfl, fun _ => rfl, ty_M_ok 29 (by decide), rfl, rfl⟩
theorem p_M_30 (a : Nat) : kx_P 5 30 true (.ref a) := ⟨_, _, _, _, _, rfl, ty_M_ok, nm_M, rfl, fun _ => rfl, ty_M_ok 30 (by decide), rfl, rfl⟩
theorem o_B_1 : Cond.methodLink R_B 1 Lib.objectInit ∈ kx_WS := kx_in 21 (by decide +kernel) rfl
theorem i_B_24 : kx_LI R_B 24 0 Y_R_init := ⟨rfl, rfl, rfl, k_R_init, kx_in 28 (by decide +kernel) rfl, kx_in 29 (by decide +kernel) rfl, kx_in 2 (by decide +kernel) rfl, by decide, by decide, by decide +kernel⟩
theorem i_B_46 : kx_LI R_B 46 2 Y_C_init := ⟨rfl, rfl, rfl, k_C_init, kx_in 198 (by decide +kernel) rfl, kx_in 199 (by decide +kernel) rfl, kx_in 9 (by decide +kernel) rfl, by decide, by decide, by decide +kernel⟩
theorem v_B_49 : kx_LV R_B 49 2 Y_B_endOf := ⟨rfl, k_B_endOf, kx_in 336 (by decide +kernel) rfl, kx_in 338 (by decide +kernel) rfl, kx_inS (y_B_endOf, 9) (by decide +kernel), kx_in 1 (by decide +kernel) rfl, rfl, by decide, by decide, by decide +kernel⟩
theorem v_B_59 : kx_LV R_B 59 1 Y_B_carOf := ⟨rfl, k_B_carOf, kx_in 340 (by decide +kernel) rfl, kx_in 342 (by decide +kernel) rfl, kx_inS (y_B_carOf, 9) (by decide +kernel), kx_in 1 (by decide +kernel) rfl, rfl, by decide, by decide, by decide +kernel⟩
theorem v_B_63 : kx_LV R_B 63 1 Y_B_trueRun := ⟨rfl, k_B_trueRun, kx_in 87 (by decide +kernel) rfl, kx_in 89 (by decide +kernel) rfl, kx_inS (y_B_trueRun, 9) (by decide +kernel), kx_in 1 (by decide +kernel) rfl, rfl, by decide, by decide, by decide +kernel⟩
theorem v_B_67 : kx_LV R_B 67 1 Y_R_numberOf := ⟨rfl, k_R_numberOf, kx_in 365 (by decide +kernel) rfl, kx_in 366 (by decide +kernel) rfl, kx_in 367 (by decide +kernel) rfl, kx_in 2 (by decide +kernel) rfl, rfl, by decide, by decide, by decide +kernel⟩
theorem v_B_73 : kx_LV R_B 73 0 Y_B_freeNumber := ⟨rfl, k_B_freeNumber, kx_in 370 (by decide +kernel) rfl, kx_in 372 (by decide +kernel) rfl, kx_inS (y_B_freeNumber, 9) (by decide +kernel), kx_in 1 (by decide +kernel) rfl, rfl, by decide, by decide, by decide +kernel⟩
theorem v_B_83 : kx_LV R_B 83 2 Y_N_join := ⟨rfl, k_N_join, kx_in 374 (by decide +kernel) rfl, kx_in 375 (by decide +kernel) rfl, kx_in 376 (by decide +kernel) rfl, kx_in 10 (by decide +kernel) rfl, rfl, by decide, by decide, by decide +kernel⟩
theorem v_B_92 : kx_LV R_B 92 0 Y_N_part := ⟨rfl, k_N_part, kx_in 386 (by decide +kernel) rfl, kx_in 387 (by decide +kernel) rfl, kx_in 388 (by decide +kernel) rfl, kx_in 10 (by decide +kernel) rfl, rfl, by decide, by decide, by decide +kernel⟩
theorem v_B_95 : kx_LV R_B 95 0 Y_C_forget := ⟨rfl, k_C_forget, kx_in 397 (by decide +kernel) rfl, kx_in 398 (by decide +kernel) rfl, kx_in 399 (by decide +kernel) rfl, kx_in 9 (by decide +kernel) rfl, rfl, by decide, by decide, by decide +kernel⟩
theorem v_B_100 : kx_LV R_B 100 1 Y_B_playRound := ⟨rfl, k_B_playRound, kx_in 415 (by decide +kernel) rfl, kx_in 417 (by decide +kernel) rfl, kx_inS (y_B_playRound, 9) (by decide +kernel), kx_in 1 (by decide +kernel) rfl, rfl, by decide, by decide, by decide +kernel⟩
theorem v_B_111 : kx_LV R_B 111 1 Y_C_fact := ⟨rfl, k_C_fact, kx_in 511 (by decide +kernel) rfl, kx_in 512 (by decide +kernel) rfl, kx_in 513 (by decide +kernel) rfl, kx_in 9 (by decide +kernel) rfl, rfl, by decide, by decide, by decide +kernel⟩
theorem v_B_117 : kx_LV R_B 117 1 Y_R_idAt := ⟨rfl, k_R_idAt, kx_in 527 (by decide +kernel) rfl, kx_in 480 (by decide +kernel) rfl, kx_in 481 (by decide +kernel) rfl, kx_in 2 (by decide +kernel) rfl, rfl, by decide, by decide, by decide +kernel⟩
theorem v_B_123 : kx_LV R_B 123 1 Y_R_itemAt := ⟨rfl, k_R_itemAt, kx_in 535 (by decide +kernel) rfl, kx_in 536 (by decide +kernel) rfl, kx_in 537 (by decide +kernel) rfl, kx_in 2 (by decide +kernel) rfl, rfl, by decide, by decide, by decide +kernel⟩
theorem v_B_128 : kx_LV R_B 128 2 Y_C_replaceByte := ⟨rfl, k_C_replaceByte, kx_in 547 (by decide +kernel) rfl, kx_in 548 (by decide +kernel) rfl, kx_in 549 (by decide +kernel) rfl, kx_in 9 (by decide +kernel) rfl, rfl, by decide, by decide, by decide +kernel⟩
theorem v_B_134 : kx_LV R_B 134 2 Y_C_known := ⟨rfl, k_C_known, kx_in 562 (by decide +kernel) rfl, kx_in 563 (by decide +kernel) rfl, kx_in 564 (by decide +kernel) rfl, kx_in 9 (by decide +kernel) rfl, rfl, by decide, by decide, by decide +kernel⟩
theorem v_B_139 : kx_LV R_B 139 1 Y_B_carWithId := ⟨rfl, k_B_carWithId, kx_in 344 (by decide +kernel) rfl, kx_in 346 (by decide +kernel) rfl, kx_inS (y_B_carWithId, 9) (by decide +kernel), kx_in 1 (by decide +kernel) rfl, rfl, by decide, by decide, by decide +kernel⟩
theorem v_B_142 : kx_LV R_B 142 1 Y_R_endAt := ⟨rfl, k_R_endAt, kx_in 574 (by decide +kernel) rfl, kx_in 517 (by decide +kernel) rfl, kx_in 518 (by decide +kernel) rfl, kx_in 2 (by decide +kernel) rfl, rfl, by decide, by decide, by decide +kernel⟩
theorem v_B_145 : kx_LV R_B 145 1 Y_C_hasFunction := ⟨rfl, k_C_hasFunction, kx_in 575 (by decide +kernel) rfl, kx_in 576 (by decide +kernel) rfl, kx_in 577 (by decide +kernel) rfl, kx_in 9 (by decide +kernel) rfl, rfl, by decide, by decide, by decide +kernel⟩
theorem v_B_149 : kx_LV R_B 149 0 Y_C_state := ⟨rfl, k_C_state, kx_in 74 (by decide +kernel) rfl, kx_in 75 (by decide +kernel) rfl, kx_in 76 (by decide +kernel) rfl, kx_in 9 (by decide +kernel) rfl, rfl, by decide, by decide, by decide +kernel⟩
theorem v_B_152 : kx_LV R_B 152 1 Y_R_isSameAs := ⟨rfl, k_R_isSameAs, kx_in 103 (by decide +kernel) rfl, kx_in 84 (by decide +kernel) rfl, kx_in 85 (by decide +kernel) rfl, kx_in 2 (by decide +kernel) rfl, rfl, by decide, by decide, by decide +kernel⟩
theorem v_B_169 : kx_LV R_B 169 0 Y_N_outermost := ⟨rfl, k_N_outermost, kx_in 91 (by decide +kernel) rfl, kx_in 92 (by decide +kernel) rfl, kx_in 93 (by decide +kernel) rfl, kx_in 10 (by decide +kernel) rfl, rfl, by decide, by decide, by decide +kernel⟩
theorem v_B_176 : kx_LV R_B 176 0 Y_R_clear := ⟨rfl, k_R_clear, kx_in 95 (by decide +kernel) rfl, kx_in 96 (by decide +kernel) rfl, kx_in 97 (by decide +kernel) rfl, kx_in 2 (by decide +kernel) rfl, rfl, by decide, by decide, by decide +kernel⟩
theorem v_B_179 : kx_LV R_B 179 1 Y_R_append := ⟨rfl, k_R_append, kx_in 99 (by decide +kernel) rfl, kx_in 100 (by decide +kernel) rfl, kx_in 101 (by decide +kernel) rfl, kx_in 2 (by decide +kernel) rfl, rfl, by decide, by decide, by decide +kernel⟩
theorem v_B_186 : kx_LV R_B 186 0 Y_C_makeFrames := ⟨rfl, k_C_makeFrames, kx_in 419 (by decide +kernel) rfl, kx_in 420 (by decide +kernel) rfl, kx_in 421 (by decide +kernel) rfl, kx_in 9 (by decide +kernel) rfl, rfl, by decide, by decide, by decide +kernel⟩
theorem v_B_189 : kx_LV R_B 189 2 Y_C_listen := ⟨rfl, k_C_listen, kx_in 435 (by decide +kernel) rfl, kx_in 436 (by decide +kernel) rfl, kx_in 437 (by decide +kernel) rfl, kx_in 9 (by decide +kernel) rfl, rfl, by decide, by decide, by decide +kernel⟩
theorem o_C_3 : Cond.methodLink R_C 3 Lib.objectInit ∈ kx_WS := kx_in 201 (by decide +kernel) rfl
theorem i_C_24 : kx_LI R_C 24 1 Y_N_init := ⟨rfl, rfl, rfl, k_N_init, kx_in 205 (by decide +kernel) rfl, kx_in 206 (by decide +kernel) rfl, kx_in 10 (by decide +kernel) rfl, by decide, by decide, by decide +kernel⟩
theorem i_C_33 : kx_LI R_C 33 0 Y_R_init := ⟨rfl, rfl, rfl, k_R_init, kx_in 288 (by decide +kernel) rfl, kx_in 29 (by decide +kernel) rfl, kx_in 2 (by decide +kernel) rfl, by decide, by decide, by decide +kernel⟩
theorem s_C_48 : kx_LS R_C 48 2 Y_A_fill := ⟨rfl, k_A_fill, kx_in 289 (by decide +kernel) rfl, kx_in 290 (by decide +kernel) rfl, kx_in 12 (by decide +kernel) rfl, by decide, by decide, by decide +kernel⟩
theorem v_C_54 : kx_LV R_C 54 0 Y_N_forget := ⟨rfl, k_N_forget, kx_in 401 (by decide +kernel) rfl, kx_in 402 (by decide +kernel) rfl, kx_in 403 (by decide +kernel) rfl, kx_in 10 (by decide +kernel) rfl, rfl, by decide, by decide, by decide +kernel⟩
theorem v_C_57 : kx_LV R_C 57 0 Y_R_clear := ⟨rfl, k_R_clear, kx_in 406 (by decide +kernel) rfl, kx_in 96 (by decide +kernel) rfl, kx_in 97 (by decide +kernel) rfl, kx_in 2 (by decide +kernel) rfl, rfl, by decide, by decide, by decide +kernel⟩
theorem s_C_72 : kx_LS R_C 72 2 Y_C_byteOf := ⟨rfl, k_C_byteOf, kx_in 551 (by decide +kernel) rfl, kx_in 552 (by decide +kernel) rfl, kx_in 9 (by decide +kernel) rfl, by decide, by decide, by decide +kernel⟩
theorem v_C_79 : kx_LV R_C 79 0 Y_C_state := ⟨rfl, k_C_state, kx_in 515 (by decide +kernel) rfl, kx_in 75 (by decide +kernel) rfl, kx_in 76 (by decide +kernel) rfl, kx_in 9 (by decide +kernel) rfl, rfl, by decide, by decide, by decide +kernel⟩
theorem v_C_83 : kx_LV R_C 83 1 Y_R_endAt := ⟨rfl, k_R_endAt, kx_in 516 (by decide +kernel) rfl, kx_in 517 (by decide +kernel) rfl, kx_in 518 (by decide +kernel) rfl, kx_in 2 (by decide +kernel) rfl, rfl, by decide, by decide, by decide +kernel⟩
theorem v_C_97 : kx_LV R_C 97 1 Y_C_agreesAt := ⟨rfl, k_C_agreesAt, kx_in 78 (by decide +kernel) rfl, kx_in 80 (by decide +kernel) rfl, kx_inS (y_C_agreesAt, 11) (by decide +kernel), kx_in 9 (by decide +kernel) rfl, rfl, by decide, by decide, by decide +kernel⟩
theorem v_C_104 : kx_LV R_C 104 1 Y_R_isSameAs := ⟨rfl, k_R_isSameAs, kx_in 83 (by decide +kernel) rfl, kx_in 84 (by decide +kernel) rfl, kx_in 85 (by decide +kernel) rfl, kx_in 2 (by decide +kernel) rfl, rfl, by decide, by decide, by decide +kernel⟩
theorem v_C_111 : kx_LV R_C 111 1 Y_C_fillFrame := ⟨rfl, k_C_fillFrame, kx_in 423 (by decide +kernel) rfl, kx_in 425 (by decide +kernel) rfl, kx_inS (y_C_fillFrame, 11) (by decide +kernel), kx_in 9 (by decide +kernel) rfl, rfl, by decide, by decide, by decide +kernel⟩
theorem v_C_128 : kx_LV R_C 128 1 Y_R_copyFrom := ⟨rfl, k_R_copyFrom, kx_in 427 (by decide +kernel) rfl, kx_in 428 (by decide +kernel) rfl, kx_in 429 (by decide +kernel) rfl, kx_in 2 (by decide +kernel) rfl, rfl, by decide, by decide, by decide +kernel⟩
theorem cp_C_135 : kx_CP R_C 135 := ⟨kx_in 434 (by decide +kernel) rfl, kx_in 433 (by decide +kernel) rfl, kx_in 432 (by decide +kernel) rfl, kx_in 14 (by decide +kernel) rfl⟩
theorem v_C_142 : kx_LV R_C 142 1 Y_N_incoming := ⟨rfl, k_N_incoming, kx_in 439 (by decide +kernel) rfl, kx_in 440 (by decide +kernel) rfl, kx_in 441 (by decide +kernel) rfl, kx_in 10 (by decide +kernel) rfl, rfl, by decide, by decide, by decide +kernel⟩
theorem v_C_146 : kx_LV R_C 146 1 Y_N_lookInto := ⟨rfl, k_N_lookInto, kx_in 443 (by decide +kernel) rfl, kx_in 444 (by decide +kernel) rfl, kx_in 445 (by decide +kernel) rfl, kx_in 10 (by decide +kernel) rfl, rfl, by decide, by decide, by decide +kernel⟩
theorem v_C_150 : kx_LV R_C 150 1 Y_C_renewDirectory := ⟨rfl, k_C_renewDirectory, kx_in 461 (by decide +kernel) rfl, kx_in 463 (by decide +kernel) rfl, kx_inS (y_C_renewDirectory, 11) (by decide +kernel), kx_in 9 (by decide +kernel) rfl, rfl, by decide, by decide, by decide +kernel⟩
theorem v_C_154 : kx_LV R_C 154 0 Y_C_growOlder := ⟨rfl, k_C_growOlder, kx_in 484 (by decide +kernel) rfl, kx_in 486 (by decide +kernel) rfl, kx_inS (y_C_growOlder, 11) (by decide +kernel), kx_in 9 (by decide +kernel) rfl, rfl, by decide, by decide, by decide +kernel⟩
theorem v_C_157 : kx_LV R_C 157 1 Y_C_heed := ⟨rfl, k_C_heed, kx_in 488 (by decide +kernel) rfl, kx_in 490 (by decide +kernel) rfl, kx_inS (y_C_heed, 11) (by decide +kernel), kx_in 9 (by decide +kernel) rfl, rfl, by decide, by decide, by decide +kernel⟩
theorem v_C_161 : kx_LV R_C 161 1 Y_C_draftDirectory := ⟨rfl, k_C_draftDirectory, kx_in 465 (by decide +kernel) rfl, kx_in 467 (by decide +kernel) rfl, kx_inS (y_C_draftDirectory, 11) (by decide +kernel), kx_in 9 (by decide +kernel) rfl, rfl, by decide, by decide, by decide +kernel⟩
theorem v_C_164 : kx_LV R_C 164 1 Y_R_numberOf := ⟨rfl, k_R_numberOf, kx_in 483 (by decide +kernel) rfl, kx_in 366 (by decide +kernel) rfl, kx_in 367 (by decide +kernel) rfl, kx_in 2 (by decide +kernel) rfl, rfl, by decide, by decide, by decide +kernel⟩
theorem v_C_167 : kx_LV R_C 167 0 Y_R_turnRound := ⟨rfl, k_R_turnRound, kx_in 469 (by decide +kernel) rfl, kx_in 470 (by decide +kernel) rfl, kx_in 471 (by decide +kernel) rfl, kx_in 2 (by decide +kernel) rfl, rfl, by decide, by decide, by decide +kernel⟩
theorem v_C_170 : kx_LV R_C 170 1 Y_R_append := ⟨rfl, k_R_append, kx_in 473 (by decide +kernel) rfl, kx_in 100 (by decide +kernel) rfl, kx_in 101 (by decide +kernel) rfl, kx_in 2 (by decide +kernel) rfl, rfl, by decide, by decide, by decide +kernel⟩
theorem v_C_173 : kx_LV R_C 173 1 Y_R_appendAll := ⟨rfl, k_R_appendAll, kx_in 474 (by decide +kernel) rfl, kx_in 456 (by decide +kernel) rfl, kx_in 457 (by decide +kernel) rfl, kx_in 2 (by decide +kernel) rfl, rfl, by decide, by decide, by decide +kernel⟩
theorem v_C_176 : kx_LV R_C 176 1 Y_R_hasCarTwice := ⟨rfl, k_R_hasCarTwice, kx_in 475 (by decide +kernel) rfl, kx_in 476 (by decide +kernel) rfl, kx_in 477 (by decide +kernel) rfl, kx_in 2 (by decide +kernel) rfl, rfl, by decide, by decide, by decide +kernel⟩
theorem v_C_180 : kx_LV R_C 180 1 Y_R_idAt := ⟨rfl, k_R_idAt, kx_in 479 (by decide +kernel) rfl, kx_in 480 (by decide +kernel) rfl, kx_in 481 (by decide +kernel) rfl, kx_in 2 (by decide +kernel) rfl, rfl, by decide, by decide, by decide +kernel⟩
theorem v_C_183 : kx_LV R_C 183 1 Y_C_takeNews := ⟨rfl, k_C_takeNews, kx_in 492 (by decide +kernel) rfl, kx_in 494 (by decide +kernel) rfl, kx_inS (y_C_takeNews, 11) (by decide +kernel), kx_in 9 (by decide +kernel) rfl, rfl, by decide, by decide, by decide +kernel⟩
theorem o_N_3 : Cond.methodLink R_N 3 Lib.objectInit ∈ kx_WS := kx_in 208 (by decide +kernel) rfl
theorem i_N_17 : kx_LI R_N 17 0 Y_R_init := ⟨rfl, rfl, rfl, k_R_init, kx_in 210 (by decide +kernel) rfl, kx_in 29 (by decide +kernel) rfl, kx_in 2 (by decide +kernel) rfl, by decide, by decide, by decide +kernel⟩
theorem i_N_27 : kx_LI R_N 27 0 Y_F_init := ⟨rfl, rfl, rfl, k_F_init, kx_in 213 (by decide +kernel) rfl, kx_in 214 (by decide +kernel) rfl, kx_in 11 (by decide +kernel) rfl, by decide, by decide, by decide +kernel⟩
theorem v_N_39 : kx_LV R_N 39 0 Y_R_clear := ⟨rfl, k_R_clear, kx_in 405 (by decide +kernel) rfl, kx_in 96 (by decide +kernel) rfl, kx_in 97 (by decide +kernel) rfl, kx_in 2 (by decide +kernel) rfl, rfl, by decide, by decide, by decide +kernel⟩
theorem v_N_52 : kx_LV R_N 52 0 Y_N_fallSilent := ⟨rfl, k_N_fallSilent, kx_in 447 (by decide +kernel) rfl, kx_in 449 (by decide +kernel) rfl, kx_inS (y_N_fallSilent, 9) (by decide +kernel), kx_in 10 (by decide +kernel) rfl, rfl, by decide, by decide, by decide +kernel⟩
theorem v_N_58 : kx_LV R_N 58 1 Y_R_append := ⟨rfl, k_R_append, kx_in 454 (by decide +kernel) rfl, kx_in 100 (by decide +kernel) rfl, kx_in 101 (by decide +kernel) rfl, kx_in 2 (by decide +kernel) rfl, rfl, by decide, by decide, by decide +kernel⟩
theorem v_N_63 : kx_LV R_N 63 1 Y_R_appendAll := ⟨rfl, k_R_appendAll, kx_in 455 (by decide +kernel) rfl, kx_in 456 (by decide +kernel) rfl, kx_in 457 (by decide +kernel) rfl, kx_in 2 (by decide +kernel) rfl, rfl, by decide, by decide, by decide +kernel⟩
theorem v_N_71 : kx_LV R_N 71 1 Y_R_copyFrom := ⟨rfl, k_R_copyFrom, kx_in 460 (by decide +kernel) rfl, kx_in 428 (by decide +kernel) rfl, kx_in 429 (by decide +kernel) rfl, kx_in 2 (by decide +kernel) rfl, rfl, by decide, by decide, by decide +kernel⟩
theorem mn_N_74 : kx_MN R_N 74 := ⟨kx_in 451 (by decide +kernel) rfl, kx_in 452 (by decide +kernel) rfl, kx_in 15 (by decide +kernel) rfl, kx_in 453 (by decide +kernel) rfl⟩
theorem o_F_3 : Cond.methodLink R_F 3 Lib.objectInit ∈ kx_WS := kx_in 216 (by decide +kernel) rfl
theorem i_F_11 : kx_LI R_F 11 0 Y_R_init := ⟨rfl, rfl, rfl, k_R_init, kx_in 218 (by decide +kernel) rfl, kx_in 29 (by decide +kernel) rfl, kx_in 2 (by decide +kernel) rfl, by decide, by decide, by decide +kernel⟩
theorem o_R_3 : Cond.methodLink R_R 3 Lib.objectInit ∈ kx_WS := kx_in 31 (by decide +kernel) rfl
theorem mn_R_19 : kx_MN R_R 19 := ⟨kx_in 459 (by decide +kernel) rfl, kx_in 452 (by decide +kernel) rfl, kx_in 15 (by decide +kernel) rfl, kx_in 453 (by decide +kernel) rfl⟩
theorem cp_R_25 : kx_CP R_R 25 := ⟨kx_in 431 (by decide +kernel) rfl, kx_in 433 (by decide +kernel) rfl, kx_in 432 (by decide +kernel) rfl, kx_in 14 (by decide +kernel) rfl⟩
theorem v_L_7 : kx_LV R_L 7 2 Y_B_add := ⟨rfl, k_B_add, kx_in 109 (by decide +kernel) rfl, kx_in 110 (by decide +kernel) rfl, kx_in 111 (by decide +kernel) rfl, kx_in 1 (by decide +kernel) rfl, rfl, by decide, by decide, by decide +kernel⟩
theorem v_L_17 : kx_LV R_L 17 4 Y_B_couple := ⟨rfl, k_B_couple, kx_in 332 (by decide +kernel) rfl, kx_in 333 (by decide +kernel) rfl, kx_in 334 (by decide +kernel) rfl, kx_in 1 (by decide +kernel) rfl, rfl, by decide, by decide, by decide +kernel⟩
theorem v_L_23 : kx_LV R_L 23 2 Y_B_uncouple := ⟨rfl, k_B_uncouple, kx_in 381 (by decide +kernel) rfl, kx_in 382 (by decide +kernel) rfl, kx_in 383 (by decide +kernel) rfl, kx_in 1 (by decide +kernel) rfl, rfl, by decide, by decide, by decide +kernel⟩
theorem v_L_26 : kx_LV R_L 26 1 Y_B_reset := ⟨rfl, k_B_reset, kx_in 393 (by decide +kernel) rfl, kx_in 394 (by decide +kernel) rfl, kx_in 395 (by decide +kernel) rfl, kx_in 1 (by decide +kernel) rfl, rfl, by decide, by decide, by decide +kernel⟩
theorem v_L_30 : kx_LV R_L 30 2 Y_B_rounds := ⟨rfl, k_B_rounds, kx_in 410 (by decide +kernel) rfl, kx_in 411 (by decide +kernel) rfl, kx_in 412 (by decide +kernel) rfl, kx_in 1 (by decide +kernel) rfl, rfl, by decide, by decide, by decide +kernel⟩
theorem v_L_33 : kx_LV R_L 33 2 Y_B_coupling := ⟨rfl, k_B_coupling, kx_in 499 (by decide +kernel) rfl, kx_in 500 (by decide +kernel) rfl, kx_in 501 (by decide +kernel) rfl, kx_in 1 (by decide +kernel) rfl, rfl, by decide, by decide, by decide +kernel⟩
theorem v_L_36 : kx_LV R_L 36 2 Y_B_about := ⟨rfl, k_B_about, kx_in 506 (by decide +kernel) rfl, kx_in 507 (by decide +kernel) rfl, kx_in 508 (by decide +kernel) rfl, kx_in 1 (by decide +kernel) rfl, rfl, by decide, by decide, by decide +kernel⟩
theorem v_L_39 : kx_LV R_L 39 2 Y_B_directory := ⟨rfl, k_B_directory, kx_in 523 (by decide +kernel) rfl, kx_in 524 (by decide +kernel) rfl, kx_in 525 (by decide +kernel) rfl, kx_in 1 (by decide +kernel) rfl, rfl, by decide, by decide, by decide +kernel⟩
theorem v_L_42 : kx_LV R_L 42 3 Y_B_view := ⟨rfl, k_B_view, kx_in 531 (by decide +kernel) rfl, kx_in 532 (by decide +kernel) rfl, kx_in 533 (by decide +kernel) rfl, kx_in 1 (by decide +kernel) rfl, rfl, by decide, by decide, by decide +kernel⟩
theorem v_L_46 : kx_LV R_L 46 3 Y_B_put := ⟨rfl, k_B_put, kx_in 542 (by decide +kernel) rfl, kx_in 543 (by decide +kernel) rfl, kx_in 544 (by decide +kernel) rfl, kx_in 1 (by decide +kernel) rfl, rfl, by decide, by decide, by decide +kernel⟩
theorem v_L_49 : kx_LV R_L 49 3 Y_B_get := ⟨rfl, k_B_get, kx_in 557 (by decide +kernel) rfl, kx_in 558 (by decide +kernel) rfl, kx_in 559 (by decide +kernel) rfl, kx_in 1 (by decide +kernel) rfl, rfl, by decide, by decide, by decide +kernel⟩
theorem v_L_52 : kx_LV R_L 52 3 Y_B_side := ⟨rfl, k_B_side, kx_in 569 (by decide +kernel) rfl, kx_in 570 (by decide +kernel) rfl, kx_in 571 (by decide +kernel) rfl, kx_in 1 (by decide +kernel) rfl, rfl, by decide, by decide, by decide +kernel⟩
theorem v_L_55 : kx_LV R_L 55 2 Y_B_order := ⟨rfl, k_B_order, kx_in 582 (by decide +kernel) rfl, kx_in 583 (by decide +kernel) rfl, kx_in 584 (by decide +kernel) rfl, kx_in 1 (by decide +kernel) rfl, rfl, by decide, by decide, by decide +kernel⟩
theorem v_L_58 : kx_LV R_L 58 1 Y_B_count := ⟨rfl, k_B_count, kx_in 589 (by decide +kernel) rfl, kx_in 590 (by decide +kernel) rfl, kx_in 591 (by decide +kernel) rfl, kx_in 1 (by decide +kernel) rfl, rfl, by decide, by decide, by decide +kernel⟩
theorem o_M_1 : Cond.methodLink R_M 1 Lib.objectInit ∈ kx_WS := kx_in 599 (by decide +kernel) rfl
theorem v_M_97 : kx_LV R_M 97 1 Y_M_find := ⟨rfl, k_M_find, kx_in 703 (by decide +kernel) rfl, kx_in 705 (by decide +kernel) rfl, kx_inS (y_M_find, 31) (by decide +kernel), kx_in 3 (by decide +kernel) rfl, rfl, by decide, by decide, by decide +kernel⟩
theorem v_M_101 : kx_LV R_M 101 3 Y_M_goes := ⟨rfl, k_M_goes, kx_in 707 (by decide +kernel) rfl, kx_in 709 (by decide +kernel) rfl, kx_inS (y_M_goes, 31) (by decide +kernel), kx_in 3 (by decide +kernel) rfl, rfl, by decide, by decide, by decide +kernel⟩
theorem v_M_105 : kx_LV R_M 105 1 Y_M_forget := ⟨rfl, k_M_forget, kx_in 711 (by decide +kernel) rfl, kx_in 713 (by decide +kernel) rfl, kx_inS (y_M_forget, 31) (by decide +kernel), kx_in 3 (by decide +kernel) rfl, rfl, by decide, by decide, by decide +kernel⟩
theorem v_M_109 : kx_LV R_M 109 1 Y_M_turn := ⟨rfl, k_M_turn, kx_in 730 (by decide +kernel) rfl, kx_in 732 (by decide +kernel) rfl, kx_inS (y_M_turn, 31) (by decide +kernel), kx_in 3 (by decide +kernel) rfl, rfl, by decide, by decide, by decide +kernel⟩
theorem v_M_112 : kx_LV R_M 112 1 Y_M_run := ⟨rfl, k_M_run, kx_in 726 (by decide +kernel) rfl, kx_in 728 (by decide +kernel) rfl, kx_inS (y_M_run, 31) (by decide +kernel), kx_in 3 (by decide +kernel) rfl, rfl, by decide, by decide, by decide +kernel⟩
theorem s_M_115 : kx_LS R_M 115 1 Y_M_isEnd := ⟨rfl, k_M_isEnd, kx_in 719 (by decide +kernel) rfl, kx_in 720 (by decide +kernel) rfl, kx_in 3 (by decide +kernel) rfl, by decide, by decide, by decide +kernel⟩
theorem v_M_119 : kx_LV R_M 119 2 Y_M_together := ⟨rfl, k_M_together, kx_in 722 (by decide +kernel) rfl, kx_in 724 (by decide +kernel) rfl, kx_inS (y_M_together, 31) (by decide +kernel), kx_in 3 (by decide +kernel) rfl, rfl, by decide, by decide, by decide +kernel⟩
theorem v_M_126 : kx_LV R_M 126 2 Y_M_hears := ⟨rfl, k_M_hears, kx_in 754 (by decide +kernel) rfl, kx_in 756 (by decide +kernel) rfl, kx_inS (y_M_hears, 31) (by decide +kernel), kx_in 3 (by decide +kernel) rfl, rfl, by decide, by decide, by decide +kernel⟩
theorem v_M_129 : kx_LV R_M 129 1 Y_M_seen := ⟨rfl, k_M_seen, kx_in 766 (by decide +kernel) rfl, kx_in 768 (by decide +kernel) rfl, kx_inS (y_M_seen, 31) (by decide +kernel), kx_in 3 (by decide +kernel) rfl, rfl, by decide, by decide, by decide +kernel⟩
theorem v_M_132 : kx_LV R_M 132 1 Y_M_agrees := ⟨rfl, k_M_agrees, kx_in 774 (by decide +kernel) rfl, kx_in 776 (by decide +kernel) rfl, kx_inS (y_M_agrees, 31) (by decide +kernel), kx_in 3 (by decide +kernel) rfl, rfl, by decide, by decide, by decide +kernel⟩
theorem v_M_135 : kx_LV R_M 135 2 Y_M_place := ⟨rfl, k_M_place, kx_in 778 (by decide +kernel) rfl, kx_in 780 (by decide +kernel) rfl, kx_inS (y_M_place, 31) (by decide +kernel), kx_in 3 (by decide +kernel) rfl, rfl, by decide, by decide, by decide +kernel⟩
theorem v_M_139 : kx_LV R_M 139 0 Y_M_copy := ⟨rfl, k_M_copy, kx_in 750 (by decide +kernel) rfl, kx_in 752 (by decide +kernel) rfl, kx_inS (y_M_copy, 31) (by decide +kernel), kx_in 3 (by decide +kernel) rfl, rfl, by decide, by decide, by decide +kernel⟩
theorem v_M_142 : kx_LV R_M 142 2 Y_M_look := ⟨rfl, k_M_look, kx_in 758 (by decide +kernel) rfl, kx_in 760 (by decide +kernel) rfl, kx_inS (y_M_look, 31) (by decide +kernel), kx_in 3 (by decide +kernel) rfl, rfl, by decide, by decide, by decide +kernel⟩
theorem v_M_146 : kx_LV R_M 146 1 Y_M_settle := ⟨rfl, k_M_settle, kx_in 762 (by decide +kernel) rfl, kx_in 764 (by decide +kernel) rfl, kx_inS (y_M_settle, 31) (by decide +kernel), kx_in 3 (by decide +kernel) rfl, rfl, by decide, by decide, by decide +kernel⟩
theorem v_M_149 : kx_LV R_M 149 2 Y_M_learn := ⟨rfl, k_M_learn, kx_in 770 (by decide +kernel) rfl, kx_in 772 (by decide +kernel) rfl, kx_inS (y_M_learn, 31) (by decide +kernel), kx_in 3 (by decide +kernel) rfl, rfl, by decide, by decide, by decide +kernel⟩
theorem v_M_158 : kx_LV R_M 158 1 Y_M_round := ⟨rfl, k_M_round, kx_in 746 (by decide +kernel) rfl, kx_in 748 (by decide +kernel) rfl, kx_inS (y_M_round, 31) (by decide +kernel), kx_in 3 (by decide +kernel) rfl, rfl, by decide, by decide, by decide +kernel⟩
theorem v_M_161 : kx_LV R_M 161 1 Y_M_stateOf := ⟨rfl, k_M_stateOf, kx_in 790 (by decide +kernel) rfl, kx_in 792 (by decide +kernel) rfl, kx_inS (y_M_stateOf, 31) (by decide +kernel), kx_in 3 (by decide +kernel) rfl, rfl, by decide, by decide, by decide +kernel⟩
theorem o_im : Cond.instanceMethod Lib.objectInit ∈ kx_WS := kx_in 22 (by decide +kernel) rfl
theorem o_cd : Cond.code Lib.objectInit ⟨#[0xb1]⟩ 1 none ∈ kx_WS := kx_in 23 (by decide +kernel) rfl
theorem n_B_9 : kx_N R_B 9 0 [.int 0, .int 0, .null, .null, .null, .null, .null, .int 0, .int 0, .int 0, .int 0] := ⟨_, _, _, ty_C, rfl, ty_C_ok, u_C, kx_in 24 (by decide +kernel) rfl, kx_in 81 (by decide +kernel) rfl, kx_in 9 (by decide +kernel) rfl, rfl, by decide +kernel⟩
theorem q_B_9 : Cond.classLink R_B 9 "ConsistBus$Car" ∈ kx_WS := kx_in 24 (by decide +kernel) rfl
theorem n_B_22 : kx_N R_B 22 3 [.null, .int 0] := ⟨_, _, _, ty_R, rfl, ty_R_ok, u_R, kx_in 26 (by decide +kernel) rfl, kx_in 27 (by decide +kernel) rfl, kx_in 2 (by decide +kernel) rfl, rfl, by decide +kernel⟩
theorem n_C_18 : kx_N R_C 18 1 [.int 0, .null, .null, .null, .null, .null, .int 0, .int 0, .int 0] := ⟨_, _, _, ty_N, rfl, ty_N_ok, u_N, kx_in 202 (by decide +kernel) rfl, kx_in 204 (by decide +kernel) rfl, kx_in 10 (by decide +kernel) rfl, rfl, by decide +kernel⟩
theorem q_C_18 : Cond.classLink R_C 18 "ConsistBus$End" ∈ kx_WS := kx_in 202 (by decide +kernel) rfl
theorem n_C_31 : kx_N R_C 31 3 [.null, .int 0] := ⟨_, _, _, ty_R, rfl, ty_R_ok, u_R, kx_in 287 (by decide +kernel) rfl, kx_in 27 (by decide +kernel) rfl, kx_in 2 (by decide +kernel) rfl, rfl, by decide +kernel⟩
theorem n_N_15 : kx_N R_N 15 3 [.null, .int 0] := ⟨_, _, _, ty_R, rfl, ty_R_ok, u_R, kx_in 209 (by decide +kernel) rfl, kx_in 27 (by decide +kernel) rfl, kx_in 2 (by decide +kernel) rfl, rfl, by decide +kernel⟩
theorem n_N_25 : kx_N R_N 25 2 [.null, .null, .null, .null, .int 0, .int 0] := ⟨_, _, _, ty_F, rfl, ty_F_ok, u_F, kx_in 211 (by decide +kernel) rfl, kx_in 212 (by decide +kernel) rfl, kx_in 11 (by decide +kernel) rfl, rfl, by decide +kernel⟩
theorem n_F_9 : kx_N R_F 9 3 [.null, .int 0] := ⟨_, _, _, ty_R, rfl, ty_R_ok, u_R, kx_in 217 (by decide +kernel) rfl, kx_in 27 (by decide +kernel) rfl, kx_in 2 (by decide +kernel) rfl, rfl, by decide +kernel⟩
theorem ac_boolean : Cond.arrayClass .boolean ∈ kx_WS := kx_in 40 (by decide +kernel) rfl
theorem ac_int : Cond.arrayClass .int ∈ kx_WS := kx_in 41 (by decide +kernel) rfl
theorem ac_long : Cond.arrayClass .long ∈ kx_WS := kx_in 826 (by decide +kernel) rfl
theorem ic_B_29 : Cond.constant R_B 29 (nI 65535) ∈ kx_WS := kx_in 113 (by decide +kernel) rfl
theorem ic_M_96 : Cond.constant R_M 96 (nI 65536) ∈ kx_WS := kx_in 702 (by decide +kernel) rfl
set_option maxRecDepth 20000 in
theorem t_B_32 : kx_TH R_B 30 32 34 "java/lang/IllegalArgumentException" "id or mask out of range" := ⟨by decide +kernel, kx_in 114 (by decide +kernel) rfl, kx_in 7 (by decide +kernel) rfl, by decide +kernel, by decide +kernel, by decide +kernel, by decide +kernel⟩
set_option maxRecDepth 20000 in
theorem t_B_43 : kx_TH R_B 41 43 45 "java/lang/IllegalStateException" "the id is taken, or the train is full" := ⟨by decide +kernel, kx_in 182 (by decide +kernel) rfl, kx_in 8 (by decide +kernel) rfl, by decide +kernel, by decide +kernel, by decide +kernel, by decide +kernel⟩
set_option maxRecDepth 20000 in
theorem t_B_71 : kx_TH R_B 41 71 45 "java/lang/IllegalStateException" "an end is coupled, or both cars are of one run" := ⟨by decide +kernel, kx_in 182 (by decide +kernel) rfl, kx_in 8 (by decide +kernel) rfl, by decide +kernel, by decide +kernel, by decide +kernel, by decide +kernel⟩
set_option maxRecDepth 20000 in
theorem t_B_163 : kx_TN R_B 158 163 162 "there is no such end" := ⟨kx_in 348 (by decide +kernel) rfl, kx_in 13 (by decide +kernel) rfl, by decide +kernel, by decide +kernel, by decide +kernel, by decide +kernel⟩
set_option maxRecDepth 20000 in
theorem t_B_160 : kx_TN R_B 158 160 162 "there is no such car" := ⟨kx_in 348 (by decide +kernel) rfl, kx_in 13 (by decide +kernel) rfl, by decide +kernel, by decide +kernel, by decide +kernel, by decide +kernel⟩
set_option maxRecDepth 20000 in
theorem t_B_87 : kx_TH R_B 41 87 45 "java/lang/IllegalStateException" "the end is not coupled" := ⟨by decide +kernel, kx_in 182 (by decide +kernel) rfl, kx_in 8 (by decide +kernel) rfl, by decide +kernel, by decide +kernel, by decide +kernel, by decide +kernel⟩
set_option maxRecDepth 20000 in
theorem t_B_98 : kx_TH R_B 30 98 34 "java/lang/IllegalArgumentException" "rounds out of range" := ⟨by decide +kernel, kx_in 114 (by decide +kernel) rfl, kx_in 7 (by decide +kernel) rfl, by decide +kernel, by decide +kernel, by decide +kernel, by decide +kernel⟩
set_option maxRecDepth 20000 in
theorem t_B_109 : kx_TH R_B 30 109 34 "java/lang/IllegalArgumentException" "there is no such fact" := ⟨by decide +kernel, kx_in 114 (by decide +kernel) rfl, kx_in 7 (by decide +kernel) rfl, by decide +kernel, by decide +kernel, by decide +kernel, by decide +kernel⟩
set_option maxRecDepth 20000 in
theorem t_B_126 : kx_TH R_B 30 126 34 "java/lang/IllegalArgumentException" "byte or value out of range" := ⟨by decide +kernel, kx_in 114 (by decide +kernel) rfl, kx_in 7 (by decide +kernel) rfl, by decide +kernel, by decide +kernel, by decide +kernel, by decide +kernel⟩
set_option maxRecDepth 20000 in
theorem t_B_132 : kx_TH R_B 30 132 34 "java/lang/IllegalArgumentException" "byte out of range" := ⟨by decide +kernel, kx_in 114 (by decide +kernel) rfl, kx_in 7 (by decide +kernel) rfl, by decide +kernel, by decide +kernel, by decide +kernel, by decide +kernel⟩
set_option maxRecDepth 20000 in
theorem t_B_137 : kx_TH R_B 30 137 34 "java/lang/IllegalArgumentException" "there is no such function" := ⟨by decide +kernel, kx_in 114 (by decide +kernel) rfl, kx_in 7 (by decide +kernel) rfl, by decide +kernel, by decide +kernel, by decide +kernel, by decide +kernel⟩
set_option maxRecDepth 20000 in
theorem t_B_156 : kx_TH R_B 30 156 34 "java/lang/IllegalArgumentException" "there is no such count" := ⟨by decide +kernel, kx_in 114 (by decide +kernel) rfl, kx_in 7 (by decide +kernel) rfl, by decide +kernel, by decide +kernel, by decide +kernel, by decide +kernel⟩
end
section
/-! the rules once more, for numbers that are small; what a write leaves -/
section KXW
variable {E : kx_E} {Y : kx_Y} {z : kx_Z} {pc : Nat} {L : kx_L} {st : List Value} {w : va_W} {kc ks : Nat} {Q : kx_O → va_W → Prop}
theorem kx_icmp_eq_n {a b : Nat} {off : Int} (tgt : Nat) (hd : decode Y.1 pc = .ok (.if_icmp .eq off, 3)) (ht : (pc : Int) + off = (tgt : Int)) (ha : a < 2 ^ 31) (hb : b < 2 ^ 31) (kt : a = b → kx_R E Y z tgt L st w kc ks Q) (kf : ¬ a = b → kx_R E Y z (pc + 3) L st w kc ks Q) : kx_R E Y z pc L (.int (nI b) :: .int (nI a) :: st) w kc ks Q :=
  kx_icmp_eq tgt hd ht (fun h => kt ((nI_eq ha hb).mp h)) (fun h => kf (fun e => h ((nI_eq ha hb).mpr e)))
theorem kx_icmp_ne_n {a b : Nat} {off : Int} (tgt : Nat) (hd : decode Y.1 pc = .ok (.if_icmp .ne off, 3)) (ht : (pc : Int) + off = (tgt : Int)) (ha : a < 2 ^ 31) (hb : b < 2 ^ 31) (kt : ¬ a = b → kx_R E Y z tgt L st w kc ks Q) (kf : a = b → kx_R E Y z (pc + 3) L st w kc ks Q) : kx_R E Y z pc L (.int (nI b) :: .int (nI a) :: st) w kc ks Q :=
  kx_icmp_ne tgt hd ht (fun h => kt (fun e => h ((nI_eq ha hb).mpr e))) (fun h => kf ((nI_eq ha hb).mp h))
theorem kx_icmp_lt_n {a b : Nat} {off : Int} (tgt : Nat) (hd : decode Y.1 pc = .ok (.if_icmp .lt off, 3)) (ht : (pc : Int) + off = (tgt : Int)) (ha : a < 2 ^ 31) (hb : b < 2 ^ 31) (kt : a < b → kx_R E Y z tgt L st w kc ks Q) (kf : b ≤ a → kx_R E Y z (pc + 3) L st w kc ks Q) : kx_R E Y z pc L (.int (nI b) :: .int (nI a) :: st) w kc ks Q :=
  kx_icmp_lt tgt hd ht (fun h => kt ((nI_ltI ha hb).mp h)) (fun h => kf (Nat.le_of_not_lt (fun e => h ((nI_ltI ha hb).mpr e))))
theorem kx_icmp_ge_n {a b : Nat} {off : Int} (tgt : Nat) (hd : decode Y.1 pc = .ok (.if_icmp .ge off, 3)) (ht : (pc : Int) + off = (tgt : Int)) (ha : a < 2 ^ 31) (hb : b < 2 ^ 31) (kt : b ≤ a → kx_R E Y z tgt L st w kc ks Q) (kf : a < b → kx_R E Y z (pc + 3) L st w kc ks Q) : kx_R E Y z pc L (.int (nI b) :: .int (nI a) :: st) w kc ks Q :=
  kx_icmp_ge tgt hd ht (fun h => kt ((nI_leI hb ha).mp h)) (fun h => kf (Nat.lt_of_not_le (fun e => h ((nI_leI hb ha).mpr e))))
theorem kx_icmp_gt_n {a b : Nat} {off : Int} (tgt : Nat) (hd : decode Y.1 pc = .ok (.if_icmp .gt off, 3)) (ht : (pc : Int) + off = (tgt : Int)) (ha : a < 2 ^ 31) (hb : b < 2 ^ 31) (kt : b < a → kx_R E Y z tgt L st w kc ks Q) (kf : a ≤ b → kx_R E Y z (pc + 3) L st w kc ks Q) : kx_R E Y z pc L (.int (nI b) :: .int (nI a) :: st) w kc ks Q :=
  kx_icmp_gt tgt hd ht (fun h => kt ((nI_ltI hb ha).mp h)) (fun h => kf (Nat.le_of_not_lt (fun e => h ((nI_ltI hb ha).mpr e))))
theorem kx_icmp_le_n {a b : Nat} {off : Int} (tgt : Nat) (hd : decode Y.1 pc = .ok (.if_icmp .le off, 3)) (ht : (pc : Int) + off = (tgt : Int)) (ha : a < 2 ^ 31) (hb : b < 2 ^ 31) (kt : a ≤ b → kx_R E Y z tgt L st w kc ks Q) (kf : b < a → kx_R E Y z (pc + 3) L st w kc ks Q) : kx_R E Y z pc L (.int (nI b) :: .int (nI a) :: st) w kc ks Q :=
  kx_icmp_le tgt hd ht (fun h => kt ((nI_leI ha hb).mp h)) (fun h => kf (Nat.lt_of_not_le (fun e => h ((nI_leI ha hb).mpr e))))
theorem kx_if_eq_n {a : Nat} {off : Int} (tgt : Nat) (hd : decode Y.1 pc = .ok (.ifCond .eq off, 3)) (ht : (pc : Int) + off = (tgt : Int)) (ha : a < 2 ^ 31) (kt : a = 0 → kx_R E Y z tgt L st w kc ks Q) (kf : ¬ a = 0 → kx_R E Y z (pc + 3) L st w kc ks Q) : kx_R E Y z pc L (.int (nI a) :: st) w kc ks Q :=
  kx_if_eq tgt hd ht (fun h => kt ((nI_eq ha (by decide)).mp h)) (fun h => kf (fun e => h ((nI_eq ha (by decide)).mpr e)))
theorem kx_if_ne_n {a : Nat} {off : Int} (tgt : Nat) (hd : decode Y.1 pc = .ok (.ifCond .ne off, 3)) (ht : (pc : Int) + off = (tgt : Int)) (ha : a < 2 ^ 31) (kt : ¬ a = 0 → kx_R E Y z tgt L st w kc ks Q) (kf : a = 0 → kx_R E Y z (pc + 3) L st w kc ks Q) : kx_R E Y z pc L (.int (nI a) :: st) w kc ks Q :=
  kx_if_ne tgt hd ht (fun h => kt (fun e => h ((nI_eq ha (by decide)).mpr e))) (fun h => kf ((nI_eq ha (by decide)).mp h))
theorem kx_if_lt_n {a : Nat} {off : Int} (tgt : Nat) (hd : decode Y.1 pc = .ok (.ifCond .lt off, 3)) (ht : (pc : Int) + off = (tgt : Int)) (ha : a < 2 ^ 31) (kf : kx_R E Y z (pc + 3) L st w kc ks Q) : kx_R E Y z pc L (.int (nI a) :: st) w kc ks Q :=
  kx_if_lt tgt hd ht (fun h => absurd h (nI_pos ha)) (fun _ => kf)
theorem kx_if_ge_n {a : Nat} {off : Int} (tgt : Nat) (hd : decode Y.1 pc = .ok (.ifCond .ge off, 3)) (ht : (pc : Int) + off = (tgt : Int)) (ha : a < 2 ^ 31) (kt : kx_R E Y z tgt L st w kc ks Q) : kx_R E Y z pc L (.int (nI a) :: st) w kc ks Q :=
  kx_if_ge tgt hd ht (fun _ => kt) (fun h => absurd (nI_pos' ha) h)
theorem kx_if_gt_n {a : Nat} {off : Int} (tgt : Nat) (hd : decode Y.1 pc = .ok (.ifCond .gt off, 3)) (ht : (pc : Int) + off = (tgt : Int)) (ha : a < 2 ^ 31) (kt : 0 < a → kx_R E Y z tgt L st w kc ks Q) (kf : a = 0 → kx_R E Y z (pc + 3) L st w kc ks Q) : kx_R E Y z pc L (.int (nI a) :: st) w kc ks Q :=
  kx_if_gt tgt hd ht (fun h => kt ((nI_ltI (by decide) ha).mp h)) (fun h => kf (Nat.eq_zero_of_not_pos (fun e => h ((nI_ltI (by decide) ha).mpr e))))
theorem kx_if_le_n {a : Nat} {off : Int} (tgt : Nat) (hd : decode Y.1 pc = .ok (.ifCond .le off, 3)) (ht : (pc : Int) + off = (tgt : Int)) (ha : a < 2 ^ 31) (kt : a = 0 → kx_R E Y z tgt L st w kc ks Q) (kf : 0 < a → kx_R E Y z (pc + 3) L st w kc ks Q) : kx_R E Y z pc L (.int (nI a) :: st) w kc ks Q :=
  kx_if_le tgt hd ht (fun h => kt (Nat.le_zero.mp ((nI_leI ha (by decide)).mp h))) (fun h => kf (Nat.pos_of_ne_zero (fun e => h ((nI_leI ha (by decide)).mpr (Nat.le_of_eq e)))))
theorem kx_xor (a b : Nat) : nI a ^^^ nI b = nI (a ^^^ b) := by
  apply Int32.toBitVec_inj.mp
  show BitVec.ofNat 32 a ^^^ BitVec.ofNat 32 b = BitVec.ofNat 32 (a ^^^ b)
  apply BitVec.eq_of_toNat_eq
  simp only [BitVec.toNat_xor, BitVec.toNat_ofNat]
  exact (Nat.xor_mod_two_pow).symm
theorem kx_shr1 {n : Nat} (h : n < 2 ^ 31) : nI n >>> (nI 1 &&& 31) = nI (n / 2) := pk_shrN h (nI 1 &&& 31) 1 (by decide +kernel)
theorem kx_and1 {n : Nat} (h : n < 2 ^ 31) : nI n &&& nI 1 = nI (n % 2) := pk_andN (m := nI 1) (by omega) 1 (by decide +kernel)
theorem kx_s1 {x : Nat} {c c1 : Nat × va_E} (h : w[x]? = some c) : (w.set x c1)[x]? = some c1 := List.getElem?_set_self (List.getElem?_eq_some_iff.mp h).1
theorem kx_s2 {x y : Nat} {c1 : Nat × va_E} {r : Option (Nat × va_E)} (hne : y ≠ x) (h : w[y]? = r) : (w.set x c1)[y]? = r := by rw [List.getElem?_set_ne (Ne.symm hne)]; exact h
theorem kx_ne {x y : Nat} {a b : Nat} {e1 e2 : va_E} (h1 : w[x]? = some (a, e1)) (h2 : w[y]? = some (b, e2)) (h : e1 ≠ e2) : x ≠ y := fun e => by subst e; rw [h1] at h2; cases h2; exact h rfl
/-- all but the named stays -/
def kx_off (w w1 : va_W) (P : Nat → Prop) : Prop := w1.length = w.length ∧ ∀ n, ¬ P n → w1[n]? = w[n]?
theorem kx_off.rf {P : Nat → Prop} : kx_off w w P := ⟨rfl, fun _ _ => rfl⟩
theorem kx_off.set {w1 : va_W} {P : Nat → Prop} {x : Nat} {c : Nat × va_E} (h : kx_off w w1 P) (hx : P x) : kx_off w (w1.set x c) P :=
  ⟨by rw [List.length_set]; exact h.1, fun n hn => by rw [List.getElem?_set_ne (fun e => hn (by rw [← e]; exact hx))]; exact h.2 n hn⟩
theorem kx_off.tr {w1 w2 : va_W} {P1 P2 P : Nat → Prop} (h1 : kx_off w w1 P1) (h2 : kx_off w1 w2 P2) (g1 : ∀ n, P1 n → P n) (g2 : ∀ n, P2 n → P n) : kx_off w w2 P :=
  ⟨h2.1.trans h1.1, fun n hn => (h2.2 n (fun e => hn (g2 n e))).trans (h1.2 n (fun e => hn (g1 n e)))⟩
theorem kx_off.at {w1 : va_W} {P : Nat → Prop} {n : Nat} {r : Option (Nat × va_E)} (h : kx_off w w1 P) (hn : ¬ P n) (hr : w[n]? = r) : w1[n]? = r := (h.2 n hn).trans hr
end KXW
section KXG
variable {E : kx_E} {Y : kx_Y} {z : kx_Z} {pc : Nat} {L : kx_L} {st : List Value} {w : va_W} {kc ks : Nat} {Q : kx_O → va_W → Prop}
theorem kx_rf (o : Option Nat) : (va_rf o).isRef = true := by cases o <;> rfl
theorem kx_rfc (o : Option Nat) : (va_rf o).category = 1 := by cases o <;> rfl
def kx_ag : Nat → List Value → kx_L
  | _, [] => []
  | i, v :: vs => (i, v) :: kx_ag (i + 1) vs
def kx_c1 (as : List Value) : Prop := ∀ v ∈ as, v.category = 1
theorem kx_ag_eq : ∀ (as : List Value) (i : Nat), kx_c1 as → lv_args i as = kx_ag i as
  | [], _, _ => rfl
  | v :: vs, i, h => by
    have h1 : v.category = 1 := h v List.mem_cons_self
    show (i, v) :: lv_args (if v.category = 2 then i + 2 else i + 1) vs = (i, v) :: kx_ag (i + 1) vs
    rw [h1, if_neg (by decide), kx_ag_eq vs (i + 1) (fun u hu => h u (List.mem_cons_of_mem _ hu))]
theorem kx_sl_len : ∀ (as : List Value), kx_c1 as → (lg_sl as).length = as.length
  | [], _ => rfl
  | v :: vs, h => by
    have h1 : v.category = 1 := h v List.mem_cons_self
    have h2 := kx_sl_len vs (fun u hu => h u (List.mem_cons_of_mem _ hu))
    unfold lg_sl at h2 ⊢
    rw [List.flatMap_cons, h1, if_neg (by decide), List.length_append, h2]
    simp [Nat.add_comm]
theorem kx_ag_in : ∀ (as : List Value) (i : Nat), kx_c1 as → ∀ q ∈ kx_ag i as, q.2.category = 1
  | [], _, _, q, hq => by cases hq
  | v :: vs, i, h, q, hq => by
    rcases List.mem_cons.mp hq with rfl | hq
    · exact h v List.mem_cons_self
    · exact kx_ag_in vs (i + 1) (fun u hu => h u (List.mem_cons_of_mem _ hu)) q hq
theorem kx_c0 : kx_c1 [] := fun _ h => by cases h
theorem kx_cc {v : Value} {as : List Value} (h : v.category = 1) (t : kx_c1 as) : kx_c1 (v :: as) := fun u hu => by
  rcases List.mem_cons.mp hu with rfl | hu
  · exact h
  · exact t u hu
theorem kx_go {as : List Value} (hy : plainName Y.2.2.2.2.1.cls = true) (hcls : Y.2.2.2.2.1.cls = Y.2.2.1) (hh : Y.2.2.2.2.2.2.2.2 = []) (hn : as.length ≤ Y.2.1) (hc : kx_c1 as)
    (body : ∀ z : kx_Z, kx_R E Y z 0 (kx_ag 0 as) [] w 0 0 Q) : kx_S E Y as w Q :=
  kx_of hy hcls hh (by rw [kx_sl_len as hc]; exact hn) (by rw [kx_ag_eq as 0 hc]; exact kx_ag_in as 0 hc) (by rw [kx_ag_eq as 0 hc]; exact body)
end KXG
end
section
/-! Row: a list of items, at most 24 -/
def RowAt (E : kx_E) (w : va_W) (x y h a : Nat) (l : List Nat) : Prop := w[x]? = some (h, .inr (3, [.ref a, .int (nI l.length)])) ∧ (∃ f, w[y]? = some (a, kx_ai E 24 f) ∧ ∀ k, k < l.length → f k = nI (l.getD k 0)) ∧ l.length ≤ 24 ∧ ∀ v ∈ l, v < 512
abbrev RowP (x y : Nat) : Nat → Prop := fun n => n = x ∨ n = y
def RowQ (E : kx_E) (w : va_W) (x y h a : Nat) (l : List Nat) : kx_O → va_W → Prop := fun o w1 => o = .inl none ∧ RowAt E w1 x y h a l ∧ kx_off w w1 (RowP x y)
def kx_Qi (w : va_W) (v : Int32) : kx_O → va_W → Prop := fun o w1 => o = .inl (some (.int v)) ∧ w1 = w
theorem RowAt.ne {E : kx_E} {w : va_W} {x y h a : Nat} {l : List Nat} (hR : RowAt E w x y h a l) : x ≠ y := by
  obtain ⟨h1, ⟨f, h2, -⟩, -⟩ := hR
  exact kx_ne h1 h2 (fun e => by cases e)
theorem RowAt.off {E : kx_E} {w w1 : va_W} {x y h a : Nat} {l : List Nat} {P : Nat → Prop} (hR : RowAt E w x y h a l) (ho : kx_off w w1 P) (hx : ¬ P x) (hy : ¬ P y) : RowAt E w1 x y h a l := by
  obtain ⟨h1, ⟨f, h2, h3⟩, h4⟩ := hR
  exact ⟨ho.at hx h1, ⟨f, ho.at hy h2, h3⟩, h4⟩
theorem row_get (l : List Nat) {k : Nat} (h : k < l.length) : l.getD k 0 ∈ l := by
  rw [List.getD_eq_getElem?_getD, List.getElem?_eq_getElem h]
  exact List.getElem_mem h

theorem d_R_clear_0 : decode c_R_clear 0 = .ok (.aload_n 0, 1) := by decide +kernel
theorem d_R_clear_1 : decode c_R_clear 1 = .ok (.iconst 0, 1) := by decide +kernel
theorem d_R_clear_2 : decode c_R_clear 2 = .ok (.putfield 15, 3) := by decide +kernel
theorem d_R_clear_5 : decode c_R_clear 5 = .ok (.return_, 1) := by decide +kernel
set_option maxHeartbeats 1000000 in
theorem m_R_clear {E : kx_E} {w : va_W} {x y h a : Nat} {l : List Nat} (hR : RowAt E w x y h a l) : kx_S E Y_R_clear [.ref h] w (RowQ E w x y h a []) := by
  refine kx_go (by decide) rfl rfl (Nat.le_of_ble_eq_true rfl) (kx_cc rfl kx_c0) (fun z => ?_)
  have hne := hR.ne
  obtain ⟨hO, ⟨f, hA, hf⟩, hl, hv⟩ := hR
  refine kx_aload_n d_R_clear_0 rfl (by first | rfl | exact kx_rf _) ?_
  refine kx_iconst (nI 0) d_R_clear_1 (by decide) ?_
  refine kx_put d_R_clear_2 f_R_15 (p_R_1 _) hO (by simp) ?_
  refine kx_vret d_R_clear_5 rfl (by decide) (by decide) ?_
  exact ⟨rfl, ⟨kx_s1 hO, ⟨f, kx_s2 (Ne.symm hne) hA, fun k hk => by cases hk⟩, by simp, fun v h => by cases h⟩, kx_off.rf.set (Or.inl rfl)⟩
theorem d_R_append_0 : decode c_R_append 0 = .ok (.aload_n 0, 1) := by decide +kernel
theorem d_R_append_1 : decode c_R_append 1 = .ok (.getfield 15, 3) := by decide +kernel
theorem d_R_append_4 : decode c_R_append 4 = .ok (.aload_n 0, 1) := by decide +kernel
theorem d_R_append_5 : decode c_R_append 5 = .ok (.getfield 9, 3) := by decide +kernel
theorem d_R_append_8 : decode c_R_append 8 = .ok (.arraylength, 1) := by decide +kernel
theorem d_R_append_9 : decode c_R_append 9 = .ok (.if_icmp .ge 23, 3) := by decide +kernel
theorem d_R_append_12 : decode c_R_append 12 = .ok (.aload_n 0, 1) := by decide +kernel
theorem d_R_append_13 : decode c_R_append 13 = .ok (.getfield 9, 3) := by decide +kernel
theorem d_R_append_16 : decode c_R_append 16 = .ok (.aload_n 0, 1) := by decide +kernel
theorem d_R_append_17 : decode c_R_append 17 = .ok (.getfield 15, 3) := by decide +kernel
theorem d_R_append_20 : decode c_R_append 20 = .ok (.iload_n 1, 1) := by decide +kernel
theorem d_R_append_21 : decode c_R_append 21 = .ok (.iastore, 1) := by decide +kernel
theorem d_R_append_22 : decode c_R_append 22 = .ok (.aload_n 0, 1) := by decide +kernel
theorem d_R_append_23 : decode c_R_append 23 = .ok (.dup, 1) := by decide +kernel
theorem d_R_append_24 : decode c_R_append 24 = .ok (.getfield 15, 3) := by decide +kernel
theorem d_R_append_27 : decode c_R_append 27 = .ok (.iconst 1, 1) := by decide +kernel
theorem d_R_append_28 : decode c_R_append 28 = .ok (.iadd, 1) := by decide +kernel
theorem d_R_append_29 : decode c_R_append 29 = .ok (.putfield 15, 3) := by decide +kernel
theorem d_R_append_32 : decode c_R_append 32 = .ok (.return_, 1) := by decide +kernel
set_option maxHeartbeats 1000000 in
theorem m_R_append {E : kx_E} {w : va_W} {x y h a : Nat} {l : List Nat} (hR : RowAt E w x y h a l) {v : Nat} (hv9 : v < 512) : kx_S E Y_R_append [.ref h, .int (nI v)] w (RowQ E w x y h a (if l.length < 24 then l ++ [v] else l)) := by
  refine kx_go (by decide) rfl rfl (Nat.le_of_ble_eq_true rfl) (kx_cc rfl (kx_cc rfl kx_c0)) (fun z => ?_)
  have hne := hR.ne
  have hR0 := hR
  obtain ⟨hO, ⟨f, hA, hf⟩, hl, hv⟩ := hR
  refine kx_aload_n d_R_append_0 rfl (by first | rfl | exact kx_rf _) ?_
  refine kx_get _ d_R_append_1 f_R_15 (by assumption) (by rfl) ?_
  refine kx_aload_n d_R_append_4 rfl (by first | rfl | exact kx_rf _) ?_
  refine kx_get _ d_R_append_5 f_R_9 (by assumption) (by rfl) ?_
  refine kx_alen (t := 0) d_R_append_8 (by assumption) rfl ?_
  first | refine kx_icmp_ge_n 32 d_R_append_9 (by decide) (by omega) (by omega) ?_ ?_ | refine kx_icmp_ge 32 d_R_append_9 (by decide) ?_ ?_
  · intro h9
    rw [if_neg (by omega)]
    exact kx_vret d_R_append_32 rfl (by decide) (by decide) ⟨rfl, hR0, kx_off.rf⟩
  · intro h9
    have h9 : l.length < 24 := h9
    rw [if_pos h9]
    refine kx_aload_n d_R_append_12 rfl (by first | rfl | exact kx_rf _) ?_
    refine kx_get _ d_R_append_13 f_R_9 (by assumption) (by rfl) ?_
    refine kx_aload_n d_R_append_16 rfl (by first | rfl | exact kx_rf _) ?_
    refine kx_get _ d_R_append_17 f_R_15 (by assumption) (by rfl) ?_
    refine kx_iload_n d_R_append_20 rfl ?_
    refine kx_iast d_R_append_21 hA h9 (by decide) ?_
    have hO1 := kx_s2 (c1 := (a, kx_ai E 24 (upd f l.length (nI v)))) hne hO
    have hA1 := kx_s1 (c1 := (a, kx_ai E 24 (upd f l.length (nI v)))) hA
    refine kx_aload_n d_R_append_22 rfl (by first | rfl | exact kx_rf _) ?_
    refine kx_dup d_R_append_23 (by first | rfl | exact kx_rfc _) ?_
    refine kx_get _ d_R_append_24 f_R_15 hO1 (by rfl) ?_
    refine kx_iconst (nI 1) d_R_append_27 (by decide) ?_
    first | refine kx_iadd _ d_R_append_28 (nI_add _ _) ?_ | refine kx_iadd _ d_R_append_28 rfl ?_
    refine kx_put d_R_append_29 f_R_15 (p_R_1 _) hO1 (by simp) ?_
    refine kx_vret d_R_append_32 rfl (by decide) (by decide) ⟨rfl, ⟨?_, ⟨_, kx_s2 (Ne.symm hne) hA1, ?_⟩, ?_, ?_⟩, (kx_off.rf.set (Or.inr rfl)).set (Or.inl rfl)⟩
    · rw [kx_s1 hO1, List.length_append]; rfl
    · intro k hk
      rw [List.length_append] at hk
      by_cases e : k = l.length
      · subst e; simp [upd]
      · have h1 : k < l.length := by simp at hk; omega
        rw [pk_un e, hf k h1]; simp [List.getElem?_append_left h1]
    · rw [List.length_append]; simp; omega
    · intro u hu
      rcases List.mem_append.mp hu with hu | hu
      · exact hv u hu
      · rw [List.mem_singleton.mp hu]; exact hv9
theorem d_R_numberOf_0 : decode c_R_numberOf 0 = .ok (.iconst 0, 1) := by decide +kernel
theorem d_R_numberOf_1 : decode c_R_numberOf 1 = .ok (.istore_n 2, 1) := by decide +kernel
theorem d_R_numberOf_2 : decode c_R_numberOf 2 = .ok (.iload_n 2, 1) := by decide +kernel
theorem d_R_numberOf_3 : decode c_R_numberOf 3 = .ok (.aload_n 0, 1) := by decide +kernel
theorem d_R_numberOf_4 : decode c_R_numberOf 4 = .ok (.getfield 15, 3) := by decide +kernel
theorem d_R_numberOf_7 : decode c_R_numberOf 7 = .ok (.if_icmp .ge 25, 3) := by decide +kernel
theorem d_R_numberOf_10 : decode c_R_numberOf 10 = .ok (.aload_n 0, 1) := by decide +kernel
theorem d_R_numberOf_11 : decode c_R_numberOf 11 = .ok (.getfield 9, 3) := by decide +kernel
theorem d_R_numberOf_14 : decode c_R_numberOf 14 = .ok (.iload_n 2, 1) := by decide +kernel
theorem d_R_numberOf_15 : decode c_R_numberOf 15 = .ok (.iaload, 1) := by decide +kernel
theorem d_R_numberOf_16 : decode c_R_numberOf 16 = .ok (.iconst 1, 1) := by decide +kernel
theorem d_R_numberOf_17 : decode c_R_numberOf 17 = .ok (.ishr, 1) := by decide +kernel
theorem d_R_numberOf_18 : decode c_R_numberOf 18 = .ok (.iload_n 1, 1) := by decide +kernel
theorem d_R_numberOf_19 : decode c_R_numberOf 19 = .ok (.if_icmp .ne 7, 3) := by decide +kernel
theorem d_R_numberOf_22 : decode c_R_numberOf 22 = .ok (.iload_n 2, 1) := by decide +kernel
theorem d_R_numberOf_23 : decode c_R_numberOf 23 = .ok (.iconst 1, 1) := by decide +kernel
theorem d_R_numberOf_24 : decode c_R_numberOf 24 = .ok (.iadd, 1) := by decide +kernel
theorem d_R_numberOf_25 : decode c_R_numberOf 25 = .ok (.ireturn, 1) := by decide +kernel
theorem d_R_numberOf_26 : decode c_R_numberOf 26 = .ok (.iinc 2 1, 3) := by decide +kernel
theorem d_R_numberOf_29 : decode c_R_numberOf 29 = .ok (.goto (-27), 3) := by decide +kernel
theorem d_R_numberOf_32 : decode c_R_numberOf 32 = .ok (.iconst 0, 1) := by decide +kernel
theorem d_R_numberOf_33 : decode c_R_numberOf 33 = .ok (.ireturn, 1) := by decide +kernel
/-- the place, from 1, of the first item with this id; 0 if there is none -/
def rowNo (id : Nat) : List Nat → Nat → Nat
  | [], _ => 0
  | v :: t, k => if v / 2 = id then k + 1 else rowNo id t (k + 1)
theorem rowNo_drop (id : Nat) (l : List Nat) (k : Nat) (h : k < l.length) : rowNo id (l.drop k) k = if l.getD k 0 / 2 = id then k + 1 else rowNo id (l.drop (k + 1)) (k + 1) := by
  have e : l.drop k = l.getD k 0 :: l.drop (k + 1) := by
    rw [List.drop_eq_getElem_cons h, List.getD_eq_getElem?_getD, List.getElem?_eq_getElem h]; rfl
  rw [e]; rfl
set_option maxHeartbeats 1000000 in
theorem l_R_numberOf {E : kx_E} {w : va_W} {x y h a : Nat} {l : List Nat} (hR : RowAt E w x y h a l) {z : kx_Z} {Q : kx_O → va_W → Prop} {id : Nat} (hid : id < 2 ^ 31) (hQ : Q (.inl (some (.int (nI (rowNo id l 0))))) w) : ∀ (n k : Nat), n + k = l.length → rowNo id l 0 = rowNo id (l.drop k) k → kx_R E Y_R_numberOf z 2 [(0, .ref h), (1, .int (nI id)), (2, .int (nI k))] [] w 0 0 Q := by
  obtain ⟨hO, ⟨f, hA, hf⟩, hl, hv⟩ := hR
  intro n
  induction n with
  | zero =>
    intro k hk hr
    have hkl : k = l.length := by omega
    rw [hkl, List.drop_length] at hr
    refine kx_iload_n d_R_numberOf_2 rfl ?_
    refine kx_aload_n d_R_numberOf_3 rfl (by first | rfl | exact kx_rf _) ?_
    refine kx_get _ d_R_numberOf_4 f_R_15 (by assumption) (by rfl) ?_
    first | refine kx_icmp_ge_n 32 d_R_numberOf_7 (by decide) (by omega) (by omega) ?_ ?_ | refine kx_icmp_ge 32 d_R_numberOf_7 (by decide) ?_ ?_
    · intro h7
      refine kx_iconst (nI 0) d_R_numberOf_32 (by decide) ?_
      refine kx_iret d_R_numberOf_33 rfl (by decide) (by decide) ?_
      rw [hr] at hQ
      exact hQ
    · intro h7
      exact absurd h7 (by omega)
  | succ n ih =>
    intro k hk hr
    have hk1 : k < l.length := by omega
    have hb : l.getD k 0 < 512 := hv _ (row_get l hk1)
    rw [rowNo_drop id l k hk1] at hr
    refine kx_iload_n d_R_numberOf_2 rfl ?_
    refine kx_aload_n d_R_numberOf_3 rfl (by first | rfl | exact kx_rf _) ?_
    refine kx_get _ d_R_numberOf_4 f_R_15 (by assumption) (by rfl) ?_
    first | refine kx_icmp_ge_n 32 d_R_numberOf_7 (by decide) (by omega) (by omega) ?_ ?_ | refine kx_icmp_ge 32 d_R_numberOf_7 (by decide) ?_ ?_
    · intro h7
      exact absurd h7 (by omega)
    · intro h7
      refine kx_aload_n d_R_numberOf_10 rfl (by first | rfl | exact kx_rf _) ?_
      refine kx_get _ d_R_numberOf_11 f_R_9 (by assumption) (by rfl) ?_
      refine kx_iload_n d_R_numberOf_14 rfl ?_
      refine kx_iald d_R_numberOf_15 (by assumption) (by omega) (by decide) ?_
      rw [hf k hk1]
      refine kx_iconst (nI 1) d_R_numberOf_16 (by decide) ?_
      first | refine kx_ishr _ d_R_numberOf_17 (kx_shr1 (by omega)) ?_ | refine kx_ishr _ d_R_numberOf_17 rfl ?_
      refine kx_iload_n d_R_numberOf_18 rfl ?_
      first | refine kx_icmp_ne_n 26 d_R_numberOf_19 (by decide) (by omega) (by omega) ?_ ?_ | refine kx_icmp_ne 26 d_R_numberOf_19 (by decide) ?_ ?_
      · intro h19
        refine kx_iinc _ d_R_numberOf_26 rfl (by decide) (nI_1 _) ?_
        refine kx_goto 2 d_R_numberOf_29 (by decide) ?_
        refine kx_loc (L1 := [(0, .ref h), (1, .int (nI id)), (2, .int (nI (k + 1)))]) ⟨rfl, rfl, rfl, trivial⟩ ?_
        rw [if_neg h19] at hr
        exact ih (k + 1) (by omega) hr
      · intro h19
        refine kx_iload_n d_R_numberOf_22 rfl ?_
        refine kx_iconst (nI 1) d_R_numberOf_23 (by decide) ?_
        first | refine kx_iadd _ d_R_numberOf_24 (nI_add _ _) ?_ | refine kx_iadd _ d_R_numberOf_24 rfl ?_
        rw [if_pos h19] at hr
        rw [hr] at hQ
        exact kx_iret d_R_numberOf_25 rfl (by decide) (by decide) hQ
theorem m_R_numberOf {E : kx_E} {w : va_W} {x y h a : Nat} {l : List Nat} (hR : RowAt E w x y h a l) {id : Nat} (hid : id < 2 ^ 31) : kx_S E Y_R_numberOf [.ref h, .int (nI id)] w (kx_Qi w (nI (rowNo id l 0))) := by
  refine kx_go (by decide) rfl rfl (Nat.le_of_ble_eq_true rfl) (kx_cc rfl (kx_cc rfl kx_c0)) (fun z => ?_)
  refine kx_iconst (nI 0) d_R_numberOf_0 (by decide) ?_
  refine kx_istore_n d_R_numberOf_1 (by decide) ?_
  refine kx_loc (L1 := [(0, .ref h), (1, .int (nI id)), (2, .int (nI 0))]) ⟨rfl, rfl, rfl, trivial⟩ ?_
  exact l_R_numberOf hR hid ⟨rfl, rfl⟩ l.length 0 rfl rfl
end
section
theorem d_R_isSameAs_0 : decode c_R_isSameAs 0 = .ok (.aload_n 0, 1) := by decide +kernel
theorem d_R_isSameAs_1 : decode c_R_isSameAs 1 = .ok (.getfield 15, 3) := by decide +kernel
theorem d_R_isSameAs_4 : decode c_R_isSameAs 4 = .ok (.aload_n 1, 1) := by decide +kernel
theorem d_R_isSameAs_5 : decode c_R_isSameAs 5 = .ok (.getfield 15, 3) := by decide +kernel
theorem d_R_isSameAs_8 : decode c_R_isSameAs 8 = .ok (.if_icmp .eq 5, 3) := by decide +kernel
theorem d_R_isSameAs_11 : decode c_R_isSameAs 11 = .ok (.iconst 0, 1) := by decide +kernel
theorem d_R_isSameAs_12 : decode c_R_isSameAs 12 = .ok (.ireturn, 1) := by decide +kernel
theorem d_R_isSameAs_13 : decode c_R_isSameAs 13 = .ok (.iconst 0, 1) := by decide +kernel
theorem d_R_isSameAs_14 : decode c_R_isSameAs 14 = .ok (.istore_n 2, 1) := by decide +kernel
theorem d_R_isSameAs_15 : decode c_R_isSameAs 15 = .ok (.iload_n 2, 1) := by decide +kernel
theorem d_R_isSameAs_16 : decode c_R_isSameAs 16 = .ok (.aload_n 0, 1) := by decide +kernel
theorem d_R_isSameAs_17 : decode c_R_isSameAs 17 = .ok (.getfield 15, 3) := by decide +kernel
theorem d_R_isSameAs_20 : decode c_R_isSameAs 20 = .ok (.if_icmp .ge 26, 3) := by decide +kernel
theorem d_R_isSameAs_23 : decode c_R_isSameAs 23 = .ok (.aload_n 0, 1) := by decide +kernel
theorem d_R_isSameAs_24 : decode c_R_isSameAs 24 = .ok (.getfield 9, 3) := by decide +kernel
theorem d_R_isSameAs_27 : decode c_R_isSameAs 27 = .ok (.iload_n 2, 1) := by decide +kernel
theorem d_R_isSameAs_28 : decode c_R_isSameAs 28 = .ok (.iaload, 1) := by decide +kernel
theorem d_R_isSameAs_29 : decode c_R_isSameAs 29 = .ok (.aload_n 1, 1) := by decide +kernel
theorem d_R_isSameAs_30 : decode c_R_isSameAs 30 = .ok (.getfield 9, 3) := by decide +kernel
theorem d_R_isSameAs_33 : decode c_R_isSameAs 33 = .ok (.iload_n 2, 1) := by decide +kernel
theorem d_R_isSameAs_34 : decode c_R_isSameAs 34 = .ok (.iaload, 1) := by decide +kernel
theorem d_R_isSameAs_35 : decode c_R_isSameAs 35 = .ok (.if_icmp .eq 5, 3) := by decide +kernel
theorem d_R_isSameAs_38 : decode c_R_isSameAs 38 = .ok (.iconst 0, 1) := by decide +kernel
theorem d_R_isSameAs_39 : decode c_R_isSameAs 39 = .ok (.ireturn, 1) := by decide +kernel
theorem d_R_isSameAs_40 : decode c_R_isSameAs 40 = .ok (.iinc 2 1, 3) := by decide +kernel
theorem d_R_isSameAs_43 : decode c_R_isSameAs 43 = .ok (.goto (-28), 3) := by decide +kernel
theorem d_R_isSameAs_46 : decode c_R_isSameAs 46 = .ok (.iconst 1, 1) := by decide +kernel
theorem d_R_isSameAs_47 : decode c_R_isSameAs 47 = .ok (.ireturn, 1) := by decide +kernel
theorem row_ext {l l1 : List Nat} (h : l.length = l1.length) (hj : ∀ j, j < l.length → l.getD j 0 = l1.getD j 0) : l = l1 := by
  apply List.ext_getElem h
  intro i h1 h2
  have := hj i h1
  rw [List.getD_eq_getElem?_getD, List.getD_eq_getElem?_getD, List.getElem?_eq_getElem h1, List.getElem?_eq_getElem h2] at this
  exact this
set_option maxHeartbeats 1000000 in
theorem l_R_isSameAs {E : kx_E} {w : va_W} {x y h a : Nat} {l : List Nat} (hR : RowAt E w x y h a l) {x1 y1 h1 a1 : Nat} {l1 : List Nat} (hR1 : RowAt E w x1 y1 h1 a1 l1) {z : kx_Z} {Q : kx_O → va_W → Prop} (hlen : l.length = l1.length) (hQ : Q (.inl (some (.int (nI (if l = l1 then 1 else 0))))) w) : ∀ (n k : Nat), n + k = l.length → (∀ j, j < k → l.getD j 0 = l1.getD j 0) → kx_R E Y_R_isSameAs z 15 [(0, .ref h), (1, .ref h1), (2, .int (nI k))] [] w 0 0 Q := by
  obtain ⟨hO, ⟨f, hA, hf⟩, hl, hv⟩ := hR
  obtain ⟨hO1, ⟨f1, hA1, hf1⟩, hl1, hv1⟩ := hR1
  intro n
  induction n with
  | zero =>
    intro k hk hj
    have hkl : k = l.length := by omega
    have e : l = l1 := row_ext hlen (fun j h9 => hj j (by omega))
    rw [if_pos e] at hQ
    refine kx_iload_n d_R_isSameAs_15 rfl ?_
    refine kx_aload_n d_R_isSameAs_16 rfl (by first | rfl | exact kx_rf _) ?_
    refine kx_get _ d_R_isSameAs_17 f_R_15 (by assumption) (by rfl) ?_
    first | refine kx_icmp_ge_n 46 d_R_isSameAs_20 (by decide) (by omega) (by omega) ?_ ?_ | refine kx_icmp_ge 46 d_R_isSameAs_20 (by decide) ?_ ?_
    · intro h20
      refine kx_iconst (nI 1) d_R_isSameAs_46 (by decide) ?_
      refine kx_zret d_R_isSameAs_47 rfl (by decide) (by decide) (by decide) ?_
      exact hQ
    · intro h20
      exact absurd h20 (by omega)
  | succ n ih =>
    intro k hk hj
    have hk1 : k < l.length := by omega
    have hb : l.getD k 0 < 512 := hv _ (row_get l hk1)
    have hb1 : l1.getD k 0 < 512 := hv1 _ (row_get l1 (by omega))
    refine kx_iload_n d_R_isSameAs_15 rfl ?_
    refine kx_aload_n d_R_isSameAs_16 rfl (by first | rfl | exact kx_rf _) ?_
    refine kx_get _ d_R_isSameAs_17 f_R_15 hO (by rfl) ?_
    first | refine kx_icmp_ge_n 46 d_R_isSameAs_20 (by decide) (by omega) (by omega) ?_ ?_ | refine kx_icmp_ge 46 d_R_isSameAs_20 (by decide) ?_ ?_
    · intro h20
      exact absurd h20 (by omega)
    · intro h20
      refine kx_aload_n d_R_isSameAs_23 rfl (by first | rfl | exact kx_rf _) ?_
      refine kx_get _ d_R_isSameAs_24 f_R_9 hO (by rfl) ?_
      refine kx_iload_n d_R_isSameAs_27 rfl ?_
      refine kx_iald d_R_isSameAs_28 hA (by omega) (by decide) ?_
      rw [hf k hk1]
      refine kx_aload_n d_R_isSameAs_29 rfl (by first | rfl | exact kx_rf _) ?_
      refine kx_get _ d_R_isSameAs_30 f_R_9 hO1 (by rfl) ?_
      refine kx_iload_n d_R_isSameAs_33 rfl ?_
      refine kx_iald d_R_isSameAs_34 hA1 (by omega) (by decide) ?_
      rw [hf1 k (by omega)]
      first | refine kx_icmp_eq_n 40 d_R_isSameAs_35 (by decide) (by omega) (by omega) ?_ ?_ | refine kx_icmp_eq 40 d_R_isSameAs_35 (by decide) ?_ ?_
      · intro h35
        refine kx_iinc _ d_R_isSameAs_40 rfl (by decide) (nI_1 _) ?_
        refine kx_goto 15 d_R_isSameAs_43 (by decide) ?_
        refine kx_loc (L1 := [(0, .ref h), (1, .ref h1), (2, .int (nI (k + 1)))]) ⟨rfl, rfl, rfl, trivial⟩ ?_
        exact ih (k + 1) (by omega) (lt_s hj h35)
      · intro h35
        rw [if_neg (fun e => h35 (by rw [e]))] at hQ
        refine kx_iconst (nI 0) d_R_isSameAs_38 (by decide) ?_
        refine kx_zret d_R_isSameAs_39 rfl (by decide) (by decide) (by decide) ?_
        exact hQ
set_option maxHeartbeats 1000000 in
theorem m_R_isSameAs {E : kx_E} {w : va_W} {x y h a : Nat} {l : List Nat} (hR : RowAt E w x y h a l) {x1 y1 h1 a1 : Nat} {l1 : List Nat} (hR1 : RowAt E w x1 y1 h1 a1 l1) : kx_S E Y_R_isSameAs [.ref h, .ref h1] w (kx_Qi w (nI (if l = l1 then 1 else 0))) := by
  refine kx_go (by decide) rfl rfl (Nat.le_of_ble_eq_true rfl) (kx_cc rfl (kx_cc rfl kx_c0)) (fun z => ?_)
  have hR0 := hR
  have hR9 := hR1
  obtain ⟨hO, ⟨f, hA, hf⟩, hl, hv⟩ := hR
  obtain ⟨hO1, ⟨f1, hA1, hf1⟩, hl1, hv1⟩ := hR1
  refine kx_aload_n d_R_isSameAs_0 rfl (by first | rfl | exact kx_rf _) ?_
  refine kx_get _ d_R_isSameAs_1 f_R_15 hO (by rfl) ?_
  refine kx_aload_n d_R_isSameAs_4 rfl (by first | rfl | exact kx_rf _) ?_
  refine kx_get _ d_R_isSameAs_5 f_R_15 hO1 (by rfl) ?_
  first | refine kx_icmp_eq_n 13 d_R_isSameAs_8 (by decide) (by omega) (by omega) ?_ ?_ | refine kx_icmp_eq 13 d_R_isSameAs_8 (by decide) ?_ ?_
  · intro h8
    refine kx_iconst (nI 0) d_R_isSameAs_13 (by decide) ?_
    refine kx_istore_n d_R_isSameAs_14 (by decide) ?_
    refine kx_loc (L1 := [(0, .ref h), (1, .ref h1), (2, .int (nI 0))]) ⟨rfl, rfl, rfl, trivial⟩ ?_
    exact l_R_isSameAs hR0 hR9 h8 ⟨rfl, rfl⟩ l.length 0 rfl lt_0
  · intro h8
    refine kx_iconst (nI 0) d_R_isSameAs_11 (by decide) ?_
    refine kx_zret d_R_isSameAs_12 rfl (by decide) (by decide) (by decide) ?_
    rw [if_neg (fun e => h8 (by rw [e]))]
    exact ⟨rfl, rfl⟩
theorem d_R_itemAt_0 : decode c_R_itemAt 0 = .ok (.iload_n 1, 1) := by decide +kernel
theorem d_R_itemAt_1 : decode c_R_itemAt 1 = .ok (.ifCond .lt 11, 3) := by decide +kernel
theorem d_R_itemAt_4 : decode c_R_itemAt 4 = .ok (.iload_n 1, 1) := by decide +kernel
theorem d_R_itemAt_5 : decode c_R_itemAt 5 = .ok (.aload_n 0, 1) := by decide +kernel
theorem d_R_itemAt_6 : decode c_R_itemAt 6 = .ok (.getfield 15, 3) := by decide +kernel
theorem d_R_itemAt_9 : decode c_R_itemAt 9 = .ok (.if_icmp .lt 7, 3) := by decide +kernel
theorem d_R_itemAt_12 : decode c_R_itemAt 12 = .ok (.iconst (-1), 1) := by decide +kernel
theorem d_R_itemAt_13 : decode c_R_itemAt 13 = .ok (.goto 9, 3) := by decide +kernel
theorem d_R_itemAt_16 : decode c_R_itemAt 16 = .ok (.aload_n 0, 1) := by decide +kernel
theorem d_R_itemAt_17 : decode c_R_itemAt 17 = .ok (.getfield 9, 3) := by decide +kernel
theorem d_R_itemAt_20 : decode c_R_itemAt 20 = .ok (.iload_n 1, 1) := by decide +kernel
theorem d_R_itemAt_21 : decode c_R_itemAt 21 = .ok (.iaload, 1) := by decide +kernel
theorem d_R_itemAt_22 : decode c_R_itemAt 22 = .ok (.ireturn, 1) := by decide +kernel
set_option maxHeartbeats 1000000 in
theorem m_R_itemAt {E : kx_E} {w : va_W} {x y h a : Nat} {l : List Nat} (hR : RowAt E w x y h a l) {j : Nat} (hj : j < l.length) : kx_S E Y_R_itemAt [.ref h, .int (nI j)] w (kx_Qi w (nI (l.getD j 0))) := by
  refine kx_go (by decide) rfl rfl (Nat.le_of_ble_eq_true rfl) (kx_cc rfl (kx_cc rfl kx_c0)) (fun z => ?_)
  obtain ⟨hO, ⟨f, hA, hf⟩, hl, hv⟩ := hR
  refine kx_iload_n d_R_itemAt_0 rfl ?_
  refine kx_if_lt_n 12 d_R_itemAt_1 (by decide) (by omega) ?_
  refine kx_iload_n d_R_itemAt_4 rfl ?_
  refine kx_aload_n d_R_itemAt_5 rfl (by first | rfl | exact kx_rf _) ?_
  refine kx_get _ d_R_itemAt_6 f_R_15 (by assumption) (by rfl) ?_
  first | refine kx_icmp_lt_n 16 d_R_itemAt_9 (by decide) (by omega) (by omega) ?_ ?_ | refine kx_icmp_lt 16 d_R_itemAt_9 (by decide) ?_ ?_
  · intro h9
    refine kx_aload_n d_R_itemAt_16 rfl (by first | rfl | exact kx_rf _) ?_
    refine kx_get _ d_R_itemAt_17 f_R_9 (by assumption) (by rfl) ?_
    refine kx_iload_n d_R_itemAt_20 rfl ?_
    refine kx_iald d_R_itemAt_21 (by assumption) (by omega) (by decide) ?_
    rw [hf j hj]
    exact kx_iret d_R_itemAt_22 rfl (by decide) (by decide) ⟨rfl, rfl⟩
  · intro h9
    exact absurd h9 (by omega)
set_option maxHeartbeats 1000000 in
theorem m_R_itemAt_no {E : kx_E} {w : va_W} {x y h a : Nat} {l : List Nat} (hR : RowAt E w x y h a l) {v : Int32} (hj : v < 0 ∨ nI l.length ≤ v) : kx_S E Y_R_itemAt [.ref h, .int v] w (kx_Qi w (-1)) := by
  refine kx_go (by decide) rfl rfl (Nat.le_of_ble_eq_true rfl) (kx_cc rfl (kx_cc rfl kx_c0)) (fun z => ?_)
  obtain ⟨hO, ⟨f, hA, hf⟩, hl, hv⟩ := hR
  refine kx_iload_n d_R_itemAt_0 rfl ?_
  refine kx_if_lt 12 d_R_itemAt_1 (by decide) ?_ ?_
  · intro h1
    refine kx_iconst (-1) d_R_itemAt_12 (by decide) ?_
    refine kx_goto 22 d_R_itemAt_13 (by decide) ?_
    refine kx_iret d_R_itemAt_22 rfl (by decide) (by decide) ?_
    exact ⟨rfl, rfl⟩
  · intro h1
    refine kx_iload_n d_R_itemAt_4 rfl ?_
    refine kx_aload_n d_R_itemAt_5 rfl (by first | rfl | exact kx_rf _) ?_
    refine kx_get _ d_R_itemAt_6 f_R_15 (by assumption) (by rfl) ?_
    refine kx_icmp_lt 16 d_R_itemAt_9 (by decide) ?_ ?_
    · intro h9
      exact absurd h9 (fun h9 => by rcases hj with h | h; exact h1 h; exact absurd (Int32.lt_iff_toInt_lt.mp h9) (Int.not_lt.mpr (Int32.le_iff_toInt_le.mp h)))
    · intro h9
      refine kx_iconst (-1) d_R_itemAt_12 (by decide) ?_
      refine kx_goto 22 d_R_itemAt_13 (by decide) ?_
      refine kx_iret d_R_itemAt_22 rfl (by decide) (by decide) ?_
      exact ⟨rfl, rfl⟩
theorem d_R_idAt_0 : decode c_R_idAt 0 = .ok (.iload_n 1, 1) := by decide +kernel
theorem d_R_idAt_1 : decode c_R_idAt 1 = .ok (.iconst 1, 1) := by decide +kernel
theorem d_R_idAt_2 : decode c_R_idAt 2 = .ok (.if_icmp .lt 11, 3) := by decide +kernel
theorem d_R_idAt_5 : decode c_R_idAt 5 = .ok (.iload_n 1, 1) := by decide +kernel
theorem d_R_idAt_6 : decode c_R_idAt 6 = .ok (.aload_n 0, 1) := by decide +kernel
theorem d_R_idAt_7 : decode c_R_idAt 7 = .ok (.getfield 15, 3) := by decide +kernel
theorem d_R_idAt_10 : decode c_R_idAt 10 = .ok (.if_icmp .le 7, 3) := by decide +kernel
theorem d_R_idAt_13 : decode c_R_idAt 13 = .ok (.iconst (-1), 1) := by decide +kernel
theorem d_R_idAt_14 : decode c_R_idAt 14 = .ok (.goto 13, 3) := by decide +kernel
theorem d_R_idAt_17 : decode c_R_idAt 17 = .ok (.aload_n 0, 1) := by decide +kernel
theorem d_R_idAt_18 : decode c_R_idAt 18 = .ok (.getfield 9, 3) := by decide +kernel
theorem d_R_idAt_21 : decode c_R_idAt 21 = .ok (.iload_n 1, 1) := by decide +kernel
theorem d_R_idAt_22 : decode c_R_idAt 22 = .ok (.iconst 1, 1) := by decide +kernel
theorem d_R_idAt_23 : decode c_R_idAt 23 = .ok (.isub, 1) := by decide +kernel
theorem d_R_idAt_24 : decode c_R_idAt 24 = .ok (.iaload, 1) := by decide +kernel
theorem d_R_idAt_25 : decode c_R_idAt 25 = .ok (.iconst 1, 1) := by decide +kernel
theorem d_R_idAt_26 : decode c_R_idAt 26 = .ok (.ishr, 1) := by decide +kernel
theorem d_R_idAt_27 : decode c_R_idAt 27 = .ok (.ireturn, 1) := by decide +kernel
set_option maxHeartbeats 1000000 in
theorem m_R_idAt {E : kx_E} {w : va_W} {x y h a : Nat} {l : List Nat} (hR : RowAt E w x y h a l) {j : Nat} (hj : j < l.length) : kx_S E Y_R_idAt [.ref h, .int (nI (j + 1))] w (kx_Qi w (nI (l.getD j 0 / 2))) := by
  refine kx_go (by decide) rfl rfl (Nat.le_of_ble_eq_true rfl) (kx_cc rfl (kx_cc rfl kx_c0)) (fun z => ?_)
  have hb : l.getD j 0 < 512 := hR.2.2.2 _ (row_get l hj)
  obtain ⟨hO, ⟨f, hA, hf⟩, hl, hv⟩ := hR
  refine kx_iload_n d_R_idAt_0 rfl ?_
  refine kx_iconst (nI 1) d_R_idAt_1 (by decide) ?_
  first | refine kx_icmp_lt_n 13 d_R_idAt_2 (by decide) (by omega) (by omega) ?_ ?_ | refine kx_icmp_lt 13 d_R_idAt_2 (by decide) ?_ ?_
  · intro h2
    first | exact absurd h2 (by omega) | exact absurd h10 (by omega)
  · intro h2
    refine kx_iload_n d_R_idAt_5 rfl ?_
    refine kx_aload_n d_R_idAt_6 rfl (by first | rfl | exact kx_rf _) ?_
    refine kx_get _ d_R_idAt_7 f_R_15 (by assumption) (by rfl) ?_
    first | refine kx_icmp_le_n 17 d_R_idAt_10 (by decide) (by omega) (by omega) ?_ ?_ | refine kx_icmp_le 17 d_R_idAt_10 (by decide) ?_ ?_
    · intro h10
      refine kx_aload_n d_R_idAt_17 rfl (by first | rfl | exact kx_rf _) ?_
      refine kx_get _ d_R_idAt_18 f_R_9 (by assumption) (by rfl) ?_
      refine kx_iload_n d_R_idAt_21 rfl ?_
      refine kx_iconst (nI 1) d_R_idAt_22 (by decide) ?_
      first | refine kx_isub _ d_R_idAt_23 (pk_sub (by omega)) ?_ | refine kx_isub _ d_R_idAt_23 rfl ?_
      refine kx_iald d_R_idAt_24 hA (by omega) (by decide) ?_
      rw [show j + 1 - 1 = j from rfl, hf j hj]
      refine kx_iconst (nI 1) d_R_idAt_25 (by decide) ?_
      first | refine kx_ishr _ d_R_idAt_26 (kx_shr1 (by omega)) ?_ | refine kx_ishr _ d_R_idAt_26 rfl ?_
      refine kx_iret d_R_idAt_27 rfl (by decide) (by decide) ?_
      exact ⟨rfl, rfl⟩
    · intro h10
      first | exact absurd h2 (by omega) | exact absurd h10 (by omega)
set_option maxHeartbeats 1000000 in
theorem m_R_idAt_no {E : kx_E} {w : va_W} {x y h a : Nat} {l : List Nat} (hR : RowAt E w x y h a l) {v : Int32} (hj : v < nI 1 ∨ nI l.length < v) : kx_S E Y_R_idAt [.ref h, .int v] w (kx_Qi w (-1)) := by
  refine kx_go (by decide) rfl rfl (Nat.le_of_ble_eq_true rfl) (kx_cc rfl (kx_cc rfl kx_c0)) (fun z => ?_)
  obtain ⟨hO, ⟨f, hA, hf⟩, hl, hv⟩ := hR
  refine kx_iload_n d_R_idAt_0 rfl ?_
  refine kx_iconst (nI 1) d_R_idAt_1 (by decide) ?_
  refine kx_icmp_lt 13 d_R_idAt_2 (by decide) ?_ ?_
  · intro h2
    refine kx_iconst (-1) d_R_idAt_13 (by decide) ?_
    refine kx_goto 27 d_R_idAt_14 (by decide) ?_
    refine kx_iret d_R_idAt_27 rfl (by decide) (by decide) ?_
    exact ⟨rfl, rfl⟩
  · intro h2
    refine kx_iload_n d_R_idAt_5 rfl ?_
    refine kx_aload_n d_R_idAt_6 rfl (by first | rfl | exact kx_rf _) ?_
    refine kx_get _ d_R_idAt_7 f_R_15 (by assumption) (by rfl) ?_
    refine kx_icmp_le 17 d_R_idAt_10 (by decide) ?_ ?_
    · intro h10
      exact absurd h10 (fun h9 => by rcases hj with h | h; exact h2 h; exact absurd (Int32.lt_iff_toInt_lt.mp h) (Int.not_lt.mpr (Int32.le_iff_toInt_le.mp h9)))
    · intro h10
      refine kx_iconst (-1) d_R_idAt_13 (by decide) ?_
      refine kx_goto 27 d_R_idAt_14 (by decide) ?_
      refine kx_iret d_R_idAt_27 rfl (by decide) (by decide) ?_
      exact ⟨rfl, rfl⟩
theorem d_R_endAt_0 : decode c_R_endAt 0 = .ok (.iload_n 1, 1) := by decide +kernel
theorem d_R_endAt_1 : decode c_R_endAt 1 = .ok (.iconst 1, 1) := by decide +kernel
theorem d_R_endAt_2 : decode c_R_endAt 2 = .ok (.if_icmp .lt 11, 3) := by decide +kernel
theorem d_R_endAt_5 : decode c_R_endAt 5 = .ok (.iload_n 1, 1) := by decide +kernel
theorem d_R_endAt_6 : decode c_R_endAt 6 = .ok (.aload_n 0, 1) := by decide +kernel
theorem d_R_endAt_7 : decode c_R_endAt 7 = .ok (.getfield 15, 3) := by decide +kernel
theorem d_R_endAt_10 : decode c_R_endAt 10 = .ok (.if_icmp .le 7, 3) := by decide +kernel
theorem d_R_endAt_13 : decode c_R_endAt 13 = .ok (.iconst (-1), 1) := by decide +kernel
theorem d_R_endAt_14 : decode c_R_endAt 14 = .ok (.goto 13, 3) := by decide +kernel
theorem d_R_endAt_17 : decode c_R_endAt 17 = .ok (.aload_n 0, 1) := by decide +kernel
theorem d_R_endAt_18 : decode c_R_endAt 18 = .ok (.getfield 9, 3) := by decide +kernel
theorem d_R_endAt_21 : decode c_R_endAt 21 = .ok (.iload_n 1, 1) := by decide +kernel
theorem d_R_endAt_22 : decode c_R_endAt 22 = .ok (.iconst 1, 1) := by decide +kernel
theorem d_R_endAt_23 : decode c_R_endAt 23 = .ok (.isub, 1) := by decide +kernel
theorem d_R_endAt_24 : decode c_R_endAt 24 = .ok (.iaload, 1) := by decide +kernel
theorem d_R_endAt_25 : decode c_R_endAt 25 = .ok (.iconst 1, 1) := by decide +kernel
theorem d_R_endAt_26 : decode c_R_endAt 26 = .ok (.iand, 1) := by decide +kernel
theorem d_R_endAt_27 : decode c_R_endAt 27 = .ok (.ireturn, 1) := by decide +kernel
set_option maxHeartbeats 1000000 in
theorem m_R_endAt {E : kx_E} {w : va_W} {x y h a : Nat} {l : List Nat} (hR : RowAt E w x y h a l) {j : Nat} (hj : j < l.length) : kx_S E Y_R_endAt [.ref h, .int (nI (j + 1))] w (kx_Qi w (nI (l.getD j 0 % 2))) := by
  refine kx_go (by decide) rfl rfl (Nat.le_of_ble_eq_true rfl) (kx_cc rfl (kx_cc rfl kx_c0)) (fun z => ?_)
  have hb : l.getD j 0 < 512 := hR.2.2.2 _ (row_get l hj)
  obtain ⟨hO, ⟨f, hA, hf⟩, hl, hv⟩ := hR
  refine kx_iload_n d_R_endAt_0 rfl ?_
  refine kx_iconst (nI 1) d_R_endAt_1 (by decide) ?_
  first | refine kx_icmp_lt_n 13 d_R_endAt_2 (by decide) (by omega) (by omega) ?_ ?_ | refine kx_icmp_lt 13 d_R_endAt_2 (by decide) ?_ ?_
  · intro h2
    first | exact absurd h2 (by omega) | exact absurd h10 (by omega)
  · intro h2
    refine kx_iload_n d_R_endAt_5 rfl ?_
    refine kx_aload_n d_R_endAt_6 rfl (by first | rfl | exact kx_rf _) ?_
    refine kx_get _ d_R_endAt_7 f_R_15 (by assumption) (by rfl) ?_
    first | refine kx_icmp_le_n 17 d_R_endAt_10 (by decide) (by omega) (by omega) ?_ ?_ | refine kx_icmp_le 17 d_R_endAt_10 (by decide) ?_ ?_
    · intro h10
      refine kx_aload_n d_R_endAt_17 rfl (by first | rfl | exact kx_rf _) ?_
      refine kx_get _ d_R_endAt_18 f_R_9 (by assumption) (by rfl) ?_
      refine kx_iload_n d_R_endAt_21 rfl ?_
      refine kx_iconst (nI 1) d_R_endAt_22 (by decide) ?_
      first | refine kx_isub _ d_R_endAt_23 (pk_sub (by omega)) ?_ | refine kx_isub _ d_R_endAt_23 rfl ?_
      refine kx_iald d_R_endAt_24 hA (by omega) (by decide) ?_
      rw [show j + 1 - 1 = j from rfl, hf j hj]
      refine kx_iconst (nI 1) d_R_endAt_25 (by decide) ?_
      first | refine kx_iand _ d_R_endAt_26 (kx_and1 (by omega)) ?_ | refine kx_iand _ d_R_endAt_26 rfl ?_
      refine kx_iret d_R_endAt_27 rfl (by decide) (by decide) ?_
      exact ⟨rfl, rfl⟩
    · intro h10
      first | exact absurd h2 (by omega) | exact absurd h10 (by omega)
set_option maxHeartbeats 1000000 in
theorem m_R_endAt_no {E : kx_E} {w : va_W} {x y h a : Nat} {l : List Nat} (hR : RowAt E w x y h a l) {v : Int32} (hj : v < nI 1 ∨ nI l.length < v) : kx_S E Y_R_endAt [.ref h, .int v] w (kx_Qi w (-1)) := by
  refine kx_go (by decide) rfl rfl (Nat.le_of_ble_eq_true rfl) (kx_cc rfl (kx_cc rfl kx_c0)) (fun z => ?_)
  obtain ⟨hO, ⟨f, hA, hf⟩, hl, hv⟩ := hR
  refine kx_iload_n d_R_endAt_0 rfl ?_
  refine kx_iconst (nI 1) d_R_endAt_1 (by decide) ?_
  refine kx_icmp_lt 13 d_R_endAt_2 (by decide) ?_ ?_
  · intro h2
    refine kx_iconst (-1) d_R_endAt_13 (by decide) ?_
    refine kx_goto 27 d_R_endAt_14 (by decide) ?_
    refine kx_iret d_R_endAt_27 rfl (by decide) (by decide) ?_
    exact ⟨rfl, rfl⟩
  · intro h2
    refine kx_iload_n d_R_endAt_5 rfl ?_
    refine kx_aload_n d_R_endAt_6 rfl (by first | rfl | exact kx_rf _) ?_
    refine kx_get _ d_R_endAt_7 f_R_15 (by assumption) (by rfl) ?_
    refine kx_icmp_le 17 d_R_endAt_10 (by decide) ?_ ?_
    · intro h10
      exact absurd h10 (fun h9 => by rcases hj with h | h; exact h2 h; exact absurd (Int32.lt_iff_toInt_lt.mp h) (Int.not_lt.mpr (Int32.le_iff_toInt_le.mp h9)))
    · intro h10
      refine kx_iconst (-1) d_R_endAt_13 (by decide) ?_
      refine kx_goto 27 d_R_endAt_14 (by decide) ?_
      refine kx_iret d_R_endAt_27 rfl (by decide) (by decide) ?_
      exact ⟨rfl, rfl⟩
theorem d_R_copyFrom_0 : decode c_R_copyFrom 0 = .ok (.aload_n 1, 1) := by decide +kernel
theorem d_R_copyFrom_1 : decode c_R_copyFrom 1 = .ok (.getfield 9, 3) := by decide +kernel
theorem d_R_copyFrom_4 : decode c_R_copyFrom 4 = .ok (.iconst 0, 1) := by decide +kernel
theorem d_R_copyFrom_5 : decode c_R_copyFrom 5 = .ok (.aload_n 0, 1) := by decide +kernel
theorem d_R_copyFrom_6 : decode c_R_copyFrom 6 = .ok (.getfield 9, 3) := by decide +kernel
theorem d_R_copyFrom_9 : decode c_R_copyFrom 9 = .ok (.iconst 0, 1) := by decide +kernel
theorem d_R_copyFrom_10 : decode c_R_copyFrom 10 = .ok (.aload_n 1, 1) := by decide +kernel
theorem d_R_copyFrom_11 : decode c_R_copyFrom 11 = .ok (.getfield 15, 3) := by decide +kernel
theorem d_R_copyFrom_14 : decode c_R_copyFrom 14 = .ok (.invokestatic 25, 3) := by decide +kernel
theorem d_R_copyFrom_17 : decode c_R_copyFrom 17 = .ok (.aload_n 0, 1) := by decide +kernel
theorem d_R_copyFrom_18 : decode c_R_copyFrom 18 = .ok (.aload_n 1, 1) := by decide +kernel
theorem d_R_copyFrom_19 : decode c_R_copyFrom 19 = .ok (.getfield 15, 3) := by decide +kernel
theorem d_R_copyFrom_22 : decode c_R_copyFrom 22 = .ok (.putfield 15, 3) := by decide +kernel
theorem d_R_copyFrom_25 : decode c_R_copyFrom 25 = .ok (.return_, 1) := by decide +kernel
set_option maxHeartbeats 1000000 in
theorem m_R_copyFrom {E : kx_E} {w : va_W} {x y h a : Nat} {l : List Nat} (hR : RowAt E w x y h a l) {x1 y1 h1 a1 : Nat} {l1 : List Nat} (hR1 : RowAt E w x1 y1 h1 a1 l1) (hx : x1 ≠ x) (hy : y1 ≠ y) : kx_S E Y_R_copyFrom [.ref h, .ref h1] w (RowQ E w x y h a l1) := by
  refine kx_go (by decide) rfl rfl (Nat.le_of_ble_eq_true rfl) (kx_cc rfl (kx_cc rfl kx_c0)) (fun z => ?_)
  have hne := hR.ne
  have hne1 := hR1.ne
  obtain ⟨hO, ⟨f, hA, hf⟩, hl, hv⟩ := hR
  obtain ⟨hO1, ⟨f1, hA1, hf1⟩, hl1, hv1⟩ := hR1
  have hxy : x1 ≠ y := kx_ne hO1 hA (fun e => by cases e)
  refine kx_aload_n d_R_copyFrom_0 rfl (by first | rfl | exact kx_rf _) ?_
  refine kx_get _ d_R_copyFrom_1 f_R_9 hO1 (by rfl) ?_
  refine kx_iconst (nI 0) d_R_copyFrom_4 (by decide) ?_
  refine kx_aload_n d_R_copyFrom_5 rfl (by first | rfl | exact kx_rf _) ?_
  refine kx_get _ d_R_copyFrom_6 f_R_9 hO (by rfl) ?_
  refine kx_iconst (nI 0) d_R_copyFrom_9 (by decide) ?_
  refine kx_aload_n d_R_copyFrom_10 rfl (by first | rfl | exact kx_rf _) ?_
  refine kx_get _ d_R_copyFrom_11 f_R_15 hO1 (by rfl) ?_
  refine kx_copy d_R_copyFrom_14 cp_R_25 hA1 hA (by decide) (by decide) (by omega) (by omega) (by decide) (by decide) ?_
  have hO2 := kx_s2 (c1 := (a, kx_ai E 24 (va_cpy f1 f 0 0 l1.length))) hne hO
  have hO3 := kx_s2 (c1 := (a, kx_ai E 24 (va_cpy f1 f 0 0 l1.length))) hxy hO1
  have hA2 := kx_s1 (c1 := (a, kx_ai E 24 (va_cpy f1 f 0 0 l1.length))) hA
  refine kx_aload_n d_R_copyFrom_17 rfl (by first | rfl | exact kx_rf _) ?_
  refine kx_aload_n d_R_copyFrom_18 rfl (by first | rfl | exact kx_rf _) ?_
  refine kx_get _ d_R_copyFrom_19 f_R_15 hO3 (by rfl) ?_
  refine kx_put d_R_copyFrom_22 f_R_15 (p_R_1 _) hO2 (by simp) ?_
  refine kx_vret d_R_copyFrom_25 rfl (by decide) (by decide) ?_
  refine ⟨rfl, ⟨kx_s1 hO2, ⟨_, kx_s2 (Ne.symm hne) hA2, fun k hk => ?_⟩, hl1, hv1⟩, (kx_off.rf.set (Or.inr rfl)).set (Or.inl rfl)⟩
  rw [pk_cpy_in (by omega) (by omega), ← hf1 k hk]
  simp
theorem d_R_appendAll_0 : decode c_R_appendAll 0 = .ok (.aload_n 1, 1) := by decide +kernel
theorem d_R_appendAll_1 : decode c_R_appendAll 1 = .ok (.getfield 15, 3) := by decide +kernel
theorem d_R_appendAll_4 : decode c_R_appendAll 4 = .ok (.aload_n 0, 1) := by decide +kernel
theorem d_R_appendAll_5 : decode c_R_appendAll 5 = .ok (.getfield 9, 3) := by decide +kernel
theorem d_R_appendAll_8 : decode c_R_appendAll 8 = .ok (.arraylength, 1) := by decide +kernel
theorem d_R_appendAll_9 : decode c_R_appendAll 9 = .ok (.aload_n 0, 1) := by decide +kernel
theorem d_R_appendAll_10 : decode c_R_appendAll 10 = .ok (.getfield 15, 3) := by decide +kernel
theorem d_R_appendAll_13 : decode c_R_appendAll 13 = .ok (.isub, 1) := by decide +kernel
theorem d_R_appendAll_14 : decode c_R_appendAll 14 = .ok (.invokestatic 19, 3) := by decide +kernel
theorem d_R_appendAll_17 : decode c_R_appendAll 17 = .ok (.istore_n 2, 1) := by decide +kernel
theorem d_R_appendAll_18 : decode c_R_appendAll 18 = .ok (.aload_n 1, 1) := by decide +kernel
theorem d_R_appendAll_19 : decode c_R_appendAll 19 = .ok (.getfield 9, 3) := by decide +kernel
theorem d_R_appendAll_22 : decode c_R_appendAll 22 = .ok (.iconst 0, 1) := by decide +kernel
theorem d_R_appendAll_23 : decode c_R_appendAll 23 = .ok (.aload_n 0, 1) := by decide +kernel
theorem d_R_appendAll_24 : decode c_R_appendAll 24 = .ok (.getfield 9, 3) := by decide +kernel
theorem d_R_appendAll_27 : decode c_R_appendAll 27 = .ok (.aload_n 0, 1) := by decide +kernel
theorem d_R_appendAll_28 : decode c_R_appendAll 28 = .ok (.getfield 15, 3) := by decide +kernel
theorem d_R_appendAll_31 : decode c_R_appendAll 31 = .ok (.iload_n 2, 1) := by decide +kernel
theorem d_R_appendAll_32 : decode c_R_appendAll 32 = .ok (.invokestatic 25, 3) := by decide +kernel
theorem d_R_appendAll_35 : decode c_R_appendAll 35 = .ok (.aload_n 0, 1) := by decide +kernel
theorem d_R_appendAll_36 : decode c_R_appendAll 36 = .ok (.dup, 1) := by decide +kernel
theorem d_R_appendAll_37 : decode c_R_appendAll 37 = .ok (.getfield 15, 3) := by decide +kernel
theorem d_R_appendAll_40 : decode c_R_appendAll 40 = .ok (.iload_n 2, 1) := by decide +kernel
theorem d_R_appendAll_41 : decode c_R_appendAll 41 = .ok (.iadd, 1) := by decide +kernel
theorem d_R_appendAll_42 : decode c_R_appendAll 42 = .ok (.putfield 15, 3) := by decide +kernel
theorem d_R_appendAll_45 : decode c_R_appendAll 45 = .ok (.return_, 1) := by decide +kernel
set_option maxHeartbeats 1000000 in
theorem m_R_appendAll {E : kx_E} {w : va_W} {x y h a : Nat} {l : List Nat} (hR : RowAt E w x y h a l) {x1 y1 h1 a1 : Nat} {l1 : List Nat} (hR1 : RowAt E w x1 y1 h1 a1 l1) (hx : x1 ≠ x) (hy : y1 ≠ y) : kx_S E Y_R_appendAll [.ref h, .ref h1] w (RowQ E w x y h a ((l ++ l1).take 24)) := by
  refine kx_go (by decide) rfl rfl (Nat.le_of_ble_eq_true rfl) (kx_cc rfl (kx_cc rfl kx_c0)) (fun z => ?_)
  have hne := hR.ne
  have hne1 := hR1.ne
  obtain ⟨hO, ⟨f, hA, hf⟩, hl, hv⟩ := hR
  obtain ⟨hO1, ⟨f1, hA1, hf1⟩, hl1, hv1⟩ := hR1
  have hxy : x1 ≠ y := kx_ne hO1 hA (fun e => by cases e)
  obtain ⟨q, hq⟩ : ∃ q, q = min l1.length (24 - l.length) := ⟨_, rfl⟩
  refine kx_aload_n d_R_appendAll_0 rfl (by first | rfl | exact kx_rf _) ?_
  refine kx_get _ d_R_appendAll_1 f_R_15 hO1 (by rfl) ?_
  refine kx_aload_n d_R_appendAll_4 rfl (by first | rfl | exact kx_rf _) ?_
  refine kx_get _ d_R_appendAll_5 f_R_9 hO (by rfl) ?_
  refine kx_alen (t := 0) d_R_appendAll_8 hA rfl ?_
  refine kx_aload_n d_R_appendAll_9 rfl (by first | rfl | exact kx_rf _) ?_
  refine kx_get _ d_R_appendAll_10 f_R_15 hO (by rfl) ?_
  refine kx_isub (nI (24 - l.length)) d_R_appendAll_13 (pk_sub (by omega)) ?_
  refine kx_min d_R_appendAll_14 mn_R_19 (by omega) (by omega) (by decide) (by decide) (by decide) (by decide) ?_
  rw [← hq]
  refine kx_istore_n d_R_appendAll_17 (by decide) ?_
  refine kx_aload_n d_R_appendAll_18 rfl (by first | rfl | exact kx_rf _) ?_
  refine kx_get _ d_R_appendAll_19 f_R_9 hO1 (by rfl) ?_
  refine kx_iconst (nI 0) d_R_appendAll_22 (by decide) ?_
  refine kx_aload_n d_R_appendAll_23 rfl (by first | rfl | exact kx_rf _) ?_
  refine kx_get _ d_R_appendAll_24 f_R_9 hO (by rfl) ?_
  refine kx_aload_n d_R_appendAll_27 rfl (by first | rfl | exact kx_rf _) ?_
  refine kx_get _ d_R_appendAll_28 f_R_15 hO (by rfl) ?_
  refine kx_iload_n d_R_appendAll_31 rfl ?_
  refine kx_copy d_R_appendAll_32 cp_R_25 hA1 hA (by decide) (by decide) (by omega) (by omega) (by decide) (by decide) ?_
  have hO2 := kx_s2 (c1 := (a, kx_ai E 24 (va_cpy f1 f 0 l.length q))) hne hO
  have hA2 := kx_s1 (c1 := (a, kx_ai E 24 (va_cpy f1 f 0 l.length q))) hA
  refine kx_aload_n d_R_appendAll_35 rfl (by first | rfl | exact kx_rf _) ?_
  refine kx_dup d_R_appendAll_36 (by first | rfl | exact kx_rfc _) ?_
  refine kx_get _ d_R_appendAll_37 f_R_15 hO2 (by rfl) ?_
  refine kx_iload_n d_R_appendAll_40 rfl ?_
  first | refine kx_iadd _ d_R_appendAll_41 (nI_add _ _) ?_ | refine kx_iadd _ d_R_appendAll_41 rfl ?_
  refine kx_put d_R_appendAll_42 f_R_15 (p_R_1 _) hO2 (by simp) ?_
  refine kx_vret d_R_appendAll_45 rfl (by decide) (by decide) ?_
  have hlen : ((l ++ l1).take 24).length = l.length + q := by rw [List.length_take, List.length_append]; omega
  refine ⟨rfl, ⟨by rw [hlen]; exact kx_s1 hO2, ⟨_, kx_s2 (Ne.symm hne) hA2, fun k hk => ?_⟩, by omega, fun u hu => ?_⟩, (kx_off.rf.set (Or.inr rfl)).set (Or.inl rfl)⟩
  · rw [hlen] at hk
    by_cases e : k < l.length
    · rw [pk_cpy_out (Or.inl e), hf k e]
      congr 1
      rw [List.getD_eq_getElem?_getD, List.getD_eq_getElem?_getD, List.getElem?_take_of_lt (by omega), List.getElem?_append_left e]
    · rw [pk_cpy_in (by omega) hk, show 0 + (k - l.length) = k - l.length by omega, hf1 _ (by omega)]
      congr 1
      rw [List.getD_eq_getElem?_getD, List.getD_eq_getElem?_getD, List.getElem?_take_of_lt (by omega), List.getElem?_append_right (by omega)]
  · rcases List.mem_append.mp (List.mem_of_mem_take hu) with hu | hu
    · exact hv u hu
    · exact hv1 u hu
end
section
theorem d_R_turnRound_0 : decode c_R_turnRound 0 = .ok (.iconst 0, 1) := by decide +kernel
theorem d_R_turnRound_1 : decode c_R_turnRound 1 = .ok (.istore_n 1, 1) := by decide +kernel
theorem d_R_turnRound_2 : decode c_R_turnRound 2 = .ok (.iconst 2, 1) := by decide +kernel
theorem d_R_turnRound_3 : decode c_R_turnRound 3 = .ok (.iload_n 1, 1) := by decide +kernel
theorem d_R_turnRound_4 : decode c_R_turnRound 4 = .ok (.imul, 1) := by decide +kernel
theorem d_R_turnRound_5 : decode c_R_turnRound 5 = .ok (.aload_n 0, 1) := by decide +kernel
theorem d_R_turnRound_6 : decode c_R_turnRound 6 = .ok (.getfield 15, 3) := by decide +kernel
theorem d_R_turnRound_9 : decode c_R_turnRound 9 = .ok (.if_icmp .ge 48, 3) := by decide +kernel
theorem d_R_turnRound_12 : decode c_R_turnRound 12 = .ok (.aload_n 0, 1) := by decide +kernel
theorem d_R_turnRound_13 : decode c_R_turnRound 13 = .ok (.getfield 15, 3) := by decide +kernel
theorem d_R_turnRound_16 : decode c_R_turnRound 16 = .ok (.iconst 1, 1) := by decide +kernel
theorem d_R_turnRound_17 : decode c_R_turnRound 17 = .ok (.isub, 1) := by decide +kernel
theorem d_R_turnRound_18 : decode c_R_turnRound 18 = .ok (.iload_n 1, 1) := by decide +kernel
theorem d_R_turnRound_19 : decode c_R_turnRound 19 = .ok (.isub, 1) := by decide +kernel
theorem d_R_turnRound_20 : decode c_R_turnRound 20 = .ok (.istore_n 2, 1) := by decide +kernel
theorem d_R_turnRound_21 : decode c_R_turnRound 21 = .ok (.aload_n 0, 1) := by decide +kernel
theorem d_R_turnRound_22 : decode c_R_turnRound 22 = .ok (.getfield 9, 3) := by decide +kernel
theorem d_R_turnRound_25 : decode c_R_turnRound 25 = .ok (.iload_n 1, 1) := by decide +kernel
theorem d_R_turnRound_26 : decode c_R_turnRound 26 = .ok (.iaload, 1) := by decide +kernel
theorem d_R_turnRound_27 : decode c_R_turnRound 27 = .ok (.istore_n 3, 1) := by decide +kernel
theorem d_R_turnRound_28 : decode c_R_turnRound 28 = .ok (.aload_n 0, 1) := by decide +kernel
theorem d_R_turnRound_29 : decode c_R_turnRound 29 = .ok (.getfield 9, 3) := by decide +kernel
theorem d_R_turnRound_32 : decode c_R_turnRound 32 = .ok (.iload_n 1, 1) := by decide +kernel
theorem d_R_turnRound_33 : decode c_R_turnRound 33 = .ok (.aload_n 0, 1) := by decide +kernel
theorem d_R_turnRound_34 : decode c_R_turnRound 34 = .ok (.getfield 9, 3) := by decide +kernel
theorem d_R_turnRound_37 : decode c_R_turnRound 37 = .ok (.iload_n 2, 1) := by decide +kernel
theorem d_R_turnRound_38 : decode c_R_turnRound 38 = .ok (.iaload, 1) := by decide +kernel
theorem d_R_turnRound_39 : decode c_R_turnRound 39 = .ok (.iconst 1, 1) := by decide +kernel
theorem d_R_turnRound_40 : decode c_R_turnRound 40 = .ok (.ixor, 1) := by decide +kernel
theorem d_R_turnRound_41 : decode c_R_turnRound 41 = .ok (.iastore, 1) := by decide +kernel
theorem d_R_turnRound_42 : decode c_R_turnRound 42 = .ok (.aload_n 0, 1) := by decide +kernel
theorem d_R_turnRound_43 : decode c_R_turnRound 43 = .ok (.getfield 9, 3) := by decide +kernel
theorem d_R_turnRound_46 : decode c_R_turnRound 46 = .ok (.iload_n 2, 1) := by decide +kernel
theorem d_R_turnRound_47 : decode c_R_turnRound 47 = .ok (.iload_n 3, 1) := by decide +kernel
theorem d_R_turnRound_48 : decode c_R_turnRound 48 = .ok (.iconst 1, 1) := by decide +kernel
theorem d_R_turnRound_49 : decode c_R_turnRound 49 = .ok (.ixor, 1) := by decide +kernel
theorem d_R_turnRound_50 : decode c_R_turnRound 50 = .ok (.iastore, 1) := by decide +kernel
theorem d_R_turnRound_51 : decode c_R_turnRound 51 = .ok (.iinc 1 1, 3) := by decide +kernel
theorem d_R_turnRound_54 : decode c_R_turnRound 54 = .ok (.goto (-52), 3) := by decide +kernel
theorem d_R_turnRound_57 : decode c_R_turnRound 57 = .ok (.return_, 1) := by decide +kernel
/-- the list seen from the other side -/
def rowTurn (l : List Nat) : List Nat := l.reverse.map (· ^^^ 1)
theorem rowTurn_len (l : List Nat) : (rowTurn l).length = l.length := by unfold rowTurn; rw [List.length_map, List.length_reverse]
theorem rowTurn_get (l : List Nat) {j : Nat} (h : j < l.length) : (rowTurn l).getD j 0 = l.getD (l.length - 1 - j) 0 ^^^ 1 := by
  unfold rowTurn
  rw [List.getD_eq_getElem?_getD, List.getD_eq_getElem?_getD, List.getElem?_map, List.getElem?_reverse h, List.getElem?_eq_getElem (by omega)]
  rfl
theorem row_x1 {v : Nat} (h : v < 512) : v ^^^ 1 < 512 := Nat.xor_lt_two_pow (n := 9) h (by decide)
def trnI (l : List Nat) (f : Nat → Int32) (k : Nat) : Prop := ∀ j, j < l.length → f j = nI (if j < k ∨ l.length - 1 - j < k then l.getD (l.length - 1 - j) 0 ^^^ 1 else l.getD j 0)
theorem trnI_step {l : List Nat} {f : Nat → Int32} {k : Nat} (h : trnI l f k) (hk : 2 * k < l.length) : trnI l (upd (upd f k (nI (l.getD (l.length - 1 - k) 0 ^^^ 1))) (l.length - 1 - k) (nI (l.getD k 0 ^^^ 1))) (k + 1) := by
  intro j hj
  by_cases e : j = l.length - 1 - k
  · subst e
    rw [pk_us, if_pos (Or.inr (by omega)), show l.length - 1 - (l.length - 1 - k) = k by omega]
  · rw [pk_un e]
    by_cases e2 : j = k
    · subst e2
      rw [pk_us, if_pos (Or.inl (by omega))]
    · rw [pk_un e2, h j hj]
      by_cases c : j < k ∨ l.length - 1 - j < k
      · rw [if_pos c, if_pos (by omega)]
      · rw [if_neg c, if_neg (by omega)]
set_option maxHeartbeats 2000000 in
theorem l_R_turnRound {E : kx_E} {w : va_W} {x y h a : Nat} {l : List Nat} (hR : RowAt E w x y h a l) {z : kx_Z} : ∀ (n k : Nat) (w1 : va_W) (f : Nat → Int32), l.length ≤ 2 * (n + k) → k ≤ 24 → w1[x]? = some (h, .inr (3, [.ref a, .int (nI l.length)])) → w1[y]? = some (a, kx_ai E 24 f) → trnI l f k → kx_off w w1 (RowP x y) → kx_R E Y_R_turnRound z 2 [(0, .ref h), (1, .int (nI k))] [] w1 0 0 (RowQ E w x y h a (rowTurn l)) := by
  have hne := hR.ne
  obtain ⟨-, -, hl, hv⟩ := hR
  have fin : ∀ (k : Nat) (w1 : va_W) (f : Nat → Int32), l.length ≤ 2 * k → w1[x]? = some (h, .inr (3, [.ref a, .int (nI l.length)])) → w1[y]? = some (a, kx_ai E 24 f) → trnI l f k → kx_off w w1 (RowP x y) → RowQ E w x y h a (rowTurn l) (.inl none) w1 := by
    intro k w1 f hk hO hA hf ho
    refine ⟨rfl, ⟨by rw [rowTurn_len]; exact hO, ⟨f, hA, fun j hj => ?_⟩, by rw [rowTurn_len]; exact hl, fun v h9 => ?_⟩, ho⟩
    · rw [rowTurn_len] at hj
      rw [hf j hj, if_pos (by omega), rowTurn_get l hj]
    · unfold rowTurn at h9
      obtain ⟨u, hu, rfl⟩ := List.mem_map.mp h9
      exact row_x1 (hv u (List.mem_reverse.mp hu))
  intro n
  induction n with
  | zero =>
    intro k w1 f hn h24 hO hA hf ho
    refine kx_iconst (nI 2) d_R_turnRound_2 (by decide) ?_
    refine kx_iload_n d_R_turnRound_3 rfl ?_
    first | refine kx_imul _ d_R_turnRound_4 (pk_mul _ _) ?_ | refine kx_imul _ d_R_turnRound_4 rfl ?_
    refine kx_aload_n d_R_turnRound_5 rfl (by first | rfl | exact kx_rf _) ?_
    refine kx_get _ d_R_turnRound_6 f_R_15 (by assumption) (by rfl) ?_
    first | refine kx_icmp_ge_n 57 d_R_turnRound_9 (by decide) (by omega) (by omega) ?_ ?_ | refine kx_icmp_ge 57 d_R_turnRound_9 (by decide) ?_ ?_
    · intro h9
      refine kx_vret d_R_turnRound_57 rfl (by decide) (by decide) ?_
      exact fin k w1 f (by omega) hO hA hf ho
    · intro h9
      exact absurd h9 (by omega)
  | succ n ih =>
    intro k w1 f hn h24 hO hA hf ho
    refine kx_iconst (nI 2) d_R_turnRound_2 (by decide) ?_
    refine kx_iload_n d_R_turnRound_3 rfl ?_
    first | refine kx_imul _ d_R_turnRound_4 (pk_mul _ _) ?_ | refine kx_imul _ d_R_turnRound_4 rfl ?_
    refine kx_aload_n d_R_turnRound_5 rfl (by first | rfl | exact kx_rf _) ?_
    refine kx_get _ d_R_turnRound_6 f_R_15 (by assumption) (by rfl) ?_
    first | refine kx_icmp_ge_n 57 d_R_turnRound_9 (by decide) (by omega) (by omega) ?_ ?_ | refine kx_icmp_ge 57 d_R_turnRound_9 (by decide) ?_ ?_
    · intro h9
      refine kx_vret d_R_turnRound_57 rfl (by decide) (by decide) ?_
      exact fin k w1 f (by omega) hO hA hf ho
    · intro h9
      have hk2 : 2 * k < l.length := h9
      have hfk : f k = nI (l.getD k 0) := by rw [hf k (by omega), if_neg (by omega)]
      have hfl : f (l.length - 1 - k) = nI (l.getD (l.length - 1 - k) 0) := by rw [hf _ (by omega), if_neg (by omega)]
      refine kx_aload_n d_R_turnRound_12 rfl (by first | rfl | exact kx_rf _) ?_
      refine kx_get _ d_R_turnRound_13 f_R_15 (by assumption) (by rfl) ?_
      refine kx_iconst (nI 1) d_R_turnRound_16 (by decide) ?_
      first | refine kx_isub _ d_R_turnRound_17 (pk_sub (by omega)) ?_ | refine kx_isub _ d_R_turnRound_17 rfl ?_
      refine kx_iload_n d_R_turnRound_18 rfl ?_
      first | refine kx_isub _ d_R_turnRound_19 (pk_sub (by omega)) ?_ | refine kx_isub _ d_R_turnRound_19 rfl ?_
      refine kx_istore_n d_R_turnRound_20 (by decide) ?_
      refine kx_aload_n d_R_turnRound_21 rfl (by first | rfl | exact kx_rf _) ?_
      refine kx_get _ d_R_turnRound_22 f_R_9 (by assumption) (by rfl) ?_
      refine kx_iload_n d_R_turnRound_25 rfl ?_
      refine kx_iald d_R_turnRound_26 hA (by omega) (by decide) ?_
      rw [hfk]
      refine kx_istore_n d_R_turnRound_27 (by decide) ?_
      refine kx_aload_n d_R_turnRound_28 rfl (by first | rfl | exact kx_rf _) ?_
      refine kx_get _ d_R_turnRound_29 f_R_9 (by assumption) (by rfl) ?_
      refine kx_iload_n d_R_turnRound_32 rfl ?_
      refine kx_aload_n d_R_turnRound_33 rfl (by first | rfl | exact kx_rf _) ?_
      refine kx_get _ d_R_turnRound_34 f_R_9 (by assumption) (by rfl) ?_
      refine kx_iload_n d_R_turnRound_37 rfl ?_
      refine kx_iald d_R_turnRound_38 hA (by omega) (by decide) ?_
      rw [hfl]
      refine kx_iconst (nI 1) d_R_turnRound_39 (by decide) ?_
      first | refine kx_ixor _ d_R_turnRound_40 (kx_xor _ _) ?_ | refine kx_ixor _ d_R_turnRound_40 rfl ?_
      refine kx_iast d_R_turnRound_41 hA (by omega) (by decide) ?_
      have hO2 := kx_s2 (c1 := (a, kx_ai E 24 (upd f k (nI (l.getD (l.length - 1 - k) 0 ^^^ 1))))) hne hO
      have hA2 := kx_s1 (c1 := (a, kx_ai E 24 (upd f k (nI (l.getD (l.length - 1 - k) 0 ^^^ 1))))) hA
      refine kx_aload_n d_R_turnRound_42 rfl (by first | rfl | exact kx_rf _) ?_
      refine kx_get _ d_R_turnRound_43 f_R_9 hO2 (by rfl) ?_
      refine kx_iload_n d_R_turnRound_46 rfl ?_
      refine kx_iload_n d_R_turnRound_47 rfl ?_
      refine kx_iconst (nI 1) d_R_turnRound_48 (by decide) ?_
      first | refine kx_ixor _ d_R_turnRound_49 (kx_xor _ _) ?_ | refine kx_ixor _ d_R_turnRound_49 rfl ?_
      refine kx_iast d_R_turnRound_50 hA2 (by omega) (by decide) ?_
      refine kx_iinc _ d_R_turnRound_51 rfl (by decide) (nI_1 _) ?_
      refine kx_goto 2 d_R_turnRound_54 (by decide) ?_
      refine kx_loc (L1 := [(0, .ref h), (1, .int (nI (k + 1)))]) ⟨rfl, rfl, trivial⟩ ?_
      exact ih (k + 1) _ _ (by omega) (by omega) (kx_s2 hne hO2) (kx_s1 hA2) (trnI_step hf hk2) ((ho.set (Or.inr rfl)).set (Or.inr rfl))
theorem m_R_turnRound {E : kx_E} {w : va_W} {x y h a : Nat} {l : List Nat} (hR : RowAt E w x y h a l) : kx_S E Y_R_turnRound [.ref h] w (RowQ E w x y h a (rowTurn l)) := by
  refine kx_go (by decide) rfl rfl (Nat.le_of_ble_eq_true rfl) (kx_cc rfl kx_c0) (fun z => ?_)
  refine kx_iconst (nI 0) d_R_turnRound_0 (by decide) ?_
  refine kx_istore_n d_R_turnRound_1 (by decide) ?_
  refine kx_loc (L1 := [(0, .ref h), (1, .int (nI 0))]) ⟨rfl, rfl, trivial⟩ ?_
  have hR0 := hR
  obtain ⟨hO, ⟨f, hA, hf⟩, hl, hv⟩ := hR
  exact l_R_turnRound hR0 l.length 0 w f (by omega) (by omega) hO hA (fun j hj => by rw [hf j hj, if_neg (by omega)]) kx_off.rf
theorem d_R_hasCarTwice_0 : decode c_R_hasCarTwice 0 = .ok (.iconst 0, 1) := by decide +kernel
theorem d_R_hasCarTwice_1 : decode c_R_hasCarTwice 1 = .ok (.istore_n 2, 1) := by decide +kernel
theorem d_R_hasCarTwice_2 : decode c_R_hasCarTwice 2 = .ok (.iconst 0, 1) := by decide +kernel
theorem d_R_hasCarTwice_3 : decode c_R_hasCarTwice 3 = .ok (.istore_n 3, 1) := by decide +kernel
theorem d_R_hasCarTwice_4 : decode c_R_hasCarTwice 4 = .ok (.iload_n 3, 1) := by decide +kernel
theorem d_R_hasCarTwice_5 : decode c_R_hasCarTwice 5 = .ok (.aload_n 0, 1) := by decide +kernel
theorem d_R_hasCarTwice_6 : decode c_R_hasCarTwice 6 = .ok (.getfield 15, 3) := by decide +kernel
theorem d_R_hasCarTwice_9 : decode c_R_hasCarTwice 9 = .ok (.if_icmp .ge 41, 3) := by decide +kernel
theorem d_R_hasCarTwice_12 : decode c_R_hasCarTwice 12 = .ok (.aload_n 0, 1) := by decide +kernel
theorem d_R_hasCarTwice_13 : decode c_R_hasCarTwice 13 = .ok (.getfield 9, 3) := by decide +kernel
theorem d_R_hasCarTwice_16 : decode c_R_hasCarTwice 16 = .ok (.iload_n 3, 1) := by decide +kernel
theorem d_R_hasCarTwice_17 : decode c_R_hasCarTwice 17 = .ok (.iaload, 1) := by decide +kernel
theorem d_R_hasCarTwice_18 : decode c_R_hasCarTwice 18 = .ok (.iconst 1, 1) := by decide +kernel
theorem d_R_hasCarTwice_19 : decode c_R_hasCarTwice 19 = .ok (.ishr, 1) := by decide +kernel
theorem d_R_hasCarTwice_20 : decode c_R_hasCarTwice 20 = .ok (.istore 4, 2) := by decide +kernel
theorem d_R_hasCarTwice_22 : decode c_R_hasCarTwice 22 = .ok (.iload_n 2, 1) := by decide +kernel
theorem d_R_hasCarTwice_23 : decode c_R_hasCarTwice 23 = .ok (.ifCond .ne 10, 3) := by decide +kernel
theorem d_R_hasCarTwice_26 : decode c_R_hasCarTwice 26 = .ok (.aload_n 1, 1) := by decide +kernel
theorem d_R_hasCarTwice_27 : decode c_R_hasCarTwice 27 = .ok (.iload 4, 2) := by decide +kernel
theorem d_R_hasCarTwice_29 : decode c_R_hasCarTwice 29 = .ok (.baload, 1) := by decide +kernel
theorem d_R_hasCarTwice_30 : decode c_R_hasCarTwice 30 = .ok (.ifCond .eq 7, 3) := by decide +kernel
theorem d_R_hasCarTwice_33 : decode c_R_hasCarTwice 33 = .ok (.iconst 1, 1) := by decide +kernel
theorem d_R_hasCarTwice_34 : decode c_R_hasCarTwice 34 = .ok (.goto 4, 3) := by decide +kernel
theorem d_R_hasCarTwice_37 : decode c_R_hasCarTwice 37 = .ok (.iconst 0, 1) := by decide +kernel
theorem d_R_hasCarTwice_38 : decode c_R_hasCarTwice 38 = .ok (.istore_n 2, 1) := by decide +kernel
theorem d_R_hasCarTwice_39 : decode c_R_hasCarTwice 39 = .ok (.aload_n 1, 1) := by decide +kernel
theorem d_R_hasCarTwice_40 : decode c_R_hasCarTwice 40 = .ok (.iload 4, 2) := by decide +kernel
theorem d_R_hasCarTwice_42 : decode c_R_hasCarTwice 42 = .ok (.iconst 1, 1) := by decide +kernel
theorem d_R_hasCarTwice_43 : decode c_R_hasCarTwice 43 = .ok (.bastore, 1) := by decide +kernel
theorem d_R_hasCarTwice_44 : decode c_R_hasCarTwice 44 = .ok (.iinc 3 1, 3) := by decide +kernel
theorem d_R_hasCarTwice_47 : decode c_R_hasCarTwice 47 = .ok (.goto (-43), 3) := by decide +kernel
theorem d_R_hasCarTwice_50 : decode c_R_hasCarTwice 50 = .ok (.iconst 0, 1) := by decide +kernel
theorem d_R_hasCarTwice_51 : decode c_R_hasCarTwice 51 = .ok (.istore_n 3, 1) := by decide +kernel
theorem d_R_hasCarTwice_52 : decode c_R_hasCarTwice 52 = .ok (.iload_n 3, 1) := by decide +kernel
theorem d_R_hasCarTwice_53 : decode c_R_hasCarTwice 53 = .ok (.aload_n 0, 1) := by decide +kernel
theorem d_R_hasCarTwice_54 : decode c_R_hasCarTwice 54 = .ok (.getfield 15, 3) := by decide +kernel
theorem d_R_hasCarTwice_57 : decode c_R_hasCarTwice 57 = .ok (.if_icmp .ge 20, 3) := by decide +kernel
theorem d_R_hasCarTwice_60 : decode c_R_hasCarTwice 60 = .ok (.aload_n 1, 1) := by decide +kernel
theorem d_R_hasCarTwice_61 : decode c_R_hasCarTwice 61 = .ok (.aload_n 0, 1) := by decide +kernel
theorem d_R_hasCarTwice_62 : decode c_R_hasCarTwice 62 = .ok (.getfield 9, 3) := by decide +kernel
theorem d_R_hasCarTwice_65 : decode c_R_hasCarTwice 65 = .ok (.iload_n 3, 1) := by decide +kernel
theorem d_R_hasCarTwice_66 : decode c_R_hasCarTwice 66 = .ok (.iaload, 1) := by decide +kernel
theorem d_R_hasCarTwice_67 : decode c_R_hasCarTwice 67 = .ok (.iconst 1, 1) := by decide +kernel
theorem d_R_hasCarTwice_68 : decode c_R_hasCarTwice 68 = .ok (.ishr, 1) := by decide +kernel
theorem d_R_hasCarTwice_69 : decode c_R_hasCarTwice 69 = .ok (.iconst 0, 1) := by decide +kernel
theorem d_R_hasCarTwice_70 : decode c_R_hasCarTwice 70 = .ok (.bastore, 1) := by decide +kernel
theorem d_R_hasCarTwice_71 : decode c_R_hasCarTwice 71 = .ok (.iinc 3 1, 3) := by decide +kernel
theorem d_R_hasCarTwice_74 : decode c_R_hasCarTwice 74 = .ok (.goto (-22), 3) := by decide +kernel
theorem d_R_hasCarTwice_77 : decode c_R_hasCarTwice 77 = .ok (.iload_n 2, 1) := by decide +kernel
theorem d_R_hasCarTwice_78 : decode c_R_hasCarTwice 78 = .ok (.ireturn, 1) := by decide +kernel
/-- the marks, all off -/
def MarksAt (E : kx_E) (w : va_W) (m b : Nat) : Prop := ∃ g, w[m]? = some (b, kx_az E 256 g) ∧ ∀ i, i < 256 → g i = nI 0
abbrev rowIds (l : List Nat) : List Nat := l.map (· / 2)
def rowTw (l : List Nat) : Nat := if (rowIds l).Nodup then 0 else 1
theorem rowTw_01 (l : List Nat) : rowTw l = 0 ∨ rowTw l = 1 := by unfold rowTw; split <;> simp
theorem row_take {l : List Nat} {k : Nat} (h : k < l.length) : rowIds (l.take (k + 1)) = rowIds (l.take k) ++ [l.getD k 0 / 2] := by
  show List.map _ (l.take (k + 1)) = _
  rw [List.take_succ_eq_append_getElem h, List.map_append, List.getD_eq_getElem?_getD, List.getElem?_eq_getElem h]
  rfl
theorem rowTw_step {l : List Nat} {k : Nat} (h : k < l.length) : rowTw (l.take (k + 1)) = if rowTw (l.take k) = 1 ∨ l.getD k 0 / 2 ∈ rowIds (l.take k) then 1 else 0 := by
  unfold rowTw
  rw [row_take h]
  by_cases n : (rowIds (l.take k)).Nodup
  · by_cases e : l.getD k 0 / 2 ∈ rowIds (l.take k)
    · rw [if_neg (fun q => (List.nodup_append.mp q).2.2 _ e _ (List.mem_singleton.mpr rfl) rfl), if_pos (Or.inr e)]
    · rw [if_pos, if_neg]
      · rintro (q | q)
        · rw [if_pos n] at q; cases q
        · exact e q
      · refine List.nodup_append.mpr ⟨n, by simp, fun a ha b hb => ?_⟩
        rw [List.mem_singleton.mp hb]
        exact fun q => e (q ▸ ha)
  · rw [if_neg (fun q => n (List.nodup_append.mp q).1), if_pos (Or.inl (by rw [if_neg n]))]
set_option maxHeartbeats 2000000 in
theorem l_R_hasCarTwice2 {E : kx_E} {w : va_W} {x y h a : Nat} {l : List Nat} (hR : RowAt E w x y h a l) {m b : Nat} (hm : m ≠ x) (hm1 : m ≠ y) {z : kx_Z} {Q : kx_O → va_W → Prop} {t : Nat} (ht : t = 0 ∨ t = 1) (hQ : ∀ w1, RowAt E w1 x y h a l → MarksAt E w1 m b → kx_off w w1 (fun n => n = m) → Q (.inl (some (.int (nI t)))) w1) : ∀ (n k : Nat) (w1 : va_W) (g : Nat → Int32), n + k = l.length → RowAt E w1 x y h a l → w1[m]? = some (b, kx_az E 256 g) → (∀ i, i < 256 → g i = nI (if i ∈ rowIds l ∧ i ∉ rowIds (l.take k) then 1 else 0)) → kx_off w w1 (fun n => n = m) → kx_R E Y_R_hasCarTwice z 52 [(0, .ref h), (1, .ref b), (2, .int (nI t)), (3, .int (nI k))] [] w1 0 0 Q := by
  clear hR
  intro n
  induction n with
  | zero =>
    intro k w1 g hk hR hM hg ho
    have hR0 := hR
    obtain ⟨hO, ⟨f, hA, hf⟩, hl, hv⟩ := hR
    have hkl : k = l.length := by omega
    refine kx_iload_n d_R_hasCarTwice_52 rfl ?_
    refine kx_aload_n d_R_hasCarTwice_53 rfl (by first | rfl | exact kx_rf _) ?_
    refine kx_get _ d_R_hasCarTwice_54 f_R_15 (by assumption) (by rfl) ?_
    first | refine kx_icmp_ge_n 77 d_R_hasCarTwice_57 (by decide) (by omega) (by omega) ?_ ?_ | refine kx_icmp_ge 77 d_R_hasCarTwice_57 (by decide) ?_ ?_
    · intro h57
      refine kx_iload_n d_R_hasCarTwice_77 rfl ?_
      refine kx_zret d_R_hasCarTwice_78 rfl (by rcases ht with rfl | rfl <;> decide) (by decide) (by decide) (hQ w1 hR0 ⟨g, hM, fun i hi => ?_⟩ ho)
      rw [hg i hi, hkl, List.take_length, if_neg (fun q => q.2 q.1)]
    · intro h57
      exact absurd h57 (by omega)
  | succ n ih =>
    intro k w1 g hk hR hM hg ho
    have hR0 := hR
    obtain ⟨hO, ⟨f, hA, hf⟩, hl, hv⟩ := hR
    have hk1 : k < l.length := by omega
    have hb : l.getD k 0 < 512 := hv _ (row_get l hk1)
    refine kx_iload_n d_R_hasCarTwice_52 rfl ?_
    refine kx_aload_n d_R_hasCarTwice_53 rfl (by first | rfl | exact kx_rf _) ?_
    refine kx_get _ d_R_hasCarTwice_54 f_R_15 hO (by rfl) ?_
    first | refine kx_icmp_ge_n 77 d_R_hasCarTwice_57 (by decide) (by omega) (by omega) ?_ ?_ | refine kx_icmp_ge 77 d_R_hasCarTwice_57 (by decide) ?_ ?_
    · intro h57
      exact absurd h57 (by omega)
    · intro h57
      refine kx_aload_n d_R_hasCarTwice_60 rfl (by first | rfl | exact kx_rf _) ?_
      refine kx_aload_n d_R_hasCarTwice_61 rfl (by first | rfl | exact kx_rf _) ?_
      refine kx_get _ d_R_hasCarTwice_62 f_R_9 hO (by rfl) ?_
      refine kx_iload_n d_R_hasCarTwice_65 rfl ?_
      refine kx_iald d_R_hasCarTwice_66 hA (by omega) (by decide) ?_
      rw [hf k hk1]
      refine kx_iconst (nI 1) d_R_hasCarTwice_67 (by decide) ?_
      first | refine kx_ishr _ d_R_hasCarTwice_68 (kx_shr1 (by omega)) ?_ | refine kx_ishr _ d_R_hasCarTwice_68 rfl ?_
      refine kx_iconst (nI 0) d_R_hasCarTwice_69 (by decide) ?_
      refine kx_zast d_R_hasCarTwice_70 hM (by omega) (by decide) (by decide) ?_
      refine kx_iinc _ d_R_hasCarTwice_71 rfl (by decide) (nI_1 _) ?_
      refine kx_goto 52 d_R_hasCarTwice_74 (by decide) ?_
      refine kx_loc (L1 := [(0, .ref h), (1, .ref b), (2, .int (nI t)), (3, .int (nI (k + 1)))]) ⟨rfl, rfl, rfl, rfl, trivial⟩ ?_
      refine ih (k + 1) _ _ (by omega) (hR0.off (kx_off.rf.set (P := fun n => n = m) rfl) (fun e => hm e.symm) (fun e => hm1 e.symm)) (kx_s1 hM) (fun i hi => ?_) (ho.set rfl)
      rw [row_take hk1]
      by_cases e : i = l.getD k 0 / 2
      · rw [e, pk_us, if_neg (fun q => q.2 (List.mem_append_right _ (List.mem_singleton.mpr rfl)))]
      · rw [pk_un e, hg i hi]
        by_cases c : i ∈ rowIds l ∧ i ∉ rowIds (l.take k)
        · rw [if_pos c, if_pos ⟨c.1, fun q => (List.mem_append.mp q).elim c.2 (fun q => e (List.mem_singleton.mp q))⟩]
        · rw [if_neg c, if_neg (fun q => c ⟨q.1, fun r => q.2 (List.mem_append_left _ r)⟩)]
set_option maxHeartbeats 2000000 in
theorem l_R_hasCarTwice1 {E : kx_E} {w : va_W} {x y h a : Nat} {l : List Nat} (hR : RowAt E w x y h a l) {m b : Nat} (hm : m ≠ x) (hm1 : m ≠ y) {z : kx_Z} {Q : kx_O → va_W → Prop} (hQ : ∀ w1, RowAt E w1 x y h a l → MarksAt E w1 m b → kx_off w w1 (fun n => n = m) → Q (.inl (some (.int (nI (rowTw l))))) w1) : ∀ (n k : Nat) (w1 : va_W) (g : Nat → Int32), n + k = l.length → RowAt E w1 x y h a l → w1[m]? = some (b, kx_az E 256 g) → (∀ i, i < 256 → g i = nI (if i ∈ rowIds (l.take k) then 1 else 0)) → kx_off w w1 (fun n => n = m) → kx_R E Y_R_hasCarTwice z 4 [(0, .ref h), (1, .ref b), (2, .int (nI (rowTw (l.take k)))), (3, .int (nI k))] [] w1 0 0 Q := by
  intro n
  induction n with
  | zero =>
    intro k w1 g hk hR9 hM hg ho
    have hR0 := hR9
    obtain ⟨hO, ⟨f, hA, hf⟩, hl, hv⟩ := hR9
    have hkl : k = l.length := by omega
    refine kx_iload_n d_R_hasCarTwice_4 rfl ?_
    refine kx_aload_n d_R_hasCarTwice_5 rfl (by first | rfl | exact kx_rf _) ?_
    refine kx_get _ d_R_hasCarTwice_6 f_R_15 (by assumption) (by rfl) ?_
    first | refine kx_icmp_ge_n 50 d_R_hasCarTwice_9 (by decide) (by omega) (by omega) ?_ ?_ | refine kx_icmp_ge 50 d_R_hasCarTwice_9 (by decide) ?_ ?_
    · intro h9
      refine kx_iconst (nI 0) d_R_hasCarTwice_50 (by decide) ?_
      refine kx_istore_n d_R_hasCarTwice_51 (by decide) ?_
      refine kx_loc (L1 := [(0, .ref h), (1, .ref b), (2, .int (nI (rowTw l))), (3, .int (nI 0))]) ⟨rfl, rfl, by rw [hkl, List.take_length]; rfl, rfl, trivial⟩ ?_
      refine l_R_hasCarTwice2 hR hm hm1 (rowTw_01 l) hQ l.length 0 w1 g rfl hR0 hM (fun i hi => ?_) ho
      rw [hg i hi, hkl, List.take_length, List.take_zero]
      by_cases c : i ∈ rowIds l
      · rw [if_pos c, if_pos ⟨c, fun q => by cases q⟩]
      · rw [if_neg c, if_neg (fun q => c q.1)]
    · intro h9
      exact absurd h9 (by omega)
  | succ n ih =>
    intro k w1 g hk hR9 hM hg ho
    have hR0 := hR9
    obtain ⟨hO, ⟨f, hA, hf⟩, hl, hv⟩ := hR9
    have hk1 : k < l.length := by omega
    have hb : l.getD k 0 < 512 := hv _ (row_get l hk1)
    have hid : l.getD k 0 / 2 < 256 := by omega
    have key : ∀ t, t = rowTw (l.take (k + 1)) → kx_R E Y_R_hasCarTwice z 38 [(4, .int (nI (l.getD k 0 / 2))), (0, .ref h), (1, .ref b), (2, .int (nI (rowTw (l.take k)))), (3, .int (nI k))] [.int (nI t)] w1 0 0 Q := by
      intro t ht
      subst ht
      refine kx_istore_n d_R_hasCarTwice_38 (by decide) ?_
      refine kx_aload_n d_R_hasCarTwice_39 rfl (by first | rfl | exact kx_rf _) ?_
      refine kx_iload d_R_hasCarTwice_40 rfl ?_
      refine kx_iconst (nI 1) d_R_hasCarTwice_42 (by decide) ?_
      refine kx_zast d_R_hasCarTwice_43 hM hid (by decide) (by decide) ?_
      refine kx_iinc _ d_R_hasCarTwice_44 rfl (by decide) (nI_1 _) ?_
      refine kx_goto 4 d_R_hasCarTwice_47 (by decide) ?_
      refine kx_loc (L1 := [(0, .ref h), (1, .ref b), (2, .int (nI (rowTw (l.take (k + 1))))), (3, .int (nI (k + 1)))]) ⟨rfl, rfl, rfl, rfl, trivial⟩ ?_
      refine ih (k + 1) _ _ (by omega) (hR0.off (kx_off.rf.set (P := fun n => n = m) rfl) (fun e => hm e.symm) (fun e => hm1 e.symm)) (kx_s1 hM) (fun i hi => ?_) (ho.set rfl)
      rw [row_take hk1]
      by_cases e : i = l.getD k 0 / 2
      · rw [e, pk_us, if_pos (List.mem_append_right _ (List.mem_singleton.mpr rfl))]
      · rw [pk_un e, hg i hi]
        by_cases c : i ∈ rowIds (l.take k)
        · rw [if_pos c, if_pos (List.mem_append_left _ c)]
        · rw [if_neg c, if_neg (fun q => (List.mem_append.mp q).elim c (fun q => e (List.mem_singleton.mp q)))]
    have ht01 := rowTw_01 (l.take k)
    refine kx_iload_n d_R_hasCarTwice_4 rfl ?_
    refine kx_aload_n d_R_hasCarTwice_5 rfl (by first | rfl | exact kx_rf _) ?_
    refine kx_get _ d_R_hasCarTwice_6 f_R_15 hO (by rfl) ?_
    first | refine kx_icmp_ge_n 50 d_R_hasCarTwice_9 (by decide) (by omega) (by omega) ?_ ?_ | refine kx_icmp_ge 50 d_R_hasCarTwice_9 (by decide) ?_ ?_
    · intro h9
      exact absurd h9 (by omega)
    · intro h9
      refine kx_aload_n d_R_hasCarTwice_12 rfl (by first | rfl | exact kx_rf _) ?_
      refine kx_get _ d_R_hasCarTwice_13 f_R_9 hO (by rfl) ?_
      refine kx_iload_n d_R_hasCarTwice_16 rfl ?_
      refine kx_iald d_R_hasCarTwice_17 hA (by omega) (by decide) ?_
      rw [hf k hk1]
      refine kx_iconst (nI 1) d_R_hasCarTwice_18 (by decide) ?_
      first | refine kx_ishr _ d_R_hasCarTwice_19 (kx_shr1 (by omega)) ?_ | refine kx_ishr _ d_R_hasCarTwice_19 rfl ?_
      refine kx_istore d_R_hasCarTwice_20 (by decide) ?_
      refine kx_iload_n d_R_hasCarTwice_22 rfl ?_
      refine kx_if_ne_n 33 d_R_hasCarTwice_23 (by decide) (by omega) ?_ ?_
      · intro h23
        refine kx_iconst (nI 1) d_R_hasCarTwice_33 (by decide) ?_
        refine kx_goto 38 d_R_hasCarTwice_34 (by decide) ?_
        refine kx_loc (L1 := [(4, .int (nI (l.getD k 0 / 2))), (0, .ref h), (1, .ref b), (2, .int (nI (rowTw (l.take k)))), (3, .int (nI k))]) ⟨rfl, rfl, rfl, rfl, rfl, trivial⟩ ?_
        refine key _ ?_
        rw [rowTw_step hk1]
        first
          | (rw [if_pos (Or.inl (by omega))]; done)
          | (rw [if_neg]; rintro (q | q); · omega
             · rw [if_pos q] at h30; cases h30)
          | (rw [if_pos (Or.inr (Decidable.byContradiction (fun q => h30 (by rw [if_neg q]))))])
      · intro h23
        refine kx_aload_n d_R_hasCarTwice_26 rfl (by first | rfl | exact kx_rf _) ?_
        refine kx_iload d_R_hasCarTwice_27 rfl ?_
        refine kx_zald d_R_hasCarTwice_29 hM hid (by decide) ?_
        rw [hg _ hid]
        refine kx_if_eq_n 37 d_R_hasCarTwice_30 (by decide) (by split <;> decide) ?_ ?_
        · intro h30
          refine kx_iconst (nI 0) d_R_hasCarTwice_37 (by decide) ?_
          refine kx_loc (L1 := [(4, .int (nI (l.getD k 0 / 2))), (0, .ref h), (1, .ref b), (2, .int (nI (rowTw (l.take k)))), (3, .int (nI k))]) ⟨rfl, rfl, rfl, rfl, rfl, trivial⟩ ?_
          refine key _ ?_
          rw [rowTw_step hk1]
          first
            | (rw [if_pos (Or.inl (by omega))]; done)
            | (rw [if_neg]; rintro (q | q); · omega
               · rw [if_pos q] at h30; cases h30)
            | (rw [if_pos (Or.inr (Decidable.byContradiction (fun q => h30 (by rw [if_neg q]))))])
        · intro h30
          refine kx_iconst (nI 1) d_R_hasCarTwice_33 (by decide) ?_
          refine kx_goto 38 d_R_hasCarTwice_34 (by decide) ?_
          refine kx_loc (L1 := [(4, .int (nI (l.getD k 0 / 2))), (0, .ref h), (1, .ref b), (2, .int (nI (rowTw (l.take k)))), (3, .int (nI k))]) ⟨rfl, rfl, rfl, rfl, rfl, trivial⟩ ?_
          refine key _ ?_
          rw [rowTw_step hk1]
          first
            | (rw [if_pos (Or.inl (by omega))]; done)
            | (rw [if_neg]; rintro (q | q); · omega
               · rw [if_pos q] at h30; cases h30)
            | (rw [if_pos (Or.inr (Decidable.byContradiction (fun q => h30 (by rw [if_neg q]))))])
theorem m_R_hasCarTwice {E : kx_E} {w : va_W} {x y h a : Nat} {l : List Nat} (hR : RowAt E w x y h a l) {m b : Nat} (hm : m ≠ x) (hm1 : m ≠ y) (hM : MarksAt E w m b) : kx_S E Y_R_hasCarTwice [.ref h, .ref b] w (fun o w1 => o = .inl (some (.int (nI (rowTw l)))) ∧ RowAt E w1 x y h a l ∧ MarksAt E w1 m b ∧ kx_off w w1 (fun n => n = m)) := by
  refine kx_go (by decide) rfl rfl (Nat.le_of_ble_eq_true rfl) (kx_cc rfl (kx_cc rfl kx_c0)) (fun z => ?_)
  obtain ⟨g, hM, hg⟩ := hM
  refine kx_iconst (nI 0) d_R_hasCarTwice_0 (by decide) ?_
  refine kx_istore_n d_R_hasCarTwice_1 (by decide) ?_
  refine kx_iconst (nI 0) d_R_hasCarTwice_2 (by decide) ?_
  refine kx_istore_n d_R_hasCarTwice_3 (by decide) ?_
  refine kx_loc (L1 := [(0, .ref h), (1, .ref b), (2, .int (nI (rowTw (l.take 0)))), (3, .int (nI 0))]) ⟨rfl, rfl, rfl, rfl, trivial⟩ ?_
  exact l_R_hasCarTwice1 hR hm hm1 (fun w1 h1 h2 h3 => ⟨rfl, h1, h2, h3⟩) l.length 0 w g rfl hR hM (fun i hi => by rw [hg i hi]; rfl) kx_off.rf
theorem d_R_init_0 : decode c_R_init 0 = .ok (.aload_n 0, 1) := by decide +kernel
theorem d_R_init_1 : decode c_R_init 1 = .ok (.invokespecial 3, 3) := by decide +kernel
theorem d_R_init_4 : decode c_R_init 4 = .ok (.aload_n 0, 1) := by decide +kernel
theorem d_R_init_5 : decode c_R_init 5 = .ok (.bipush 24, 2) := by decide +kernel
theorem d_R_init_7 : decode c_R_init 7 = .ok (.newarray .int, 2) := by decide +kernel
theorem d_R_init_9 : decode c_R_init 9 = .ok (.putfield 9, 3) := by decide +kernel
theorem d_R_init_12 : decode c_R_init 12 = .ok (.return_, 1) := by decide +kernel
set_option maxHeartbeats 2000000 in
theorem m_R_init {E : kx_E} {w : va_W} {x h : Nat} (hO : w[x]? = some (h, .inr (3, [.null, .int 0]))) : kx_S E Y_R_init [.ref h] w (fun o w1 => o = .inl none ∧ ∃ a, w1 = (w ++ [(a, kx_ai E 24 (fun _ => 0))]).set x (h, .inr (3, [.ref a, .int 0]))) := by
  refine kx_go (by decide) rfl rfl (Nat.le_of_ble_eq_true rfl) (kx_cc rfl kx_c0) (fun z => ?_)
  have hx : x < w.length := (List.getElem?_eq_some_iff.mp hO).1
  refine kx_aload_n d_R_init_0 rfl (by first | rfl | exact kx_rf _) ?_
  refine kx_obj d_R_init_1 o_R_3 o_im o_cd (by decide) ?_
  refine kx_aload_n d_R_init_4 rfl (by first | rfl | exact kx_rf _) ?_
  refine kx_bipush (nI 24) d_R_init_5 (by decide) ?_
  refine kx_newa (t := 0) (n := 24) (24, .inl (fun _ => 0)) d_R_init_7 ac_int rfl rfl (fun cA => rfl) (by decide) (by decide) (by decide) (by decide) (fun q => ?_)
  have hO1 : (w ++ [(q, kx_ai E 24 (fun _ => 0))])[x]? = some (h, .inr (3, [.null, .int 0])) := by rw [List.getElem?_append_left hx]; exact hO
  refine kx_putF d_R_init_9 f_R_9 (p_R_0 q) rfl rfl rfl hO1 (by decide) ?_
  refine kx_vret d_R_init_12 rfl (by decide) (by decide) ?_
  exact ⟨rfl, q, rfl⟩
end
section
/-! The bus as a named world: 0 the bus, 1 cars, 2 cars by id, 3 marks, 4 and 5 the run; car c from 34 + 32 * c on:
0 the car, 1 its ends, 2 end 0 (3, 4 view; 5, 6 told; 7 frame: 8, 9 view, 10, 11 directory, 12 ages, 13 words), 14 end 1 alike, 26, 27 directory, 28, 29 draft, 30 ages, 31 words. A Row's items lie behind it. -/
abbrev carB (c : Nat) : Nat := 34 + 32 * c
def rowN (n x : Nat) : Prop := x = 4 ∨ (34 ≤ x ∧ x < 34 + 32 * n ∧ ((x - 34) % 32 = 3 ∨ (x - 34) % 32 = 5 ∨ (x - 34) % 32 = 8 ∨ (x - 34) % 32 = 10 ∨ (x - 34) % 32 = 15 ∨ (x - 34) % 32 = 17 ∨ (x - 34) % 32 = 20 ∨ (x - 34) % 32 = 22 ∨ (x - 34) % 32 = 26 ∨ (x - 34) % 32 = 28))
def endN (n e : Nat) : Prop := 34 ≤ e ∧ e < 34 + 32 * n ∧ ((e - 34) % 32 = 2 ∨ (e - 34) % 32 = 14)
def intN (n v : Nat) : Prop := 34 ≤ v ∧ v < 34 + 32 * n ∧ ((v - 34) % 32 = 12 ∨ (v - 34) % 32 = 13 ∨ (v - 34) % 32 = 24 ∨ (v - 34) % 32 = 25 ∨ (v - 34) % 32 = 30 ∨ (v - 34) % 32 = 31)
def up1 {α : Type} (f : Nat → α) (x : Nat) (v : α) : Nat → α := fun y => if y = x then v else f y
def up2 {α : Type} (f : Nat → Nat → α) (x k : Nat) (v : α) : Nat → Nat → α := fun y j => if y = x then (if j = k then v else f y j) else f y j
theorem up1_s {α : Type} {f : Nat → α} {x : Nat} {v : α} : up1 f x v x = v := if_pos rfl
theorem up1_n {α : Type} {f : Nat → α} {x y : Nat} {v : α} (h : y ≠ x) : up1 f x v y = f y := if_neg h
theorem up2_s {α : Type} {f : Nat → Nat → α} {x k : Nat} {v : α} : up2 f x k v x k = v := by unfold up2; rw [if_pos rfl, if_pos rfl]
theorem up2_k {α : Type} {f : Nat → Nat → α} {x k j : Nat} {v : α} (h : j ≠ k) : up2 f x k v x j = f x j := by unfold up2; rw [if_pos rfl, if_neg h]
theorem up2_n {α : Type} {f : Nat → Nat → α} {x k y : Nat} {v : α} (h : y ≠ x) (j : Nat) : up2 f x k v y j = f y j := by unfold up2; rw [if_neg h]
abbrev busC (ad : Nat → Nat) (S : Nat → Nat → Int32) : va_E := .inr (4, [.ref (ad 1), .ref (ad 2), .ref (ad 3), .ref (ad 4), .int (S 0 4), .int (S 0 5), .int (S 0 6), .int (S 0 7), .int (S 0 8)])
abbrev carC (ad : Nat → Nat) (S : Nat → Nat → Int32) (b : Nat) : va_E := .inr (0, [.int (S b 0), .int (S b 1), .ref (ad (b + 1)), .ref (ad (b + 26)), .ref (ad (b + 28)), .ref (ad (b + 30)), .ref (ad (b + 31)), .int (S b 7), .int (S b 8), .int (S b 9), .int (S b 10)])
abbrev endC (ad : Nat → Nat) (S : Nat → Nat → Int32) (pe : Nat → Option Nat) (e o : Nat) : va_E := .inr (1, [.int (S e 0), .ref (ad (e + 1)), .ref (ad (e + 3)), .ref (ad (e + 5)), .ref (ad o), va_rf ((pe e).map ad), .int (S e 6), .int (S e 7), .int (S e 8)])
abbrev frmC (ad : Nat → Nat) (S : Nat → Nat → Int32) (f : Nat) : va_E := .inr (2, [.ref (ad (f + 1)), .ref (ad (f + 3)), .ref (ad (f + 5)), .ref (ad (f + 6)), .int (S f 4), .int (S f 5)])
def Cls (E : kx_E) (w : va_W) (n : Nat) (ad : Nat → Nat) (L : Nat → List Nat) (V S : Nat → Nat → Int32) (pe bi : Nat → Option Nat) : Prop :=
  w.length = 34 + 32 * n ∧
  w[0]? = some (ad 0, busC ad S) ∧
  (∃ f, w[1]? = some (ad 1, kx_aq E 3 24 f) ∧ ∀ c, c < n → f c = some (ad (carB c))) ∧
  (∃ f, w[2]? = some (ad 2, kx_aq E 3 256 f) ∧ ∀ i, i < 256 → f i = (bi i).map (fun c => ad (carB c))) ∧
  MarksAt E w 3 (ad 3) ∧
  (∀ x, rowN n x → RowAt E w x (x + 1) (ad x) (ad (x + 1)) (L x)) ∧
  (∀ c, c < n → w[carB c]? = some (ad (carB c), carC ad S (carB c))) ∧
  (∀ c, c < n → ∃ f, w[carB c + 1]? = some (ad (carB c + 1), kx_aq E 4 2 f) ∧ f 0 = some (ad (carB c + 2)) ∧ f 1 = some (ad (carB c + 14))) ∧
  (∀ c, c < n → w[carB c + 2]? = some (ad (carB c + 2), endC ad S pe (carB c + 2) (carB c + 14))) ∧
  (∀ c, c < n → w[carB c + 14]? = some (ad (carB c + 14), endC ad S pe (carB c + 14) (carB c + 2))) ∧
  (∀ e, endN n e → w[e + 5]? = some (ad (e + 5), frmC ad S (e + 5))) ∧
  (∀ v, intN n v → ∃ g, w[v]? = some (ad v, kx_ai E 24 g) ∧ ∀ i, i < 24 → g i = V v i)
theorem Cls.len {E : kx_E} {w : va_W} {n : Nat} {ad : Nat → Nat} {L : Nat → List Nat} {V S : Nat → Nat → Int32} {pe bi : Nat → Option Nat} (h : Cls E w n ad L V S pe bi) : w.length = 34 + 32 * n := h.1
theorem Cls.bus {E : kx_E} {w : va_W} {n : Nat} {ad : Nat → Nat} {L : Nat → List Nat} {V S : Nat → Nat → Int32} {pe bi : Nat → Option Nat} (h : Cls E w n ad L V S pe bi) : w[0]? = some (ad 0, busC ad S) := h.2.1
theorem Cls.cars {E : kx_E} {w : va_W} {n : Nat} {ad : Nat → Nat} {L : Nat → List Nat} {V S : Nat → Nat → Int32} {pe bi : Nat → Option Nat} (h : Cls E w n ad L V S pe bi) : (∃ f, w[1]? = some (ad 1, kx_aq E 3 24 f) ∧ ∀ c, c < n → f c = some (ad (carB c))) := h.2.2.1
theorem Cls.byId {E : kx_E} {w : va_W} {n : Nat} {ad : Nat → Nat} {L : Nat → List Nat} {V S : Nat → Nat → Int32} {pe bi : Nat → Option Nat} (h : Cls E w n ad L V S pe bi) : (∃ f, w[2]? = some (ad 2, kx_aq E 3 256 f) ∧ ∀ i, i < 256 → f i = (bi i).map (fun c => ad (carB c))) := h.2.2.2.1
theorem Cls.marks {E : kx_E} {w : va_W} {n : Nat} {ad : Nat → Nat} {L : Nat → List Nat} {V S : Nat → Nat → Int32} {pe bi : Nat → Option Nat} (h : Cls E w n ad L V S pe bi) : MarksAt E w 3 (ad 3) := h.2.2.2.2.1
theorem Cls.row {E : kx_E} {w : va_W} {n : Nat} {ad : Nat → Nat} {L : Nat → List Nat} {V S : Nat → Nat → Int32} {pe bi : Nat → Option Nat} (h : Cls E w n ad L V S pe bi) : (∀ x, rowN n x → RowAt E w x (x + 1) (ad x) (ad (x + 1)) (L x)) := h.2.2.2.2.2.1
theorem Cls.car {E : kx_E} {w : va_W} {n : Nat} {ad : Nat → Nat} {L : Nat → List Nat} {V S : Nat → Nat → Int32} {pe bi : Nat → Option Nat} (h : Cls E w n ad L V S pe bi) : (∀ c, c < n → w[carB c]? = some (ad (carB c), carC ad S (carB c))) := h.2.2.2.2.2.2.1
theorem Cls.arr {E : kx_E} {w : va_W} {n : Nat} {ad : Nat → Nat} {L : Nat → List Nat} {V S : Nat → Nat → Int32} {pe bi : Nat → Option Nat} (h : Cls E w n ad L V S pe bi) : (∀ c, c < n → ∃ f, w[carB c + 1]? = some (ad (carB c + 1), kx_aq E 4 2 f) ∧ f 0 = some (ad (carB c + 2)) ∧ f 1 = some (ad (carB c + 14))) := h.2.2.2.2.2.2.2.1
theorem Cls.end0 {E : kx_E} {w : va_W} {n : Nat} {ad : Nat → Nat} {L : Nat → List Nat} {V S : Nat → Nat → Int32} {pe bi : Nat → Option Nat} (h : Cls E w n ad L V S pe bi) : (∀ c, c < n → w[carB c + 2]? = some (ad (carB c + 2), endC ad S pe (carB c + 2) (carB c + 14))) := h.2.2.2.2.2.2.2.2.1
theorem Cls.end1 {E : kx_E} {w : va_W} {n : Nat} {ad : Nat → Nat} {L : Nat → List Nat} {V S : Nat → Nat → Int32} {pe bi : Nat → Option Nat} (h : Cls E w n ad L V S pe bi) : (∀ c, c < n → w[carB c + 14]? = some (ad (carB c + 14), endC ad S pe (carB c + 14) (carB c + 2))) := h.2.2.2.2.2.2.2.2.2.1
theorem Cls.frm {E : kx_E} {w : va_W} {n : Nat} {ad : Nat → Nat} {L : Nat → List Nat} {V S : Nat → Nat → Int32} {pe bi : Nat → Option Nat} (h : Cls E w n ad L V S pe bi) : (∀ e, endN n e → w[e + 5]? = some (ad (e + 5), frmC ad S (e + 5))) := h.2.2.2.2.2.2.2.2.2.2.1
theorem Cls.int {E : kx_E} {w : va_W} {n : Nat} {ad : Nat → Nat} {L : Nat → List Nat} {V S : Nat → Nat → Int32} {pe bi : Nat → Option Nat} (h : Cls E w n ad L V S pe bi) : (∀ v, intN n v → ∃ g, w[v]? = some (ad v, kx_ai E 24 g) ∧ ∀ i, i < 24 → g i = V v i) := h.2.2.2.2.2.2.2.2.2.2.2
set_option maxHeartbeats 2000000 in
theorem Cls.uRow {E : kx_E} {w : va_W} {n : Nat} {ad : Nat → Nat} {L : Nat → List Nat} {V S : Nat → Nat → Int32} {pe bi : Nat → Option Nat} {w1 : va_W} (h : Cls E w n ad L V S pe bi) {x : Nat} {l : List Nat} (hx : rowN n x) (ho : kx_off w w1 (RowP x (x + 1))) (hr : RowAt E w1 x (x + 1) (ad x) (ad (x + 1)) l) : Cls E w1 n ad (up1 L x l) V S pe bi := by
  refine ⟨?_, ?_, ?_, ?_, ?_, ?_, ?_, ?_, ?_, ?_, ?_, ?_⟩
  · rw [ho.1]; exact h.len
  · exact ho.at (fun q => by unfold rowN at hx; (try simp only [carB, RowP] at *); omega) h.bus
  · obtain ⟨f, h1, h2⟩ := h.cars
    exact ⟨f, ho.at (fun q => by unfold rowN at hx; (try simp only [carB, RowP] at *); omega) h1, h2⟩
  · obtain ⟨f, h1, h2⟩ := h.byId
    exact ⟨f, ho.at (fun q => by unfold rowN at hx; (try simp only [carB, RowP] at *); omega) h1, h2⟩
  · obtain ⟨f, h1, h2⟩ := h.marks
    exact ⟨f, ho.at (fun q => by unfold rowN at hx; (try simp only [carB, RowP] at *); omega) h1, h2⟩
  · intro x9 hx9
    by_cases e : x9 = x
    · subst e; rw [up1_s]; exact hr
    · rw [up1_n e]
      have hx8 := hx9
      unfold rowN at hx8 hx
      exact (h.row x9 hx9).off ho (fun q => by (try simp only [carB, RowP] at *); omega) (fun q => by (try simp only [carB, RowP] at *); omega)
  · intro c9 hc9
    exact ho.at (fun q => by unfold rowN at hx; (try simp only [carB, RowP] at *); omega) (h.car c9 hc9)
  · intro c9 hc9
    obtain ⟨f, h1, h2⟩ := h.arr c9 hc9
    exact ⟨f, ho.at (fun q => by unfold rowN at hx; (try simp only [carB, RowP] at *); omega) h1, h2⟩
  · intro c9 hc9
    exact ho.at (fun q => by unfold rowN at hx; (try simp only [carB, RowP] at *); omega) (h.end0 c9 hc9)
  · intro c9 hc9
    exact ho.at (fun q => by unfold rowN at hx; (try simp only [carB, RowP] at *); omega) (h.end1 c9 hc9)
  · intro e9 he9
    have he8 := he9
    unfold endN at he8
    exact ho.at (fun q => by unfold rowN at hx; (try simp only [carB, RowP] at *); omega) (h.frm e9 he9)
  · intro v9 hv9
    have hv8 := hv9
    unfold intN at hv8
    obtain ⟨g9, h1, h2⟩ := h.int v9 hv9
    exact ⟨g9, ho.at (fun q => by unfold rowN at hx; (try simp only [carB, RowP] at *); omega) h1, h2⟩
set_option maxHeartbeats 2000000 in
theorem Cls.uMarks {E : kx_E} {w : va_W} {n : Nat} {ad : Nat → Nat} {L : Nat → List Nat} {V S : Nat → Nat → Int32} {pe bi : Nat → Option Nat} {w1 : va_W} (h : Cls E w n ad L V S pe bi) (ho : kx_off w w1 (fun n => n = 3)) (hm : MarksAt E w1 3 (ad 3)) : Cls E w1 n ad L V S pe bi := by
  refine ⟨?_, ?_, ?_, ?_, ?_, ?_, ?_, ?_, ?_, ?_, ?_, ?_⟩
  · rw [ho.1]; exact h.len
  · exact ho.at (fun q => by (try simp only [carB] at *); omega) h.bus
  · obtain ⟨f, h1, h2⟩ := h.cars
    exact ⟨f, ho.at (fun q => by (try simp only [carB] at *); omega) h1, h2⟩
  · obtain ⟨f, h1, h2⟩ := h.byId
    exact ⟨f, ho.at (fun q => by (try simp only [carB] at *); omega) h1, h2⟩
  · exact hm
  · intro x9 hx9
    have hx8 := hx9
    unfold rowN at hx8
    exact (h.row x9 hx9).off ho (fun q => by (try simp only [carB] at *); omega) (fun q => by (try simp only [carB] at *); omega)
  · intro c9 hc9
    exact ho.at (fun q => by (try simp only [carB] at *); omega) (h.car c9 hc9)
  · intro c9 hc9
    obtain ⟨f, h1, h2⟩ := h.arr c9 hc9
    exact ⟨f, ho.at (fun q => by (try simp only [carB] at *); omega) h1, h2⟩
  · intro c9 hc9
    exact ho.at (fun q => by (try simp only [carB] at *); omega) (h.end0 c9 hc9)
  · intro c9 hc9
    exact ho.at (fun q => by (try simp only [carB] at *); omega) (h.end1 c9 hc9)
  · intro e9 he9
    have he8 := he9
    unfold endN at he8
    exact ho.at (fun q => by (try simp only [carB] at *); omega) (h.frm e9 he9)
  · intro v9 hv9
    have hv8 := hv9
    unfold intN at hv8
    obtain ⟨g9, h1, h2⟩ := h.int v9 hv9
    exact ⟨g9, ho.at (fun q => by (try simp only [carB] at *); omega) h1, h2⟩
set_option maxHeartbeats 2000000 in
theorem Cls.uInt {E : kx_E} {w : va_W} {n : Nat} {ad : Nat → Nat} {L : Nat → List Nat} {V S : Nat → Nat → Int32} {pe bi : Nat → Option Nat} {w1 : va_W} (h : Cls E w n ad L V S pe bi) {v : Nat} {g : Nat → Int32} (hv : intN n v) (ho : kx_off w w1 (fun n => n = v)) (hg : ∃ g1, w1[v]? = some (ad v, kx_ai E 24 g1) ∧ ∀ i, i < 24 → g1 i = g i) : Cls E w1 n ad L (up1 V v g) S pe bi := by
  refine ⟨?_, ?_, ?_, ?_, ?_, ?_, ?_, ?_, ?_, ?_, ?_, ?_⟩
  · rw [ho.1]; exact h.len
  · exact ho.at (fun q => by unfold intN at hv; (try simp only [carB] at *); omega) h.bus
  · obtain ⟨f, h1, h2⟩ := h.cars
    exact ⟨f, ho.at (fun q => by unfold intN at hv; (try simp only [carB] at *); omega) h1, h2⟩
  · obtain ⟨f, h1, h2⟩ := h.byId
    exact ⟨f, ho.at (fun q => by unfold intN at hv; (try simp only [carB] at *); omega) h1, h2⟩
  · obtain ⟨f, h1, h2⟩ := h.marks
    exact ⟨f, ho.at (fun q => by unfold intN at hv; (try simp only [carB] at *); omega) h1, h2⟩
  · intro x9 hx9
    have hx8 := hx9
    unfold rowN at hx8
    exact (h.row x9 hx9).off ho (fun q => by unfold intN at hv; (try simp only [carB] at *); omega) (fun q => by unfold intN at hv; (try simp only [carB] at *); omega)
  · intro c9 hc9
    exact ho.at (fun q => by unfold intN at hv; (try simp only [carB] at *); omega) (h.car c9 hc9)
  · intro c9 hc9
    obtain ⟨f, h1, h2⟩ := h.arr c9 hc9
    exact ⟨f, ho.at (fun q => by unfold intN at hv; (try simp only [carB] at *); omega) h1, h2⟩
  · intro c9 hc9
    exact ho.at (fun q => by unfold intN at hv; (try simp only [carB] at *); omega) (h.end0 c9 hc9)
  · intro c9 hc9
    exact ho.at (fun q => by unfold intN at hv; (try simp only [carB] at *); omega) (h.end1 c9 hc9)
  · intro e9 he9
    have he8 := he9
    unfold endN at he8
    exact ho.at (fun q => by unfold intN at hv; (try simp only [carB] at *); omega) (h.frm e9 he9)
  · intro v9 hv9
    by_cases e : v9 = v
    · subst e; rw [up1_s]; exact hg
    · rw [up1_n e]
      obtain ⟨g9, h1, h2⟩ := h.int v9 hv9
      exact ⟨g9, ho.at e h1, h2⟩
set_option maxHeartbeats 2000000 in
theorem Cls.uCar {E : kx_E} {w : va_W} {n : Nat} {ad : Nat → Nat} {L : Nat → List Nat} {V S : Nat → Nat → Int32} {pe bi : Nat → Option Nat} {w1 : va_W} (h : Cls E w n ad L V S pe bi) {c : Nat} {S1 : Nat → Nat → Int32} (hc : c < n) (hS : ∀ y, y ≠ carB c → S1 y = S y) (ho : kx_off w w1 (fun n => n = carB c)) (hg : w1[carB c]? = some (ad (carB c), carC ad S1 (carB c))) : Cls E w1 n ad L V S1 pe bi := by
  refine ⟨?_, ?_, ?_, ?_, ?_, ?_, ?_, ?_, ?_, ?_, ?_, ?_⟩
  · rw [ho.1]; exact h.len
  · unfold busC; rw [hS 0 (by (try simp only [carB]); omega)]; exact ho.at (by (try simp only [carB]); omega) h.bus
  · obtain ⟨f, h1, h2⟩ := h.cars
    exact ⟨f, ho.at (fun q => by (try simp only [carB] at *); omega) h1, h2⟩
  · obtain ⟨f, h1, h2⟩ := h.byId
    exact ⟨f, ho.at (fun q => by (try simp only [carB] at *); omega) h1, h2⟩
  · obtain ⟨f, h1, h2⟩ := h.marks
    exact ⟨f, ho.at (fun q => by (try simp only [carB] at *); omega) h1, h2⟩
  · intro x9 hx9
    have hx8 := hx9
    unfold rowN at hx8
    exact (h.row x9 hx9).off ho (fun q => by (try simp only [carB] at *); omega) (fun q => by (try simp only [carB] at *); omega)
  · intro c9 hc9
    by_cases e : c9 = c
    · subst e; exact hg
    · unfold carC; rw [hS (carB c9) (by (try simp only [carB]); omega)]; exact ho.at (by (try simp only [carB]); omega) (h.car c9 hc9)
  · intro c9 hc9
    obtain ⟨f, h1, h2⟩ := h.arr c9 hc9
    exact ⟨f, ho.at (fun q => by (try simp only [carB] at *); omega) h1, h2⟩
  · intro c9 hc9
    unfold endC; rw [hS (carB c9 + 2) (by (try simp only [carB]); omega)]; exact ho.at (by (try simp only [carB]); omega) (h.end0 c9 hc9)
  · intro c9 hc9
    unfold endC; rw [hS (carB c9 + 14) (by (try simp only [carB]); omega)]; exact ho.at (by (try simp only [carB]); omega) (h.end1 c9 hc9)
  · intro e9 he9
    have he8 := he9
    unfold endN at he8
    unfold frmC; rw [hS (e9 + 5) (by (try simp only [carB] at *); omega)]; exact ho.at (by (try simp only [carB] at *); omega) (h.frm e9 he9)
  · intro v9 hv9
    have hv8 := hv9
    unfold intN at hv8
    obtain ⟨g9, h1, h2⟩ := h.int v9 hv9
    exact ⟨g9, ho.at (fun q => by (try simp only [carB] at *); omega) h1, h2⟩
set_option maxHeartbeats 2000000 in
theorem Cls.uEnd0 {E : kx_E} {w : va_W} {n : Nat} {ad : Nat → Nat} {L : Nat → List Nat} {V S : Nat → Nat → Int32} {pe bi : Nat → Option Nat} {w1 : va_W} (h : Cls E w n ad L V S pe bi) {c : Nat} {S1 : Nat → Nat → Int32} {pe1 : Nat → Option Nat} (hc : c < n) (hS : ∀ y, y ≠ carB c + 2 → S1 y = S y) (hp : ∀ y, y ≠ carB c + 2 → pe1 y = pe y) (ho : kx_off w w1 (fun n => n = carB c + 2)) (hg : w1[carB c + 2]? = some (ad (carB c + 2), endC ad S1 pe1 (carB c + 2) (carB c + 14))) : Cls E w1 n ad L V S1 pe1 bi := by
  refine ⟨?_, ?_, ?_, ?_, ?_, ?_, ?_, ?_, ?_, ?_, ?_, ?_⟩
  · rw [ho.1]; exact h.len
  · unfold busC; rw [hS 0 (by (try simp only [carB]); omega)]; exact ho.at (by (try simp only [carB]); omega) h.bus
  · obtain ⟨f, h1, h2⟩ := h.cars
    exact ⟨f, ho.at (fun q => by (try simp only [carB] at *); omega) h1, h2⟩
  · obtain ⟨f, h1, h2⟩ := h.byId
    exact ⟨f, ho.at (fun q => by (try simp only [carB] at *); omega) h1, h2⟩
  · obtain ⟨f, h1, h2⟩ := h.marks
    exact ⟨f, ho.at (fun q => by (try simp only [carB] at *); omega) h1, h2⟩
  · intro x9 hx9
    have hx8 := hx9
    unfold rowN at hx8
    exact (h.row x9 hx9).off ho (fun q => by (try simp only [carB] at *); omega) (fun q => by (try simp only [carB] at *); omega)
  · intro c9 hc9
    unfold carC; rw [hS (carB c9) (by (try simp only [carB]); omega)]; exact ho.at (by (try simp only [carB]); omega) (h.car c9 hc9)
  · intro c9 hc9
    obtain ⟨f, h1, h2⟩ := h.arr c9 hc9
    exact ⟨f, ho.at (fun q => by (try simp only [carB] at *); omega) h1, h2⟩
  · intro c9 hc9
    by_cases e : c9 = c
    · subst e; exact hg
    · unfold endC; rw [hS (carB c9 + 2) (by (try simp only [carB]); omega), hp (carB c9 + 2) (by (try simp only [carB]); omega)]; exact ho.at (by (try simp only [carB]); omega) (h.end0 c9 hc9)
  · intro c9 hc9
    unfold endC; rw [hS (carB c9 + 14) (by (try simp only [carB]); omega), hp (carB c9 + 14) (by (try simp only [carB]); omega)]; exact ho.at (by (try simp only [carB]); omega) (h.end1 c9 hc9)
  · intro e9 he9
    have he8 := he9
    unfold endN at he8
    unfold frmC; rw [hS (e9 + 5) (by (try simp only [carB] at *); omega)]; exact ho.at (by (try simp only [carB] at *); omega) (h.frm e9 he9)
  · intro v9 hv9
    have hv8 := hv9
    unfold intN at hv8
    obtain ⟨g9, h1, h2⟩ := h.int v9 hv9
    exact ⟨g9, ho.at (fun q => by (try simp only [carB] at *); omega) h1, h2⟩
set_option maxHeartbeats 2000000 in
theorem Cls.uEnd1 {E : kx_E} {w : va_W} {n : Nat} {ad : Nat → Nat} {L : Nat → List Nat} {V S : Nat → Nat → Int32} {pe bi : Nat → Option Nat} {w1 : va_W} (h : Cls E w n ad L V S pe bi) {c : Nat} {S1 : Nat → Nat → Int32} {pe1 : Nat → Option Nat} (hc : c < n) (hS : ∀ y, y ≠ carB c + 14 → S1 y = S y) (hp : ∀ y, y ≠ carB c + 14 → pe1 y = pe y) (ho : kx_off w w1 (fun n => n = carB c + 14)) (hg : w1[carB c + 14]? = some (ad (carB c + 14), endC ad S1 pe1 (carB c + 14) (carB c + 2))) : Cls E w1 n ad L V S1 pe1 bi := by
  refine ⟨?_, ?_, ?_, ?_, ?_, ?_, ?_, ?_, ?_, ?_, ?_, ?_⟩
  · rw [ho.1]; exact h.len
  · unfold busC; rw [hS 0 (by (try simp only [carB]); omega)]; exact ho.at (by (try simp only [carB]); omega) h.bus
  · obtain ⟨f, h1, h2⟩ := h.cars
    exact ⟨f, ho.at (fun q => by (try simp only [carB] at *); omega) h1, h2⟩
  · obtain ⟨f, h1, h2⟩ := h.byId
    exact ⟨f, ho.at (fun q => by (try simp only [carB] at *); omega) h1, h2⟩
  · obtain ⟨f, h1, h2⟩ := h.marks
    exact ⟨f, ho.at (fun q => by (try simp only [carB] at *); omega) h1, h2⟩
  · intro x9 hx9
    have hx8 := hx9
    unfold rowN at hx8
    exact (h.row x9 hx9).off ho (fun q => by (try simp only [carB] at *); omega) (fun q => by (try simp only [carB] at *); omega)
  · intro c9 hc9
    unfold carC; rw [hS (carB c9) (by (try simp only [carB]); omega)]; exact ho.at (by (try simp only [carB]); omega) (h.car c9 hc9)
  · intro c9 hc9
    obtain ⟨f, h1, h2⟩ := h.arr c9 hc9
    exact ⟨f, ho.at (fun q => by (try simp only [carB] at *); omega) h1, h2⟩
  · intro c9 hc9
    unfold endC; rw [hS (carB c9 + 2) (by (try simp only [carB]); omega), hp (carB c9 + 2) (by (try simp only [carB]); omega)]; exact ho.at (by (try simp only [carB]); omega) (h.end0 c9 hc9)
  · intro c9 hc9
    by_cases e : c9 = c
    · subst e; exact hg
    · unfold endC; rw [hS (carB c9 + 14) (by (try simp only [carB]); omega), hp (carB c9 + 14) (by (try simp only [carB]); omega)]; exact ho.at (by (try simp only [carB]); omega) (h.end1 c9 hc9)
  · intro e9 he9
    have he8 := he9
    unfold endN at he8
    unfold frmC; rw [hS (e9 + 5) (by (try simp only [carB] at *); omega)]; exact ho.at (by (try simp only [carB] at *); omega) (h.frm e9 he9)
  · intro v9 hv9
    have hv8 := hv9
    unfold intN at hv8
    obtain ⟨g9, h1, h2⟩ := h.int v9 hv9
    exact ⟨g9, ho.at (fun q => by (try simp only [carB] at *); omega) h1, h2⟩
set_option maxHeartbeats 2000000 in
theorem Cls.uFrm {E : kx_E} {w : va_W} {n : Nat} {ad : Nat → Nat} {L : Nat → List Nat} {V S : Nat → Nat → Int32} {pe bi : Nat → Option Nat} {w1 : va_W} (h : Cls E w n ad L V S pe bi) {e : Nat} {S1 : Nat → Nat → Int32} (he : endN n e) (hS : ∀ y, y ≠ e + 5 → S1 y = S y) (ho : kx_off w w1 (fun n => n = e + 5)) (hg : w1[e + 5]? = some (ad (e + 5), frmC ad S1 (e + 5))) : Cls E w1 n ad L V S1 pe bi := by
  refine ⟨?_, ?_, ?_, ?_, ?_, ?_, ?_, ?_, ?_, ?_, ?_, ?_⟩
  · rw [ho.1]; exact h.len
  · unfold busC; rw [hS 0 (by omega)]; exact ho.at (by omega) h.bus
  · obtain ⟨f, h1, h2⟩ := h.cars
    exact ⟨f, ho.at (fun q => by unfold endN at he; (try simp only [carB] at *); omega) h1, h2⟩
  · obtain ⟨f, h1, h2⟩ := h.byId
    exact ⟨f, ho.at (fun q => by unfold endN at he; (try simp only [carB] at *); omega) h1, h2⟩
  · obtain ⟨f, h1, h2⟩ := h.marks
    exact ⟨f, ho.at (fun q => by unfold endN at he; (try simp only [carB] at *); omega) h1, h2⟩
  · intro x9 hx9
    have hx8 := hx9
    unfold rowN at hx8
    exact (h.row x9 hx9).off ho (fun q => by unfold endN at he; (try simp only [carB] at *); omega) (fun q => by unfold endN at he; (try simp only [carB] at *); omega)
  · intro c9 hc9
    unfold endN at he
    unfold carC; rw [hS (carB c9) (by (try simp only [carB] at *); omega)]; exact ho.at (by (try simp only [carB] at *); omega) (h.car c9 hc9)
  · intro c9 hc9
    obtain ⟨f, h1, h2⟩ := h.arr c9 hc9
    exact ⟨f, ho.at (fun q => by unfold endN at he; (try simp only [carB] at *); omega) h1, h2⟩
  · intro c9 hc9
    unfold endN at he
    unfold endC; rw [hS (carB c9 + 2) (by (try simp only [carB] at *); omega)]; exact ho.at (by (try simp only [carB] at *); omega) (h.end0 c9 hc9)
  · intro c9 hc9
    unfold endN at he
    unfold endC; rw [hS (carB c9 + 14) (by (try simp only [carB] at *); omega)]; exact ho.at (by (try simp only [carB] at *); omega) (h.end1 c9 hc9)
  · intro e9 he9
    by_cases q : e9 = e
    · subst q; exact hg
    · unfold frmC; rw [hS (e9 + 5) (by omega)]; exact ho.at (by omega) (h.frm e9 he9)
  · intro v9 hv9
    have hv8 := hv9
    unfold intN at hv8
    obtain ⟨g9, h1, h2⟩ := h.int v9 hv9
    exact ⟨g9, ho.at (fun q => by unfold endN at he; (try simp only [carB] at *); omega) h1, h2⟩
set_option maxHeartbeats 2000000 in
theorem Cls.uBus {E : kx_E} {w : va_W} {n : Nat} {ad : Nat → Nat} {L : Nat → List Nat} {V S : Nat → Nat → Int32} {pe bi : Nat → Option Nat} {w1 : va_W} (h : Cls E w n ad L V S pe bi) {S1 : Nat → Nat → Int32} (hS : ∀ y, y ≠ 0 → S1 y = S y) (ho : kx_off w w1 (fun n => n = 0)) (hg : w1[0]? = some (ad 0, busC ad S1)) : Cls E w1 n ad L V S1 pe bi := by
  refine ⟨?_, ?_, ?_, ?_, ?_, ?_, ?_, ?_, ?_, ?_, ?_, ?_⟩
  · rw [ho.1]; exact h.len
  · exact hg
  · obtain ⟨f, h1, h2⟩ := h.cars
    exact ⟨f, ho.at (fun q => by (try simp only [carB] at *); omega) h1, h2⟩
  · obtain ⟨f, h1, h2⟩ := h.byId
    exact ⟨f, ho.at (fun q => by (try simp only [carB] at *); omega) h1, h2⟩
  · obtain ⟨f, h1, h2⟩ := h.marks
    exact ⟨f, ho.at (fun q => by (try simp only [carB] at *); omega) h1, h2⟩
  · intro x9 hx9
    have hx8 := hx9
    unfold rowN at hx8
    exact (h.row x9 hx9).off ho (fun q => by (try simp only [carB] at *); omega) (fun q => by (try simp only [carB] at *); omega)
  · intro c9 hc9
    unfold carC; rw [hS (carB c9) (by (try simp only [carB]); omega)]; exact ho.at (by (try simp only [carB]); omega) (h.car c9 hc9)
  · intro c9 hc9
    obtain ⟨f, h1, h2⟩ := h.arr c9 hc9
    exact ⟨f, ho.at (fun q => by (try simp only [carB] at *); omega) h1, h2⟩
  · intro c9 hc9
    unfold endC; rw [hS (carB c9 + 2) (by (try simp only [carB]); omega)]; exact ho.at (by (try simp only [carB]); omega) (h.end0 c9 hc9)
  · intro c9 hc9
    unfold endC; rw [hS (carB c9 + 14) (by (try simp only [carB]); omega)]; exact ho.at (by (try simp only [carB]); omega) (h.end1 c9 hc9)
  · intro e9 he9
    unfold frmC; rw [hS (e9 + 5) (by omega)]; exact ho.at (by omega) (h.frm e9 he9)
  · intro v9 hv9
    have hv8 := hv9
    unfold intN at hv8
    obtain ⟨g9, h1, h2⟩ := h.int v9 hv9
    exact ⟨g9, ho.at (fun q => by (try simp only [carB] at *); omega) h1, h2⟩
end
section
/-! typed rules: the bus's world before and behind -/
abbrev clsN : Nat → Prop := fun x => x < 6 ∨ 34 ≤ x
def opp (e : Nat) : Nat := if (e - 34) % 32 = 2 then e + 12 else e - 12
theorem opp0 (c : Nat) : opp (carB c + 2) = carB c + 14 := by unfold opp; rw [if_pos (by simp only [carB]; omega)]
theorem opp1 (c : Nat) : opp (carB c + 14) = carB c + 2 := by unfold opp; rw [if_neg (by simp only [carB]; omega)]; omega
theorem endN_c {n e : Nat} (he : endN n e) : ∃ c, c < n ∧ ((e = carB c + 2 ∧ opp e = carB c + 14) ∨ (e = carB c + 14 ∧ opp e = carB c + 2)) := by
  unfold endN at he
  refine ⟨(e - 34) / 32, by omega, ?_⟩
  rcases he.2.2 with h | h
  · left
    have e1 : e = carB ((e - 34) / 32) + 2 := by simp only [carB]; omega
    exact ⟨e1, by rw [e1, opp0]; simp only [carB]; omega⟩
  · right
    have e1 : e = carB ((e - 34) / 32) + 14 := by simp only [carB]; omega
    exact ⟨e1, by rw [e1, opp1]; simp only [carB]; omega⟩
theorem end0N {n c : Nat} (h : c < n) : endN n (carB c + 2) := by unfold endN; simp only [carB]; omega
theorem end1N {n c : Nat} (h : c < n) : endN n (carB c + 14) := by unfold endN; simp only [carB]; omega
theorem oppN {n e : Nat} (he : endN n e) : endN n (opp e) := by
  obtain ⟨c, hc, ⟨-, h⟩ | ⟨-, h⟩⟩ := endN_c he
  · rw [h]; exact end1N hc
  · rw [h]; exact end0N hc
theorem Cls.endAt {E : kx_E} {w : va_W} {n : Nat} {ad : Nat → Nat} {L : Nat → List Nat} {V S : Nat → Nat → Int32} {pe bi : Nat → Option Nat} (h : Cls E w n ad L V S pe bi) {e : Nat} (he : endN n e) : w[e]? = some (ad e, endC ad S pe e (opp e)) := by
  obtain ⟨c, hc, ⟨h1, h2⟩ | ⟨h1, h2⟩⟩ := endN_c he
  · rw [h2, h1]; exact h.end0 c hc
  · rw [h2, h1]; exact h.end1 c hc
theorem Cls.uEnd {E : kx_E} {w : va_W} {n : Nat} {ad : Nat → Nat} {L : Nat → List Nat} {V S : Nat → Nat → Int32} {pe bi : Nat → Option Nat} {w1 : va_W} (h : Cls E w n ad L V S pe bi) {e : Nat} {S1 : Nat → Nat → Int32} {pe1 : Nat → Option Nat} (he : endN n e) (hS : ∀ y, y ≠ e → S1 y = S y) (hp : ∀ y, y ≠ e → pe1 y = pe y) (ho : kx_off w w1 (fun x => x = e)) (hg : w1[e]? = some (ad e, endC ad S1 pe1 e (opp e))) : Cls E w1 n ad L V S1 pe1 bi := by
  obtain ⟨c, hc, ⟨h1, h2⟩ | ⟨h1, h2⟩⟩ := endN_c he
  · rw [h2] at hg; subst h1; exact h.uEnd0 hc hS hp ho hg
  · rw [h2] at hg; subst h1; exact h.uEnd1 hc hS hp ho hg
theorem kx_off.one {w w1 w0 : va_W} {x : Nat} {c : Nat × va_E} (hO : kx_off w0 w clsN) (hx : clsN x) (e : w1 = w.set x c) : kx_off w0 w1 clsN := by subst e; exact hO.set hx
theorem kx_off.set1 {w : va_W} {x : Nat} {c : Nat × va_E} : kx_off w (w.set x c) (fun n => n = x) := kx_off.rf.set rfl
theorem endN_cls {n e : Nat} (he : endN n e) : clsN e := by unfold endN at he; exact Or.inr he.1
theorem rowN_cls {n x : Nat} (hx : rowN n x) : clsN x ∧ clsN (x + 1) := by unfold rowN at hx; exact ⟨by omega, by omega⟩
theorem intN_cls {n x : Nat} (hx : intN n x) : clsN x := by unfold intN at hx; exact Or.inr hx.1
theorem cN_put6 {E : kx_E} {w w0 : va_W} {n : Nat} {ad : Nat → Nat} {L : Nat → List Nat} {V S : Nat → Nat → Int32} {pe bi : Nat → Option Nat} {Y : kx_Y} {z : kx_Z} {pc : Nat} {LL : kx_L} {st : List Value} {kc ks : Nat} {Q : kx_O → va_W → Prop} {idx e : Nat} {v : Int32} (hd : decode Y.1 pc = .ok (.putfield idx, 3)) (hf : kx_F Y.2.2.1 idx 1 6) (hp : kx_P 1 6 false (.int v)) (hC : Cls E w n ad L V S pe bi) (hO : kx_off w0 w clsN) (he : endN n e)
    (kk : ∀ w1, Cls E w1 n ad L V (up2 S e 6 v) pe bi → kx_off w0 w1 clsN → kx_R E Y z (pc + 3) LL st w1 kc ks Q) : kx_R E Y z pc LL (.int v :: .ref (ad e) :: st) w kc ks Q := by
  refine kx_put hd hf hp (hC.endAt he) (Nat.le_of_ble_eq_true rfl) (kk _ (hC.uEnd he (fun y hy => funext (up2_n hy)) (fun y _ => rfl) kx_off.set1 ?_) (hO.set (endN_cls he)))
  rw [kx_s1 (hC.endAt he)]
  simp [endC, up2]
theorem cN_put7 {E : kx_E} {w w0 : va_W} {n : Nat} {ad : Nat → Nat} {L : Nat → List Nat} {V S : Nat → Nat → Int32} {pe bi : Nat → Option Nat} {Y : kx_Y} {z : kx_Z} {pc : Nat} {LL : kx_L} {st : List Value} {kc ks : Nat} {Q : kx_O → va_W → Prop} {idx e : Nat} {v : Int32} (hd : decode Y.1 pc = .ok (.putfield idx, 3)) (hf : kx_F Y.2.2.1 idx 1 7) (hp : kx_P 1 7 false (.int v)) (hC : Cls E w n ad L V S pe bi) (hO : kx_off w0 w clsN) (he : endN n e)
    (kk : ∀ w1, Cls E w1 n ad L V (up2 S e 7 v) pe bi → kx_off w0 w1 clsN → kx_R E Y z (pc + 3) LL st w1 kc ks Q) : kx_R E Y z pc LL (.int v :: .ref (ad e) :: st) w kc ks Q := by
  refine kx_put hd hf hp (hC.endAt he) (Nat.le_of_ble_eq_true rfl) (kk _ (hC.uEnd he (fun y hy => funext (up2_n hy)) (fun y _ => rfl) kx_off.set1 ?_) (hO.set (endN_cls he)))
  rw [kx_s1 (hC.endAt he)]
  simp [endC, up2]
theorem cN_put8 {E : kx_E} {w w0 : va_W} {n : Nat} {ad : Nat → Nat} {L : Nat → List Nat} {V S : Nat → Nat → Int32} {pe bi : Nat → Option Nat} {Y : kx_Y} {z : kx_Z} {pc : Nat} {LL : kx_L} {st : List Value} {kc ks : Nat} {Q : kx_O → va_W → Prop} {idx e : Nat} {v : Int32} (hd : decode Y.1 pc = .ok (.putfield idx, 3)) (hf : kx_F Y.2.2.1 idx 1 8) (hp : kx_P 1 8 false (.int v)) (hC : Cls E w n ad L V S pe bi) (hO : kx_off w0 w clsN) (he : endN n e)
    (kk : ∀ w1, Cls E w1 n ad L V (up2 S e 8 v) pe bi → kx_off w0 w1 clsN → kx_R E Y z (pc + 3) LL st w1 kc ks Q) : kx_R E Y z pc LL (.int v :: .ref (ad e) :: st) w kc ks Q := by
  refine kx_put hd hf hp (hC.endAt he) (Nat.le_of_ble_eq_true rfl) (kk _ (hC.uEnd he (fun y hy => funext (up2_n hy)) (fun y _ => rfl) kx_off.set1 ?_) (hO.set (endN_cls he)))
  rw [kx_s1 (hC.endAt he)]
  simp [endC, up2]
theorem cN_join {E : kx_E} {w w0 : va_W} {n : Nat} {ad : Nat → Nat} {L : Nat → List Nat} {V S : Nat → Nat → Int32} {pe bi : Nat → Option Nat} {Y : kx_Y} {z : kx_Z} {pc : Nat} {LL : kx_L} {st : List Value} {kc ks : Nat} {Q : kx_O → va_W → Prop} {idx e q : Nat} (hd : decode Y.1 pc = .ok (.putfield idx, 3)) (hf : kx_F Y.2.2.1 idx 1 5) (hC : Cls E w n ad L V S pe bi) (hO : kx_off w0 w clsN) (he : endN n e)
    (kk : ∀ w1, Cls E w1 n ad L V S (up1 pe e (some q)) bi → kx_off w0 w1 clsN → kx_R E Y z (pc + 3) LL st w1 kc ks Q) : kx_R E Y z pc LL (.ref (ad q) :: .ref (ad e) :: st) w kc ks Q := by
  refine kx_put hd hf (p_N_5 _) (hC.endAt he) (Nat.le_of_ble_eq_true rfl) (kk _ (hC.uEnd he (fun y _ => rfl) (fun y hy => up1_n hy) kx_off.set1 ?_) (hO.set (endN_cls he)))
  rw [kx_s1 (hC.endAt he)]
  simp [endC, up1, va_rf]
theorem cN_part {E : kx_E} {w w0 : va_W} {n : Nat} {ad : Nat → Nat} {L : Nat → List Nat} {V S : Nat → Nat → Int32} {pe bi : Nat → Option Nat} {Y : kx_Y} {z : kx_Z} {pc : Nat} {LL : kx_L} {st : List Value} {kc ks : Nat} {Q : kx_O → va_W → Prop} {idx e : Nat} (hd : decode Y.1 pc = .ok (.putfield idx, 3)) (hf : kx_F Y.2.2.1 idx 1 5) (hC : Cls E w n ad L V S pe bi) (hO : kx_off w0 w clsN) (he : endN n e)
    (kk : ∀ w1, Cls E w1 n ad L V S (up1 pe e none) bi → kx_off w0 w1 clsN → kx_R E Y z (pc + 3) LL st w1 kc ks Q) : kx_R E Y z pc LL (.null :: .ref (ad e) :: st) w kc ks Q := by
  refine kx_put hd hf p_N_5_n (hC.endAt he) (Nat.le_of_ble_eq_true rfl) (kk _ (hC.uEnd he (fun y _ => rfl) (fun y hy => up1_n hy) kx_off.set1 ?_) (hO.set (endN_cls he)))
  rw [kx_s1 (hC.endAt he)]
  simp [endC, up1, va_rf]
theorem cC_put7 {E : kx_E} {w w0 : va_W} {n : Nat} {ad : Nat → Nat} {L : Nat → List Nat} {V S : Nat → Nat → Int32} {pe bi : Nat → Option Nat} {Y : kx_Y} {z : kx_Z} {pc : Nat} {LL : kx_L} {st : List Value} {kc ks : Nat} {Q : kx_O → va_W → Prop} {idx c : Nat} {v : Int32} (hd : decode Y.1 pc = .ok (.putfield idx, 3)) (hf : kx_F Y.2.2.1 idx 0 7) (hC : Cls E w n ad L V S pe bi) (hO : kx_off w0 w clsN) (hc : c < n)
    (kk : ∀ w1, Cls E w1 n ad L V (up2 S (carB c) 7 v) pe bi → kx_off w0 w1 clsN → kx_R E Y z (pc + 3) LL st w1 kc ks Q) : kx_R E Y z pc LL (.int v :: .ref (ad (carB c)) :: st) w kc ks Q := by
  refine kx_put hd hf (p_C_7 _) (hC.car c hc) (Nat.le_of_ble_eq_true rfl) (kk _ (hC.uCar hc (fun y hy => funext (up2_n hy)) kx_off.set1 ?_) (hO.set (Or.inr (by simp only [carB]; omega))))
  rw [kx_s1 (hC.car c hc)]
  simp [carC, up2]
theorem cC_put8 {E : kx_E} {w w0 : va_W} {n : Nat} {ad : Nat → Nat} {L : Nat → List Nat} {V S : Nat → Nat → Int32} {pe bi : Nat → Option Nat} {Y : kx_Y} {z : kx_Z} {pc : Nat} {LL : kx_L} {st : List Value} {kc ks : Nat} {Q : kx_O → va_W → Prop} {idx c : Nat} {v : Int32} (hd : decode Y.1 pc = .ok (.putfield idx, 3)) (hf : kx_F Y.2.2.1 idx 0 8) (hC : Cls E w n ad L V S pe bi) (hO : kx_off w0 w clsN) (hc : c < n)
    (kk : ∀ w1, Cls E w1 n ad L V (up2 S (carB c) 8 v) pe bi → kx_off w0 w1 clsN → kx_R E Y z (pc + 3) LL st w1 kc ks Q) : kx_R E Y z pc LL (.int v :: .ref (ad (carB c)) :: st) w kc ks Q := by
  refine kx_put hd hf (p_C_8 _) (hC.car c hc) (Nat.le_of_ble_eq_true rfl) (kk _ (hC.uCar hc (fun y hy => funext (up2_n hy)) kx_off.set1 ?_) (hO.set (Or.inr (by simp only [carB]; omega))))
  rw [kx_s1 (hC.car c hc)]
  simp [carC, up2]
theorem cC_put9 {E : kx_E} {w w0 : va_W} {n : Nat} {ad : Nat → Nat} {L : Nat → List Nat} {V S : Nat → Nat → Int32} {pe bi : Nat → Option Nat} {Y : kx_Y} {z : kx_Z} {pc : Nat} {LL : kx_L} {st : List Value} {kc ks : Nat} {Q : kx_O → va_W → Prop} {idx c : Nat} {v : Int32} (hd : decode Y.1 pc = .ok (.putfield idx, 3)) (hf : kx_F Y.2.2.1 idx 0 9) (hC : Cls E w n ad L V S pe bi) (hO : kx_off w0 w clsN) (hc : c < n)
    (kk : ∀ w1, Cls E w1 n ad L V (up2 S (carB c) 9 v) pe bi → kx_off w0 w1 clsN → kx_R E Y z (pc + 3) LL st w1 kc ks Q) : kx_R E Y z pc LL (.int v :: .ref (ad (carB c)) :: st) w kc ks Q := by
  refine kx_put hd hf (p_C_9 _) (hC.car c hc) (Nat.le_of_ble_eq_true rfl) (kk _ (hC.uCar hc (fun y hy => funext (up2_n hy)) kx_off.set1 ?_) (hO.set (Or.inr (by simp only [carB]; omega))))
  rw [kx_s1 (hC.car c hc)]
  simp [carC, up2]
theorem cC_put10 {E : kx_E} {w w0 : va_W} {n : Nat} {ad : Nat → Nat} {L : Nat → List Nat} {V S : Nat → Nat → Int32} {pe bi : Nat → Option Nat} {Y : kx_Y} {z : kx_Z} {pc : Nat} {LL : kx_L} {st : List Value} {kc ks : Nat} {Q : kx_O → va_W → Prop} {idx c : Nat} {v : Int32} (hd : decode Y.1 pc = .ok (.putfield idx, 3)) (hf : kx_F Y.2.2.1 idx 0 10) (hC : Cls E w n ad L V S pe bi) (hO : kx_off w0 w clsN) (hc : c < n)
    (kk : ∀ w1, Cls E w1 n ad L V (up2 S (carB c) 10 v) pe bi → kx_off w0 w1 clsN → kx_R E Y z (pc + 3) LL st w1 kc ks Q) : kx_R E Y z pc LL (.int v :: .ref (ad (carB c)) :: st) w kc ks Q := by
  refine kx_put hd hf (p_C_10 _) (hC.car c hc) (Nat.le_of_ble_eq_true rfl) (kk _ (hC.uCar hc (fun y hy => funext (up2_n hy)) kx_off.set1 ?_) (hO.set (Or.inr (by simp only [carB]; omega))))
  rw [kx_s1 (hC.car c hc)]
  simp [carC, up2]
theorem cF_put4 {E : kx_E} {w w0 : va_W} {n : Nat} {ad : Nat → Nat} {L : Nat → List Nat} {V S : Nat → Nat → Int32} {pe bi : Nat → Option Nat} {Y : kx_Y} {z : kx_Z} {pc : Nat} {LL : kx_L} {st : List Value} {kc ks : Nat} {Q : kx_O → va_W → Prop} {idx e : Nat} {v : Int32} (hd : decode Y.1 pc = .ok (.putfield idx, 3)) (hf : kx_F Y.2.2.1 idx 2 4) (hp : kx_P 2 4 false (.int v)) (hC : Cls E w n ad L V S pe bi) (hO : kx_off w0 w clsN) (he : endN n e)
    (kk : ∀ w1, Cls E w1 n ad L V (up2 S (e + 5) 4 v) pe bi → kx_off w0 w1 clsN → kx_R E Y z (pc + 3) LL st w1 kc ks Q) : kx_R E Y z pc LL (.int v :: .ref (ad (e + 5)) :: st) w kc ks Q := by
  refine kx_put hd hf hp (hC.frm e he) (Nat.le_of_ble_eq_true rfl) (kk _ (hC.uFrm he (fun y hy => funext (up2_n hy)) kx_off.set1 ?_) (hO.set (Or.inr (by unfold endN at he; omega))))
  rw [kx_s1 (hC.frm e he)]
  simp [frmC, up2]
theorem cF_put5 {E : kx_E} {w w0 : va_W} {n : Nat} {ad : Nat → Nat} {L : Nat → List Nat} {V S : Nat → Nat → Int32} {pe bi : Nat → Option Nat} {Y : kx_Y} {z : kx_Z} {pc : Nat} {LL : kx_L} {st : List Value} {kc ks : Nat} {Q : kx_O → va_W → Prop} {idx e : Nat} {v : Int32} (hd : decode Y.1 pc = .ok (.putfield idx, 3)) (hf : kx_F Y.2.2.1 idx 2 5) (hp : kx_P 2 5 false (.int v)) (hC : Cls E w n ad L V S pe bi) (hO : kx_off w0 w clsN) (he : endN n e)
    (kk : ∀ w1, Cls E w1 n ad L V (up2 S (e + 5) 5 v) pe bi → kx_off w0 w1 clsN → kx_R E Y z (pc + 3) LL st w1 kc ks Q) : kx_R E Y z pc LL (.int v :: .ref (ad (e + 5)) :: st) w kc ks Q := by
  refine kx_put hd hf hp (hC.frm e he) (Nat.le_of_ble_eq_true rfl) (kk _ (hC.uFrm he (fun y hy => funext (up2_n hy)) kx_off.set1 ?_) (hO.set (Or.inr (by unfold endN at he; omega))))
  rw [kx_s1 (hC.frm e he)]
  simp [frmC, up2]
theorem cB_put4 {E : kx_E} {w w0 : va_W} {n : Nat} {ad : Nat → Nat} {L : Nat → List Nat} {V S : Nat → Nat → Int32} {pe bi : Nat → Option Nat} {Y : kx_Y} {z : kx_Z} {pc : Nat} {LL : kx_L} {st : List Value} {kc ks : Nat} {Q : kx_O → va_W → Prop} {idx : Nat} {v : Int32} (hd : decode Y.1 pc = .ok (.putfield idx, 3)) (hf : kx_F Y.2.2.1 idx 4 4) (hC : Cls E w n ad L V S pe bi) (hO : kx_off w0 w clsN)
    (kk : ∀ w1, Cls E w1 n ad L V (up2 S 0 4 v) pe bi → kx_off w0 w1 clsN → kx_R E Y z (pc + 3) LL st w1 kc ks Q) : kx_R E Y z pc LL (.int v :: .ref (ad 0) :: st) w kc ks Q := by
  refine kx_put hd hf (p_B_4 _) hC.bus (Nat.le_of_ble_eq_true rfl) (kk _ (hC.uBus (fun y hy => funext (up2_n hy)) kx_off.set1 ?_) (hO.set (Or.inl (by decide))))
  rw [kx_s1 hC.bus]
  simp [busC, up2]
theorem cB_put5 {E : kx_E} {w w0 : va_W} {n : Nat} {ad : Nat → Nat} {L : Nat → List Nat} {V S : Nat → Nat → Int32} {pe bi : Nat → Option Nat} {Y : kx_Y} {z : kx_Z} {pc : Nat} {LL : kx_L} {st : List Value} {kc ks : Nat} {Q : kx_O → va_W → Prop} {idx : Nat} {v : Int32} (hd : decode Y.1 pc = .ok (.putfield idx, 3)) (hf : kx_F Y.2.2.1 idx 4 5) (hC : Cls E w n ad L V S pe bi) (hO : kx_off w0 w clsN)
    (kk : ∀ w1, Cls E w1 n ad L V (up2 S 0 5 v) pe bi → kx_off w0 w1 clsN → kx_R E Y z (pc + 3) LL st w1 kc ks Q) : kx_R E Y z pc LL (.int v :: .ref (ad 0) :: st) w kc ks Q := by
  refine kx_put hd hf (p_B_5 _) hC.bus (Nat.le_of_ble_eq_true rfl) (kk _ (hC.uBus (fun y hy => funext (up2_n hy)) kx_off.set1 ?_) (hO.set (Or.inl (by decide))))
  rw [kx_s1 hC.bus]
  simp [busC, up2]
theorem cB_put6 {E : kx_E} {w w0 : va_W} {n : Nat} {ad : Nat → Nat} {L : Nat → List Nat} {V S : Nat → Nat → Int32} {pe bi : Nat → Option Nat} {Y : kx_Y} {z : kx_Z} {pc : Nat} {LL : kx_L} {st : List Value} {kc ks : Nat} {Q : kx_O → va_W → Prop} {idx : Nat} {v : Int32} (hd : decode Y.1 pc = .ok (.putfield idx, 3)) (hf : kx_F Y.2.2.1 idx 4 6) (hC : Cls E w n ad L V S pe bi) (hO : kx_off w0 w clsN)
    (kk : ∀ w1, Cls E w1 n ad L V (up2 S 0 6 v) pe bi → kx_off w0 w1 clsN → kx_R E Y z (pc + 3) LL st w1 kc ks Q) : kx_R E Y z pc LL (.int v :: .ref (ad 0) :: st) w kc ks Q := by
  refine kx_put hd hf (p_B_6 _) hC.bus (Nat.le_of_ble_eq_true rfl) (kk _ (hC.uBus (fun y hy => funext (up2_n hy)) kx_off.set1 ?_) (hO.set (Or.inl (by decide))))
  rw [kx_s1 hC.bus]
  simp [busC, up2]
theorem cB_put7 {E : kx_E} {w w0 : va_W} {n : Nat} {ad : Nat → Nat} {L : Nat → List Nat} {V S : Nat → Nat → Int32} {pe bi : Nat → Option Nat} {Y : kx_Y} {z : kx_Z} {pc : Nat} {LL : kx_L} {st : List Value} {kc ks : Nat} {Q : kx_O → va_W → Prop} {idx : Nat} {v : Int32} (hd : decode Y.1 pc = .ok (.putfield idx, 3)) (hf : kx_F Y.2.2.1 idx 4 7) (hC : Cls E w n ad L V S pe bi) (hO : kx_off w0 w clsN)
    (kk : ∀ w1, Cls E w1 n ad L V (up2 S 0 7 v) pe bi → kx_off w0 w1 clsN → kx_R E Y z (pc + 3) LL st w1 kc ks Q) : kx_R E Y z pc LL (.int v :: .ref (ad 0) :: st) w kc ks Q := by
  refine kx_put hd hf (p_B_7 _) hC.bus (Nat.le_of_ble_eq_true rfl) (kk _ (hC.uBus (fun y hy => funext (up2_n hy)) kx_off.set1 ?_) (hO.set (Or.inl (by decide))))
  rw [kx_s1 hC.bus]
  simp [busC, up2]
theorem cB_put8 {E : kx_E} {w w0 : va_W} {n : Nat} {ad : Nat → Nat} {L : Nat → List Nat} {V S : Nat → Nat → Int32} {pe bi : Nat → Option Nat} {Y : kx_Y} {z : kx_Z} {pc : Nat} {LL : kx_L} {st : List Value} {kc ks : Nat} {Q : kx_O → va_W → Prop} {idx : Nat} {v : Int32} (hd : decode Y.1 pc = .ok (.putfield idx, 3)) (hf : kx_F Y.2.2.1 idx 4 8) (hC : Cls E w n ad L V S pe bi) (hO : kx_off w0 w clsN)
    (kk : ∀ w1, Cls E w1 n ad L V (up2 S 0 8 v) pe bi → kx_off w0 w1 clsN → kx_R E Y z (pc + 3) LL st w1 kc ks Q) : kx_R E Y z pc LL (.int v :: .ref (ad 0) :: st) w kc ks Q := by
  refine kx_put hd hf (p_B_8 _) hC.bus (Nat.le_of_ble_eq_true rfl) (kk _ (hC.uBus (fun y hy => funext (up2_n hy)) kx_off.set1 ?_) (hO.set (Or.inl (by decide))))
  rw [kx_s1 hC.bus]
  simp [busC, up2]
theorem cV_put {E : kx_E} {w w0 : va_W} {n : Nat} {ad : Nat → Nat} {L : Nat → List Nat} {V S : Nat → Nat → Int32} {pe bi : Nat → Option Nat} {Y : kx_Y} {z : kx_Z} {pc : Nat} {LL : kx_L} {st : List Value} {kc ks : Nat} {Q : kx_O → va_W → Prop} {v i : Nat} {u : Int32} (hd : decode Y.1 pc = .ok (.iastore, 1)) (hC : Cls E w n ad L V S pe bi) (hO : kx_off w0 w clsN) (hv : intN n v) (hi : i < 24)
    (kk : ∀ w1, Cls E w1 n ad L (up1 V v (upd (V v) i u)) S pe bi → kx_off w0 w1 clsN → kx_R E Y z (pc + 1) LL st w1 kc ks Q) : kx_R E Y z pc LL (.int u :: .int (nI i) :: .ref (ad v) :: st) w kc ks Q := by
  obtain ⟨g, h1, h2⟩ := hC.int v hv
  exact kx_iast hd h1 hi (by decide) (kk _ (hC.uInt hv kx_off.set1 ⟨_, kx_s1 h1, fun j hj => by unfold upd; split; rfl; exact h2 j hj⟩) (hO.set (intN_cls hv)))
theorem cV_get {E : kx_E} {w : va_W} {n : Nat} {ad : Nat → Nat} {L : Nat → List Nat} {V S : Nat → Nat → Int32} {pe bi : Nat → Option Nat} {Y : kx_Y} {z : kx_Z} {pc : Nat} {LL : kx_L} {st : List Value} {kc ks : Nat} {Q : kx_O → va_W → Prop} {v i : Nat} (hd : decode Y.1 pc = .ok (.iaload, 1)) (hC : Cls E w n ad L V S pe bi) (hv : intN n v) (hi : i < 24)
    (kk : kx_R E Y z (pc + 1) LL (.int (V v i) :: st) w kc ks Q) : kx_R E Y z pc LL (.int (nI i) :: .ref (ad v) :: st) w kc ks Q := by
  obtain ⟨g, h1, h2⟩ := hC.int v hv
  refine kx_iald hd h1 hi (by decide) ?_
  rw [h2 i hi]
  exact kk
theorem cV_copy {E : kx_E} {w w0 : va_W} {n : Nat} {ad : Nat → Nat} {L : Nat → List Nat} {V S : Nat → Nat → Int32} {pe bi : Nat → Option Nat} {Y : kx_Y} {z : kx_Z} {pc : Nat} {LL : kx_L} {st : List Value} {kc ks : Nat} {Q : kx_O → va_W → Prop} {idx v v1 m : Nat} (hd : decode Y.1 pc = .ok (.invokestatic idx, 3)) (hc : kx_CP Y.2.2.1 idx) (hC : Cls E w n ad L V S pe bi) (hO : kx_off w0 w clsN) (hv : intN n v) (hv1 : intN n v1) (hm : m ≤ 24) (hst : (st.map fun v => v.category).sum ≤ 8) (hdl : 1 ≤ Y.2.2.2.2.2.2.2.1)
    (kk : ∀ w1, Cls E w1 n ad L (up1 V v1 (fun i => if i < m then V v i else V v1 i)) S pe bi → kx_off w0 w1 clsN → kx_R E Y z (pc + 3) LL st w1 kc ks Q) : kx_R E Y z pc LL (.int (nI m) :: .int (nI 0) :: .ref (ad v1) :: .int (nI 0) :: .ref (ad v) :: st) w kc ks Q := by
  obtain ⟨g, h1, h2⟩ := hC.int v hv
  obtain ⟨g1, h3, h4⟩ := hC.int v1 hv1
  refine kx_copy hd hc h1 h3 (by decide) (by decide) (by omega) (by omega) hst hdl (kk _ (hC.uInt hv1 kx_off.set1 ⟨_, kx_s1 h3, fun j hj => ?_⟩) (hO.set (intN_cls hv1)))
  by_cases e : j < m
  · rw [pk_cpy_in (by omega) (by omega), if_pos e, show 0 + (j - 0) = j by omega, h2 j hj]
  · rw [pk_cpy_out (Or.inr (by omega)), if_neg e, h4 j hj]
def carE (c i : Nat) : Nat := if i = 0 then carB c + 2 else carB c + 14
theorem carE_N {n c i : Nat} (hc : c < n) : endN n (carE c i) := by unfold carE; split; exact end0N hc; exact end1N hc
theorem cA_end {E : kx_E} {w : va_W} {n : Nat} {ad : Nat → Nat} {L : Nat → List Nat} {V S : Nat → Nat → Int32} {pe bi : Nat → Option Nat} {Y : kx_Y} {z : kx_Z} {pc : Nat} {LL : kx_L} {st : List Value} {kc ks : Nat} {Q : kx_O → va_W → Prop} {c i : Nat} (hd : decode Y.1 pc = .ok (.aaload, 1)) (hC : Cls E w n ad L V S pe bi) (hc : c < n) (hi : i < 2)
    (kk : kx_R E Y z (pc + 1) LL (.ref (ad (carE c i)) :: st) w kc ks Q) : kx_R E Y z pc LL (.int (nI i) :: .ref (ad (carB c + 1)) :: st) w kc ks Q := by
  obtain ⟨f, h1, h2, h3⟩ := hC.arr c hc
  refine kx_aald hd h1 rfl hi (by decide) ?_
  have e : f i = some (ad (carE c i)) := by
    unfold carE
    by_cases h : i = 0
    · subst h; exact h2
    · have : i = 1 := by omega
      subst this; exact h3
  rw [e]
  exact kk
theorem kx_off.row {w w0 w1 : va_W} {n x : Nat} (hO : kx_off w0 w clsN) (hx : rowN n x) (ho : kx_off w w1 (RowP x (x + 1))) : kx_off w0 w1 clsN :=
  hO.tr ho (fun _ h => h) (fun m h => by rcases h with rfl | rfl; exact (rowN_cls hx).1; exact (rowN_cls hx).2)
theorem Cls.rowObj {E : kx_E} {w : va_W} {n : Nat} {ad : Nat → Nat} {L : Nat → List Nat} {V S : Nat → Nat → Int32} {pe bi : Nat → Option Nat} (h : Cls E w n ad L V S pe bi) {x : Nat} (hx : rowN n x) : w[x]? = some (ad x, .inr (3, [.ref (ad (x + 1)), .int (nI (L x).length)])) := (h.row x hx).1
theorem cR_clear {E : kx_E} {w w0 : va_W} {n : Nat} {ad : Nat → Nat} {L : Nat → List Nat} {V S : Nat → Nat → Int32} {pe bi : Nat → Option Nat} {Y : kx_Y} {z : kx_Z} {pc : Nat} {LL : kx_L} {st : List Value} {kc ks : Nat} {Q : kx_O → va_W → Prop} {idx x : Nat} (hd : decode Y.1 pc = .ok (.invokevirtual idx, 3)) (hl : kx_LV Y.2.2.1 idx 0 Y_R_clear) (hC : Cls E w n ad L V S pe bi) (hO : kx_off w0 w clsN) (hx : rowN n x)  (hlv : 2 ≤ Y.2.2.2.2.2.2.2.1) (hst : (st.map fun v => v.category).sum ≤ 8) (h1 : kc ≤ Y.2.2.2.2.2.1) (h2 : ks ≤ Y.2.2.2.2.2.2.1)
    (kk : ∀ w1, Cls E w1 n ad (up1 L x ([])) V S pe bi → kx_off w0 w1 clsN → kx_R E Y z (pc + 3) LL st w1 kc ks Q) : kx_R E Y z pc LL (.ref (ad x) :: st) w kc ks Q := by
  refine kx_callV (as := []) (rest := st) hd hl rfl (hC.rowObj hx) rfl rfl hlv (by decide) hst h1 h2 rfl (m_R_clear (hC.row x hx)) (fun X w1 h => by cases h.1) (fun v w1 hq => ?_)
  obtain ⟨hv, hr, ho⟩ := hq
  cases hv
  exact kk w1 (hC.uRow hx ho hr) (hO.row hx ho)
theorem cR_append {E : kx_E} {w w0 : va_W} {n : Nat} {ad : Nat → Nat} {L : Nat → List Nat} {V S : Nat → Nat → Int32} {pe bi : Nat → Option Nat} {Y : kx_Y} {z : kx_Z} {pc : Nat} {LL : kx_L} {st : List Value} {kc ks : Nat} {Q : kx_O → va_W → Prop} {idx x : Nat} (hd : decode Y.1 pc = .ok (.invokevirtual idx, 3)) (hl : kx_LV Y.2.2.1 idx 1 Y_R_append) (hC : Cls E w n ad L V S pe bi) (hO : kx_off w0 w clsN) (hx : rowN n x) {u : Nat} (hu : u < 512) (hlv : 2 ≤ Y.2.2.2.2.2.2.2.1) (hst : (st.map fun v => v.category).sum ≤ 8) (h1 : kc ≤ Y.2.2.2.2.2.1) (h2 : ks ≤ Y.2.2.2.2.2.2.1)
    (kk : ∀ w1, Cls E w1 n ad (up1 L x (if (L x).length < 24 then L x ++ [u] else L x)) V S pe bi → kx_off w0 w1 clsN → kx_R E Y z (pc + 3) LL st w1 kc ks Q) : kx_R E Y z pc LL (.int (nI u) :: .ref (ad x) :: st) w kc ks Q := by
  refine kx_callV (as := [.int (nI u)]) (rest := st) hd hl rfl (hC.rowObj hx) rfl rfl hlv (by decide) hst h1 h2 rfl (m_R_append (hC.row x hx) hu) (fun X w1 h => by cases h.1) (fun v w1 hq => ?_)
  obtain ⟨hv, hr, ho⟩ := hq
  cases hv
  exact kk w1 (hC.uRow hx ho hr) (hO.row hx ho)
theorem cR_turnRound {E : kx_E} {w w0 : va_W} {n : Nat} {ad : Nat → Nat} {L : Nat → List Nat} {V S : Nat → Nat → Int32} {pe bi : Nat → Option Nat} {Y : kx_Y} {z : kx_Z} {pc : Nat} {LL : kx_L} {st : List Value} {kc ks : Nat} {Q : kx_O → va_W → Prop} {idx x : Nat} (hd : decode Y.1 pc = .ok (.invokevirtual idx, 3)) (hl : kx_LV Y.2.2.1 idx 0 Y_R_turnRound) (hC : Cls E w n ad L V S pe bi) (hO : kx_off w0 w clsN) (hx : rowN n x)  (hlv : 2 ≤ Y.2.2.2.2.2.2.2.1) (hst : (st.map fun v => v.category).sum ≤ 8) (h1 : kc ≤ Y.2.2.2.2.2.1) (h2 : ks ≤ Y.2.2.2.2.2.2.1)
    (kk : ∀ w1, Cls E w1 n ad (up1 L x (rowTurn (L x))) V S pe bi → kx_off w0 w1 clsN → kx_R E Y z (pc + 3) LL st w1 kc ks Q) : kx_R E Y z pc LL (.ref (ad x) :: st) w kc ks Q := by
  refine kx_callV (as := []) (rest := st) hd hl rfl (hC.rowObj hx) rfl rfl hlv (by decide) hst h1 h2 rfl (m_R_turnRound (hC.row x hx)) (fun X w1 h => by cases h.1) (fun v w1 hq => ?_)
  obtain ⟨hv, hr, ho⟩ := hq
  cases hv
  exact kk w1 (hC.uRow hx ho hr) (hO.row hx ho)
theorem cR_copyFrom {E : kx_E} {w w0 : va_W} {n : Nat} {ad : Nat → Nat} {L : Nat → List Nat} {V S : Nat → Nat → Int32} {pe bi : Nat → Option Nat} {Y : kx_Y} {z : kx_Z} {pc : Nat} {LL : kx_L} {st : List Value} {kc ks : Nat} {Q : kx_O → va_W → Prop} {idx x : Nat} (hd : decode Y.1 pc = .ok (.invokevirtual idx, 3)) (hl : kx_LV Y.2.2.1 idx 1 Y_R_copyFrom) (hC : Cls E w n ad L V S pe bi) (hO : kx_off w0 w clsN) (hx : rowN n x) {y : Nat} (hy : rowN n y) (hxy : x ≠ y) (hlv : 2 ≤ Y.2.2.2.2.2.2.2.1) (hst : (st.map fun v => v.category).sum ≤ 8) (h1 : kc ≤ Y.2.2.2.2.2.1) (h2 : ks ≤ Y.2.2.2.2.2.2.1)
    (kk : ∀ w1, Cls E w1 n ad (up1 L x (L y)) V S pe bi → kx_off w0 w1 clsN → kx_R E Y z (pc + 3) LL st w1 kc ks Q) : kx_R E Y z pc LL (.ref (ad y) :: .ref (ad x) :: st) w kc ks Q := by
  refine kx_callV (as := [.ref (ad y)]) (rest := st) hd hl rfl (hC.rowObj hx) rfl rfl hlv (by decide) hst h1 h2 rfl (m_R_copyFrom (hC.row x hx) (hC.row y hy) (Ne.symm hxy) (by omega)) (fun X w1 h => by cases h.1) (fun v w1 hq => ?_)
  obtain ⟨hv, hr, ho⟩ := hq
  cases hv
  exact kk w1 (hC.uRow hx ho hr) (hO.row hx ho)
theorem cR_appendAll {E : kx_E} {w w0 : va_W} {n : Nat} {ad : Nat → Nat} {L : Nat → List Nat} {V S : Nat → Nat → Int32} {pe bi : Nat → Option Nat} {Y : kx_Y} {z : kx_Z} {pc : Nat} {LL : kx_L} {st : List Value} {kc ks : Nat} {Q : kx_O → va_W → Prop} {idx x : Nat} (hd : decode Y.1 pc = .ok (.invokevirtual idx, 3)) (hl : kx_LV Y.2.2.1 idx 1 Y_R_appendAll) (hC : Cls E w n ad L V S pe bi) (hO : kx_off w0 w clsN) (hx : rowN n x) {y : Nat} (hy : rowN n y) (hxy : x ≠ y) (hlv : 2 ≤ Y.2.2.2.2.2.2.2.1) (hst : (st.map fun v => v.category).sum ≤ 8) (h1 : kc ≤ Y.2.2.2.2.2.1) (h2 : ks ≤ Y.2.2.2.2.2.2.1)
    (kk : ∀ w1, Cls E w1 n ad (up1 L x ((L x ++ L y).take 24)) V S pe bi → kx_off w0 w1 clsN → kx_R E Y z (pc + 3) LL st w1 kc ks Q) : kx_R E Y z pc LL (.ref (ad y) :: .ref (ad x) :: st) w kc ks Q := by
  refine kx_callV (as := [.ref (ad y)]) (rest := st) hd hl rfl (hC.rowObj hx) rfl rfl hlv (by decide) hst h1 h2 rfl (m_R_appendAll (hC.row x hx) (hC.row y hy) (Ne.symm hxy) (by omega)) (fun X w1 h => by cases h.1) (fun v w1 hq => ?_)
  obtain ⟨hv, hr, ho⟩ := hq
  cases hv
  exact kk w1 (hC.uRow hx ho hr) (hO.row hx ho)
theorem cR_isSameAs {E : kx_E} {w : va_W} {n : Nat} {ad : Nat → Nat} {L : Nat → List Nat} {V S : Nat → Nat → Int32} {pe bi : Nat → Option Nat} {Y : kx_Y} {z : kx_Z} {pc : Nat} {LL : kx_L} {st : List Value} {kc ks : Nat} {Q : kx_O → va_W → Prop} {idx x : Nat} (hd : decode Y.1 pc = .ok (.invokevirtual idx, 3)) (hl : kx_LV Y.2.2.1 idx 1 Y_R_isSameAs) (hC : Cls E w n ad L V S pe bi) (hx : rowN n x) {y : Nat} (hy : rowN n y) (hlv : 2 ≤ Y.2.2.2.2.2.2.2.1) (hst : (st.map fun v => v.category).sum ≤ 8) (h1 : kc ≤ Y.2.2.2.2.2.1) (h2 : ks ≤ Y.2.2.2.2.2.2.1)
    (kk : kx_R E Y z (pc + 3) LL (.int (nI (if L x = L y then 1 else 0)) :: st) w kc ks Q) : kx_R E Y z pc LL (.ref (ad y) :: .ref (ad x) :: st) w kc ks Q := by
  refine kx_callV (as := [.ref (ad y)]) (rest := st) hd hl rfl (hC.rowObj hx) rfl rfl hlv (by decide) hst h1 h2 rfl (m_R_isSameAs (hC.row x hx) (hC.row y hy)) (fun X w1 h => by cases h.1) (fun v w1 hq => ?_)
  obtain ⟨hv, hw⟩ := hq
  cases hv
  subst hw
  exact kk
theorem cR_numberOf {E : kx_E} {w : va_W} {n : Nat} {ad : Nat → Nat} {L : Nat → List Nat} {V S : Nat → Nat → Int32} {pe bi : Nat → Option Nat} {Y : kx_Y} {z : kx_Z} {pc : Nat} {LL : kx_L} {st : List Value} {kc ks : Nat} {Q : kx_O → va_W → Prop} {idx x : Nat} (hd : decode Y.1 pc = .ok (.invokevirtual idx, 3)) (hl : kx_LV Y.2.2.1 idx 1 Y_R_numberOf) (hC : Cls E w n ad L V S pe bi) (hx : rowN n x) {i : Nat} (hi : i < 2 ^ 31) (hlv : 2 ≤ Y.2.2.2.2.2.2.2.1) (hst : (st.map fun v => v.category).sum ≤ 8) (h1 : kc ≤ Y.2.2.2.2.2.1) (h2 : ks ≤ Y.2.2.2.2.2.2.1)
    (kk : kx_R E Y z (pc + 3) LL (.int (nI (rowNo i (L x) 0)) :: st) w kc ks Q) : kx_R E Y z pc LL (.int (nI i) :: .ref (ad x) :: st) w kc ks Q := by
  refine kx_callV (as := [.int (nI i)]) (rest := st) hd hl rfl (hC.rowObj hx) rfl rfl hlv (by decide) hst h1 h2 rfl (m_R_numberOf (hC.row x hx) hi) (fun X w1 h => by cases h.1) (fun v w1 hq => ?_)
  obtain ⟨hv, hw⟩ := hq
  cases hv
  subst hw
  exact kk
theorem cR_itemAt {E : kx_E} {w : va_W} {n : Nat} {ad : Nat → Nat} {L : Nat → List Nat} {V S : Nat → Nat → Int32} {pe bi : Nat → Option Nat} {Y : kx_Y} {z : kx_Z} {pc : Nat} {LL : kx_L} {st : List Value} {kc ks : Nat} {Q : kx_O → va_W → Prop} {idx x : Nat} (hd : decode Y.1 pc = .ok (.invokevirtual idx, 3)) (hl : kx_LV Y.2.2.1 idx 1 Y_R_itemAt) (hC : Cls E w n ad L V S pe bi) (hx : rowN n x) {j : Nat} (hj : j < (L x).length) (hlv : 2 ≤ Y.2.2.2.2.2.2.2.1) (hst : (st.map fun v => v.category).sum ≤ 8) (h1 : kc ≤ Y.2.2.2.2.2.1) (h2 : ks ≤ Y.2.2.2.2.2.2.1)
    (kk : kx_R E Y z (pc + 3) LL (.int (nI ((L x).getD j 0)) :: st) w kc ks Q) : kx_R E Y z pc LL (.int (nI j) :: .ref (ad x) :: st) w kc ks Q := by
  refine kx_callV (as := [.int (nI j)]) (rest := st) hd hl rfl (hC.rowObj hx) rfl rfl hlv (by decide) hst h1 h2 rfl (m_R_itemAt (hC.row x hx) hj) (fun X w1 h => by cases h.1) (fun v w1 hq => ?_)
  obtain ⟨hv, hw⟩ := hq
  cases hv
  subst hw
  exact kk
theorem cR_itemAt_no {E : kx_E} {w : va_W} {n : Nat} {ad : Nat → Nat} {L : Nat → List Nat} {V S : Nat → Nat → Int32} {pe bi : Nat → Option Nat} {Y : kx_Y} {z : kx_Z} {pc : Nat} {LL : kx_L} {st : List Value} {kc ks : Nat} {Q : kx_O → va_W → Prop} {idx x : Nat} (hd : decode Y.1 pc = .ok (.invokevirtual idx, 3)) (hl : kx_LV Y.2.2.1 idx 1 Y_R_itemAt) (hC : Cls E w n ad L V S pe bi) (hx : rowN n x) {u : Int32} (hu : u < 0 ∨ nI (L x).length ≤ u) (hlv : 2 ≤ Y.2.2.2.2.2.2.2.1) (hst : (st.map fun v => v.category).sum ≤ 8) (h1 : kc ≤ Y.2.2.2.2.2.1) (h2 : ks ≤ Y.2.2.2.2.2.2.1)
    (kk : kx_R E Y z (pc + 3) LL (.int (-1) :: st) w kc ks Q) : kx_R E Y z pc LL (.int u :: .ref (ad x) :: st) w kc ks Q := by
  refine kx_callV (as := [.int u]) (rest := st) hd hl rfl (hC.rowObj hx) rfl rfl hlv (by decide) hst h1 h2 rfl (m_R_itemAt_no (hC.row x hx) hu) (fun X w1 h => by cases h.1) (fun v w1 hq => ?_)
  obtain ⟨hv, hw⟩ := hq
  cases hv
  subst hw
  exact kk
theorem cR_idAt {E : kx_E} {w : va_W} {n : Nat} {ad : Nat → Nat} {L : Nat → List Nat} {V S : Nat → Nat → Int32} {pe bi : Nat → Option Nat} {Y : kx_Y} {z : kx_Z} {pc : Nat} {LL : kx_L} {st : List Value} {kc ks : Nat} {Q : kx_O → va_W → Prop} {idx x : Nat} (hd : decode Y.1 pc = .ok (.invokevirtual idx, 3)) (hl : kx_LV Y.2.2.1 idx 1 Y_R_idAt) (hC : Cls E w n ad L V S pe bi) (hx : rowN n x) {j : Nat} (hj : j < (L x).length) (hlv : 2 ≤ Y.2.2.2.2.2.2.2.1) (hst : (st.map fun v => v.category).sum ≤ 8) (h1 : kc ≤ Y.2.2.2.2.2.1) (h2 : ks ≤ Y.2.2.2.2.2.2.1)
    (kk : kx_R E Y z (pc + 3) LL (.int (nI ((L x).getD j 0 / 2)) :: st) w kc ks Q) : kx_R E Y z pc LL (.int (nI (j + 1)) :: .ref (ad x) :: st) w kc ks Q := by
  refine kx_callV (as := [.int (nI (j + 1))]) (rest := st) hd hl rfl (hC.rowObj hx) rfl rfl hlv (by decide) hst h1 h2 rfl (m_R_idAt (hC.row x hx) hj) (fun X w1 h => by cases h.1) (fun v w1 hq => ?_)
  obtain ⟨hv, hw⟩ := hq
  cases hv
  subst hw
  exact kk
theorem cR_idAt_no {E : kx_E} {w : va_W} {n : Nat} {ad : Nat → Nat} {L : Nat → List Nat} {V S : Nat → Nat → Int32} {pe bi : Nat → Option Nat} {Y : kx_Y} {z : kx_Z} {pc : Nat} {LL : kx_L} {st : List Value} {kc ks : Nat} {Q : kx_O → va_W → Prop} {idx x : Nat} (hd : decode Y.1 pc = .ok (.invokevirtual idx, 3)) (hl : kx_LV Y.2.2.1 idx 1 Y_R_idAt) (hC : Cls E w n ad L V S pe bi) (hx : rowN n x) {u : Int32} (hu : u < nI 1 ∨ nI (L x).length < u) (hlv : 2 ≤ Y.2.2.2.2.2.2.2.1) (hst : (st.map fun v => v.category).sum ≤ 8) (h1 : kc ≤ Y.2.2.2.2.2.1) (h2 : ks ≤ Y.2.2.2.2.2.2.1)
    (kk : kx_R E Y z (pc + 3) LL (.int (-1) :: st) w kc ks Q) : kx_R E Y z pc LL (.int u :: .ref (ad x) :: st) w kc ks Q := by
  refine kx_callV (as := [.int u]) (rest := st) hd hl rfl (hC.rowObj hx) rfl rfl hlv (by decide) hst h1 h2 rfl (m_R_idAt_no (hC.row x hx) hu) (fun X w1 h => by cases h.1) (fun v w1 hq => ?_)
  obtain ⟨hv, hw⟩ := hq
  cases hv
  subst hw
  exact kk
theorem cR_endAt {E : kx_E} {w : va_W} {n : Nat} {ad : Nat → Nat} {L : Nat → List Nat} {V S : Nat → Nat → Int32} {pe bi : Nat → Option Nat} {Y : kx_Y} {z : kx_Z} {pc : Nat} {LL : kx_L} {st : List Value} {kc ks : Nat} {Q : kx_O → va_W → Prop} {idx x : Nat} (hd : decode Y.1 pc = .ok (.invokevirtual idx, 3)) (hl : kx_LV Y.2.2.1 idx 1 Y_R_endAt) (hC : Cls E w n ad L V S pe bi) (hx : rowN n x) {j : Nat} (hj : j < (L x).length) (hlv : 2 ≤ Y.2.2.2.2.2.2.2.1) (hst : (st.map fun v => v.category).sum ≤ 8) (h1 : kc ≤ Y.2.2.2.2.2.1) (h2 : ks ≤ Y.2.2.2.2.2.2.1)
    (kk : kx_R E Y z (pc + 3) LL (.int (nI ((L x).getD j 0 % 2)) :: st) w kc ks Q) : kx_R E Y z pc LL (.int (nI (j + 1)) :: .ref (ad x) :: st) w kc ks Q := by
  refine kx_callV (as := [.int (nI (j + 1))]) (rest := st) hd hl rfl (hC.rowObj hx) rfl rfl hlv (by decide) hst h1 h2 rfl (m_R_endAt (hC.row x hx) hj) (fun X w1 h => by cases h.1) (fun v w1 hq => ?_)
  obtain ⟨hv, hw⟩ := hq
  cases hv
  subst hw
  exact kk
theorem cR_endAt_no {E : kx_E} {w : va_W} {n : Nat} {ad : Nat → Nat} {L : Nat → List Nat} {V S : Nat → Nat → Int32} {pe bi : Nat → Option Nat} {Y : kx_Y} {z : kx_Z} {pc : Nat} {LL : kx_L} {st : List Value} {kc ks : Nat} {Q : kx_O → va_W → Prop} {idx x : Nat} (hd : decode Y.1 pc = .ok (.invokevirtual idx, 3)) (hl : kx_LV Y.2.2.1 idx 1 Y_R_endAt) (hC : Cls E w n ad L V S pe bi) (hx : rowN n x) {u : Int32} (hu : u < nI 1 ∨ nI (L x).length < u) (hlv : 2 ≤ Y.2.2.2.2.2.2.2.1) (hst : (st.map fun v => v.category).sum ≤ 8) (h1 : kc ≤ Y.2.2.2.2.2.1) (h2 : ks ≤ Y.2.2.2.2.2.2.1)
    (kk : kx_R E Y z (pc + 3) LL (.int (-1) :: st) w kc ks Q) : kx_R E Y z pc LL (.int u :: .ref (ad x) :: st) w kc ks Q := by
  refine kx_callV (as := [.int u]) (rest := st) hd hl rfl (hC.rowObj hx) rfl rfl hlv (by decide) hst h1 h2 rfl (m_R_endAt_no (hC.row x hx) hu) (fun X w1 h => by cases h.1) (fun v w1 hq => ?_)
  obtain ⟨hv, hw⟩ := hq
  cases hv
  subst hw
  exact kk
theorem cR_hasCarTwice {E : kx_E} {w w0 : va_W} {n : Nat} {ad : Nat → Nat} {L : Nat → List Nat} {V S : Nat → Nat → Int32} {pe bi : Nat → Option Nat} {Y : kx_Y} {z : kx_Z} {pc : Nat} {LL : kx_L} {st : List Value} {kc ks : Nat} {Q : kx_O → va_W → Prop} {idx x : Nat} (hd : decode Y.1 pc = .ok (.invokevirtual idx, 3)) (hl : kx_LV Y.2.2.1 idx 1 Y_R_hasCarTwice) (hC : Cls E w n ad L V S pe bi) (hO : kx_off w0 w clsN) (hx : rowN n x) (hlv : 2 ≤ Y.2.2.2.2.2.2.2.1) (hst : (st.map fun v => v.category).sum ≤ 8) (h1 : kc ≤ Y.2.2.2.2.2.1) (h2 : ks ≤ Y.2.2.2.2.2.2.1)
    (kk : ∀ w1, Cls E w1 n ad L V S pe bi → kx_off w0 w1 clsN → kx_R E Y z (pc + 3) LL (.int (nI (rowTw (L x))) :: st) w1 kc ks Q) : kx_R E Y z pc LL (.ref (ad 3) :: .ref (ad x) :: st) w kc ks Q := by
  refine kx_callV (as := [.ref (ad 3)]) (rest := st) hd hl rfl (hC.rowObj hx) rfl rfl hlv (by decide) hst h1 h2 rfl (m_R_hasCarTwice (hC.row x hx) (m := 3) (by unfold rowN at hx; omega) (by unfold rowN at hx; omega) hC.marks) (fun X w1 h => by cases h.1) (fun v w1 hq => ?_)
  obtain ⟨hv, hr, hm, ho⟩ := hq
  cases hv
  exact kk w1 (hC.uMarks ho hm) (hO.tr ho (fun _ h => h) (fun m h => Or.inl (by omega)))
end
section
section KXK
variable {E : kx_E} {Y : kx_Y} {z : kx_Z} {pc : Nat} {L : kx_L} {st : List Value} {w : va_W} {kc ks : Nat} {Q : kx_O → va_W → Prop}
theorem kx_stk {st1 : List Value} (h : st = st1) (kk : kx_R E Y z pc L st1 w kc ks Q) : kx_R E Y z pc L st w kc ks Q := h ▸ kk
end KXK
end
section
/-! End's methods -/
theorem Cls.cgL {E : kx_E} {w : va_W} {n : Nat} {ad : Nat → Nat} {L L1 : Nat → List Nat} {V S : Nat → Nat → Int32} {pe bi : Nat → Option Nat} (h : Cls E w n ad L V S pe bi) (e : L = L1) : Cls E w n ad L1 V S pe bi := e ▸ h
def CQ (E : kx_E) (w0 : va_W) (n : Nat) (ad : Nat → Nat) (L : Nat → List Nat) (V S : Nat → Nat → Int32) (pe bi : Nat → Option Nat) (r : Option Value) : kx_O → va_W → Prop := fun o w1 => o = .inl r ∧ Cls E w1 n ad L V S pe bi ∧ kx_off w0 w1 clsN
def peOk (n : Nat) (pe : Nat → Option Nat) : Prop := ∀ e q, endN n e → pe e = some q → endN n q
def lostI (losses num : Int32) : Bool := decide (¬ (losses >>> (num &&& 31) &&& nI 1) = 0)
theorem rowN_e1 {n e : Nat} (he : endN n e) : rowN n (e + 1) := by unfold endN at he; unfold rowN; omega
theorem rowN_e3 {n e : Nat} (he : endN n e) : rowN n (e + 3) := by unfold endN at he; unfold rowN; omega
theorem rowN_e6 {n e : Nat} (he : endN n e) : rowN n (e + 5 + 1) := by unfold endN at he; unfold rowN; omega
theorem rowN_e8 {n e : Nat} (he : endN n e) : rowN n (e + 5 + 3) := by unfold endN at he; unfold rowN; omega
theorem d_N_join_0 : decode c_N_join 0 = .ok (.aload_n 0, 1) := by decide +kernel
theorem d_N_join_1 : decode c_N_join 1 = .ok (.aload_n 1, 1) := by decide +kernel
theorem d_N_join_2 : decode c_N_join 2 = .ok (.putfield 35, 3) := by decide +kernel
theorem d_N_join_5 : decode c_N_join 5 = .ok (.aload_n 0, 1) := by decide +kernel
theorem d_N_join_6 : decode c_N_join 6 = .ok (.iload_n 2, 1) := by decide +kernel
theorem d_N_join_7 : decode c_N_join 7 = .ok (.putfield 32, 3) := by decide +kernel
theorem d_N_join_10 : decode c_N_join 10 = .ok (.return_, 1) := by decide +kernel
set_option maxHeartbeats 2000000 in
theorem m_N_join {E : kx_E} {w : va_W} {n : Nat} {ad : Nat → Nat} {L : Nat → List Nat} {V S : Nat → Nat → Int32} {pe bi : Nat → Option Nat} (hC : Cls E w n ad L V S pe bi) {e q k : Nat} (he : endN n e) : kx_S E Y_N_join [.ref (ad e), .ref (ad q), .int (nI k)] w (CQ E w n ad L V (up2 S e 6 (nI k)) (up1 pe e (some q)) bi none) := by
  refine kx_go (by decide) rfl rfl (Nat.le_of_ble_eq_true rfl) (kx_cc rfl (kx_cc rfl (kx_cc rfl kx_c0))) (fun z => ?_)
  have hO : kx_off w w clsN := kx_off.rf
  refine kx_aload_n d_N_join_0 rfl (by first | rfl | exact kx_rf _) ?_
  refine kx_aload_n d_N_join_1 rfl (by first | rfl | exact kx_rf _) ?_
  refine cN_join d_N_join_2 f_N_35 hC hO he (fun w hC hO => ?_)
  refine kx_aload_n d_N_join_5 rfl (by first | rfl | exact kx_rf _) ?_
  refine kx_iload_n d_N_join_6 rfl ?_
  refine cN_put6 d_N_join_7 f_N_32 (p_N_6 _) hC hO he (fun w hC hO => ?_)
  refine kx_vret d_N_join_10 rfl (by decide) (by decide) ?_
  exact ⟨rfl, hC, hO⟩
theorem d_N_part_0 : decode c_N_part 0 = .ok (.aload_n 0, 1) := by decide +kernel
theorem d_N_part_1 : decode c_N_part 1 = .ok (.aconst_null, 1) := by decide +kernel
theorem d_N_part_2 : decode c_N_part 2 = .ok (.putfield 35, 3) := by decide +kernel
theorem d_N_part_5 : decode c_N_part 5 = .ok (.aload_n 0, 1) := by decide +kernel
theorem d_N_part_6 : decode c_N_part 6 = .ok (.iconst (-1), 1) := by decide +kernel
theorem d_N_part_7 : decode c_N_part 7 = .ok (.putfield 32, 3) := by decide +kernel
theorem d_N_part_10 : decode c_N_part 10 = .ok (.return_, 1) := by decide +kernel
set_option maxHeartbeats 2000000 in
theorem m_N_part {E : kx_E} {w : va_W} {n : Nat} {ad : Nat → Nat} {L : Nat → List Nat} {V S : Nat → Nat → Int32} {pe bi : Nat → Option Nat} (hC : Cls E w n ad L V S pe bi) {e : Nat} (he : endN n e) : kx_S E Y_N_part [.ref (ad e)] w (CQ E w n ad L V (up2 S e 6 (-1)) (up1 pe e none) bi none) := by
  refine kx_go (by decide) rfl rfl (Nat.le_of_ble_eq_true rfl) (kx_cc rfl kx_c0) (fun z => ?_)
  have hO : kx_off w w clsN := kx_off.rf
  refine kx_aload_n d_N_part_0 rfl (by first | rfl | exact kx_rf _) ?_
  refine kx_null d_N_part_1 ?_
  refine cN_part d_N_part_2 f_N_35 hC hO he (fun w hC hO => ?_)
  refine kx_aload_n d_N_part_5 rfl (by first | rfl | exact kx_rf _) ?_
  refine kx_iconst (-1) d_N_part_6 (by decide) ?_
  refine cN_put6 d_N_part_7 f_N_32 (p_N_6 _) hC hO he (fun w hC hO => ?_)
  refine kx_vret d_N_part_10 rfl (by decide) (by decide) ?_
  exact ⟨rfl, hC, hO⟩
theorem d_N_forget_0 : decode c_N_forget 0 = .ok (.aload_n 0, 1) := by decide +kernel
theorem d_N_forget_1 : decode c_N_forget 1 = .ok (.getfield 18, 3) := by decide +kernel
theorem d_N_forget_4 : decode c_N_forget 4 = .ok (.invokevirtual 39, 3) := by decide +kernel
theorem d_N_forget_7 : decode c_N_forget 7 = .ok (.aload_n 0, 1) := by decide +kernel
theorem d_N_forget_8 : decode c_N_forget 8 = .ok (.getfield 22, 3) := by decide +kernel
theorem d_N_forget_11 : decode c_N_forget 11 = .ok (.invokevirtual 39, 3) := by decide +kernel
theorem d_N_forget_14 : decode c_N_forget 14 = .ok (.aload_n 0, 1) := by decide +kernel
theorem d_N_forget_15 : decode c_N_forget 15 = .ok (.iconst 0, 1) := by decide +kernel
theorem d_N_forget_16 : decode c_N_forget 16 = .ok (.putfield 42, 3) := by decide +kernel
theorem d_N_forget_19 : decode c_N_forget 19 = .ok (.aload_n 0, 1) := by decide +kernel
theorem d_N_forget_20 : decode c_N_forget 20 = .ok (.iconst 0, 1) := by decide +kernel
theorem d_N_forget_21 : decode c_N_forget 21 = .ok (.putfield 46, 3) := by decide +kernel
theorem d_N_forget_24 : decode c_N_forget 24 = .ok (.return_, 1) := by decide +kernel
set_option maxHeartbeats 2000000 in
theorem m_N_forget {E : kx_E} {w : va_W} {n : Nat} {ad : Nat → Nat} {L : Nat → List Nat} {V S : Nat → Nat → Int32} {pe bi : Nat → Option Nat} (hC : Cls E w n ad L V S pe bi) {e : Nat} (he : endN n e) : kx_S E Y_N_forget [.ref (ad e)] w (CQ E w n ad (up1 (up1 L (e + 1) []) (e + 3) []) V (up2 (up2 S e 7 (nI 0)) e 8 (nI 0)) pe bi none) := by
  refine kx_go (by decide) rfl rfl (Nat.le_of_ble_eq_true rfl) (kx_cc rfl kx_c0) (fun z => ?_)
  have hO : kx_off w w clsN := kx_off.rf
  refine kx_aload_n d_N_forget_0 rfl (by first | rfl | exact kx_rf _) ?_
  refine kx_get _ d_N_forget_1 f_N_18 (hC.endAt he) (by rfl) ?_
  refine cR_clear d_N_forget_4 v_N_39 hC hO (rowN_e1 he) (by decide) (by decide) (by decide) (by decide) (fun w hC hO => ?_)
  refine kx_aload_n d_N_forget_7 rfl (by first | rfl | exact kx_rf _) ?_
  refine kx_get _ d_N_forget_8 f_N_22 (hC.endAt he) (by rfl) ?_
  refine cR_clear d_N_forget_11 v_N_39 hC hO (rowN_e3 he) (by decide) (by decide) (by decide) (by decide) (fun w hC hO => ?_)
  refine kx_aload_n d_N_forget_14 rfl (by first | rfl | exact kx_rf _) ?_
  refine kx_iconst (nI 0) d_N_forget_15 (by decide) ?_
  refine cN_put7 d_N_forget_16 f_N_42 p_N_7_0 hC hO he (fun w hC hO => ?_)
  refine kx_aload_n d_N_forget_19 rfl (by first | rfl | exact kx_rf _) ?_
  refine kx_iconst (nI 0) d_N_forget_20 (by decide) ?_
  refine cN_put8 d_N_forget_21 f_N_46 (p_N_8 _) hC hO he (fun w hC hO => ?_)
  refine kx_vret d_N_forget_24 rfl (by decide) (by decide) ?_
  exact ⟨rfl, hC, hO⟩
theorem d_N_outermost_0 : decode c_N_outermost 0 = .ok (.aload_n 0, 1) := by decide +kernel
theorem d_N_outermost_1 : decode c_N_outermost 1 = .ok (.astore_n 1, 1) := by decide +kernel
theorem d_N_outermost_2 : decode c_N_outermost 2 = .ok (.iconst 0, 1) := by decide +kernel
theorem d_N_outermost_3 : decode c_N_outermost 3 = .ok (.istore_n 2, 1) := by decide +kernel
theorem d_N_outermost_4 : decode c_N_outermost 4 = .ok (.iload_n 2, 1) := by decide +kernel
theorem d_N_outermost_5 : decode c_N_outermost 5 = .ok (.bipush 24, 2) := by decide +kernel
theorem d_N_outermost_7 : decode c_N_outermost 7 = .ok (.if_icmp .ge 24, 3) := by decide +kernel
theorem d_N_outermost_10 : decode c_N_outermost 10 = .ok (.aload_n 1, 1) := by decide +kernel
theorem d_N_outermost_11 : decode c_N_outermost 11 = .ok (.getfield 35, 3) := by decide +kernel
theorem d_N_outermost_14 : decode c_N_outermost 14 = .ok (.ifnull 17, 3) := by decide +kernel
theorem d_N_outermost_17 : decode c_N_outermost 17 = .ok (.aload_n 1, 1) := by decide +kernel
theorem d_N_outermost_18 : decode c_N_outermost 18 = .ok (.getfield 35, 3) := by decide +kernel
theorem d_N_outermost_21 : decode c_N_outermost 21 = .ok (.getfield 49, 3) := by decide +kernel
theorem d_N_outermost_24 : decode c_N_outermost 24 = .ok (.astore_n 1, 1) := by decide +kernel
theorem d_N_outermost_25 : decode c_N_outermost 25 = .ok (.iinc 2 1, 3) := by decide +kernel
theorem d_N_outermost_28 : decode c_N_outermost 28 = .ok (.goto (-24), 3) := by decide +kernel
theorem d_N_outermost_31 : decode c_N_outermost 31 = .ok (.aload_n 1, 1) := by decide +kernel
theorem d_N_outermost_32 : decode c_N_outermost 32 = .ok (.areturn, 1) := by decide +kernel
/-- the end at which k steps outward stop -/
def outE (pe : Nat → Option Nat) : Nat → Nat → Nat
  | 0, e => e
  | k + 1, e => match pe e with
    | none => e
    | some q => outE pe k (opp q)
set_option maxHeartbeats 2000000 in
theorem l_N_outermost {E : kx_E} {w : va_W} {n : Nat} {ad : Nat → Nat} {L : Nat → List Nat} {V S : Nat → Nat → Int32} {pe bi : Nat → Option Nat} (hC : Cls E w n ad L V S pe bi) (hp : peOk n pe) {z : kx_Z} {Q : kx_O → va_W → Prop} {e0 : Nat} (hQ : Q (.inl (some (.ref (ad (outE pe 24 e0))))) w) : ∀ (m k e : Nat), m + k = 24 → endN n e → outE pe 24 e0 = outE pe m e → kx_R E Y_N_outermost z 4 [(1, .ref (ad e)), (2, .int (nI k))] [] w 0 0 Q := by
  intro m
  induction m with
  | zero =>
    intro k e hk he hr
    have hk : k = 24 := by omega
    subst hk
    refine kx_iload_n d_N_outermost_4 rfl ?_
    refine kx_bipush (nI 24) d_N_outermost_5 (by decide) ?_
    first | refine kx_icmp_ge_n 31 d_N_outermost_7 (by decide) (by omega) (by omega) ?_ ?_ | refine kx_icmp_ge 31 d_N_outermost_7 (by decide) ?_ ?_
    · intro h7
      refine kx_aload_n d_N_outermost_31 rfl (by first | rfl | exact kx_rf _) ?_
      refine kx_aret d_N_outermost_32 rfl (by first | rfl | exact kx_rf _) (by decide) (by decide) ?_
      rw [hr] at hQ
      exact hQ
    · intro h7
      exact absurd h7 (by omega)
  | succ m ih =>
    intro k e hk he hr
    refine kx_iload_n d_N_outermost_4 rfl ?_
    refine kx_bipush (nI 24) d_N_outermost_5 (by decide) ?_
    first | refine kx_icmp_ge_n 31 d_N_outermost_7 (by decide) (by omega) (by omega) ?_ ?_ | refine kx_icmp_ge 31 d_N_outermost_7 (by decide) ?_ ?_
    · intro h7
      first
        | exact absurd h7 (by omega)
        | (have hn : pe e = none := by
             cases hpe : pe e with
             | none => rfl
             | some q => rw [hpe] at h14; cases h14
           have hr2 : outE pe 24 e0 = e := by rw [hr]; unfold outE; rw [hn]
           rw [hr2] at hQ
           refine kx_aload_n d_N_outermost_31 rfl rfl ?_
           exact kx_aret d_N_outermost_32 rfl rfl (by decide) (by decide) hQ)
    · intro h7
      refine kx_aload_n d_N_outermost_10 rfl (by first | rfl | exact kx_rf _) ?_
      refine kx_get _ d_N_outermost_11 f_N_35 (hC.endAt he) (by rfl) ?_
      refine kx_ifnull 31 d_N_outermost_14 (by decide) ?_ ?_
      · intro h14
        first
          | exact absurd h7 (by omega)
          | (have hn : pe e = none := by
               cases hpe : pe e with
               | none => rfl
               | some q => rw [hpe] at h14; cases h14
             have hr2 : outE pe 24 e0 = e := by rw [hr]; unfold outE; rw [hn]
             rw [hr2] at hQ
             refine kx_aload_n d_N_outermost_31 rfl rfl ?_
             exact kx_aret d_N_outermost_32 rfl rfl (by decide) (by decide) hQ)
      · intro a14 h14
        refine kx_aload_n d_N_outermost_17 rfl (by first | rfl | exact kx_rf _) ?_
        refine kx_get _ d_N_outermost_18 f_N_35 (hC.endAt he) (by rfl) ?_
        obtain ⟨q, hq⟩ : ∃ q, pe e = some q := by
          cases hpe : pe e with
          | none => rw [hpe] at h14; cases h14
          | some q => exact ⟨q, rfl⟩
        have heq := hp e q he hq
        rw [hq]
        refine kx_stk (st1 := [.ref (ad q)]) rfl ?_
        refine kx_get _ d_N_outermost_21 f_N_49 (hC.endAt heq) (by rfl) ?_
        refine kx_astore_n d_N_outermost_24 (by decide) (by first | rfl | exact kx_rf _) ?_
        refine kx_iinc _ d_N_outermost_25 rfl (by decide) (nI_1 _) ?_
        refine kx_goto 4 d_N_outermost_28 (by decide) ?_
        refine kx_loc (L1 := [(1, .ref (ad (opp q))), (2, .int (nI (k + 1)))]) ⟨rfl, rfl, trivial⟩ ?_
        exact ih (k + 1) (opp q) (by omega) (oppN heq) (by rw [hr]; conv => lhs; unfold outE; rw [hq])
theorem m_N_outermost {E : kx_E} {w : va_W} {n : Nat} {ad : Nat → Nat} {L : Nat → List Nat} {V S : Nat → Nat → Int32} {pe bi : Nat → Option Nat} (hC : Cls E w n ad L V S pe bi) (hp : peOk n pe) {e : Nat} (he : endN n e) : kx_S E Y_N_outermost [.ref (ad e)] w (fun o w1 => o = .inl (some (.ref (ad (outE pe 24 e)))) ∧ w1 = w) := by
  refine kx_go (by decide) rfl rfl (Nat.le_of_ble_eq_true rfl) (kx_cc rfl kx_c0) (fun z => ?_)
  have hO : kx_off w w clsN := kx_off.rf
  refine kx_aload_n d_N_outermost_0 rfl (by first | rfl | exact kx_rf _) ?_
  refine kx_astore_n d_N_outermost_1 (by decide) (by first | rfl | exact kx_rf _) ?_
  refine kx_iconst (nI 0) d_N_outermost_2 (by decide) ?_
  refine kx_istore_n d_N_outermost_3 (by decide) ?_
  refine kx_loc (L1 := [(1, .ref (ad e)), (2, .int (nI 0))]) ⟨rfl, rfl, trivial⟩ ?_
  exact l_N_outermost hC hp ⟨rfl, rfl⟩ 24 0 e rfl he rfl
/-- the frame that comes over to an end: its name -/
def incE (pe : Nat → Option Nat) (S : Nat → Nat → Int32) (losses : Int32) (e : Nat) : Option Nat := match pe e with
  | none => none
  | some q => if lostI losses (S e 6) = true then none else some (q + 5)
theorem d_N_incoming_0 : decode c_N_incoming 0 = .ok (.aload_n 0, 1) := by decide +kernel
theorem d_N_incoming_1 : decode c_N_incoming 1 = .ok (.getfield 35, 3) := by decide +kernel
theorem d_N_incoming_4 : decode c_N_incoming 4 = .ok (.ifnull 14, 3) := by decide +kernel
theorem d_N_incoming_7 : decode c_N_incoming 7 = .ok (.iload_n 1, 1) := by decide +kernel
theorem d_N_incoming_8 : decode c_N_incoming 8 = .ok (.aload_n 0, 1) := by decide +kernel
theorem d_N_incoming_9 : decode c_N_incoming 9 = .ok (.getfield 32, 3) := by decide +kernel
theorem d_N_incoming_12 : decode c_N_incoming 12 = .ok (.ishr, 1) := by decide +kernel
theorem d_N_incoming_13 : decode c_N_incoming 13 = .ok (.iconst 1, 1) := by decide +kernel
theorem d_N_incoming_14 : decode c_N_incoming 14 = .ok (.iand, 1) := by decide +kernel
theorem d_N_incoming_15 : decode c_N_incoming 15 = .ok (.ifCond .eq 7, 3) := by decide +kernel
theorem d_N_incoming_18 : decode c_N_incoming 18 = .ok (.aconst_null, 1) := by decide +kernel
theorem d_N_incoming_19 : decode c_N_incoming 19 = .ok (.goto 10, 3) := by decide +kernel
theorem d_N_incoming_22 : decode c_N_incoming 22 = .ok (.aload_n 0, 1) := by decide +kernel
theorem d_N_incoming_23 : decode c_N_incoming 23 = .ok (.getfield 35, 3) := by decide +kernel
theorem d_N_incoming_26 : decode c_N_incoming 26 = .ok (.getfield 28, 3) := by decide +kernel
theorem d_N_incoming_29 : decode c_N_incoming 29 = .ok (.areturn, 1) := by decide +kernel
set_option maxHeartbeats 2000000 in
theorem m_N_incoming {E : kx_E} {w : va_W} {n : Nat} {ad : Nat → Nat} {L : Nat → List Nat} {V S : Nat → Nat → Int32} {pe bi : Nat → Option Nat} (hC : Cls E w n ad L V S pe bi) (hp : peOk n pe) {e : Nat} (he : endN n e) {losses : Int32} : kx_S E Y_N_incoming [.ref (ad e), .int losses] w (fun o w1 => o = .inl (some (va_rf ((incE pe S losses e).map ad))) ∧ w1 = w) := by
  refine kx_go (by decide) rfl rfl (Nat.le_of_ble_eq_true rfl) (kx_cc rfl (kx_cc rfl kx_c0)) (fun z => ?_)
  have hO : kx_off w w clsN := kx_off.rf
  cases hpe : pe e with
  | none =>
    have hi : incE pe S losses e = none := by unfold incE; rw [hpe]
    rw [hi]
    have hE := hC.endAt he
    unfold endC at hE
    rw [hpe] at hE
    refine kx_aload_n d_N_incoming_0 rfl (by first | rfl | exact kx_rf _) ?_
    refine kx_get _ d_N_incoming_1 f_N_35 hE (by rfl) ?_
    refine kx_ifnull (o := none) 18 d_N_incoming_4 (by decide) (fun _ => ?_) (fun a h => by cases h)
    refine kx_null d_N_incoming_18 ?_
    refine kx_goto 29 d_N_incoming_19 (by decide) ?_
    refine kx_aret d_N_incoming_29 rfl (by first | rfl | exact kx_rf _) (by decide) (by decide) ?_
    exact ⟨rfl, rfl⟩
  | some q =>
    have heq := hp e q he hpe
    have hE := hC.endAt he
    unfold endC at hE
    rw [hpe] at hE
    refine kx_aload_n d_N_incoming_0 rfl (by first | rfl | exact kx_rf _) ?_
    refine kx_get _ d_N_incoming_1 f_N_35 hE (by rfl) ?_
    refine kx_ifnull (o := some (ad q)) 18 d_N_incoming_4 (by decide) (fun h => by cases h) (fun _ _ => ?_)
    refine kx_iload_n d_N_incoming_7 rfl ?_
    refine kx_aload_n d_N_incoming_8 rfl (by first | rfl | exact kx_rf _) ?_
    refine kx_get _ d_N_incoming_9 f_N_32 hE (by rfl) ?_
    refine kx_ishr _ d_N_incoming_12 rfl ?_
    refine kx_iconst (nI 1) d_N_incoming_13 (by decide) ?_
    refine kx_iand _ d_N_incoming_14 rfl ?_
    refine kx_if_eq 22 d_N_incoming_15 (by decide) ?_ ?_
    · intro h15
      refine kx_aload_n d_N_incoming_22 rfl (by first | rfl | exact kx_rf _) ?_
      refine kx_get _ d_N_incoming_23 f_N_35 hE (by rfl) ?_
      refine kx_stk (st1 := [.ref (ad q)]) rfl ?_
      refine kx_get _ d_N_incoming_26 f_N_28 (hC.endAt heq) (by rfl) ?_
      first
        | (have hi : incE pe S losses e = none := by unfold incE lostI; rw [hpe]; simp [h15]
           rw [hi]
           exact kx_aret d_N_incoming_29 rfl rfl (by decide) (by decide) ⟨rfl, rfl⟩)
        | (have hi : incE pe S losses e = some (q + 5) := by unfold incE lostI; rw [hpe]; simp [h15]
           rw [hi]
           exact kx_aret d_N_incoming_29 rfl rfl (by decide) (by decide) ⟨rfl, rfl⟩)
    · intro h15
      refine kx_null d_N_incoming_18 ?_
      refine kx_goto 29 d_N_incoming_19 (by decide) ?_
      first
        | (have hi : incE pe S losses e = none := by unfold incE lostI; rw [hpe]; simp [h15]
           rw [hi]
           exact kx_aret d_N_incoming_29 rfl rfl (by decide) (by decide) ⟨rfl, rfl⟩)
        | (have hi : incE pe S losses e = some (q + 5) := by unfold incE lostI; rw [hpe]; simp [h15]
           rw [hi]
           exact kx_aret d_N_incoming_29 rfl rfl (by decide) (by decide) ⟨rfl, rfl⟩)
/-- an end hears nothing: its silence grows, at 4 its view is empty and whole -/
def silL (L : Nat → List Nat) (e s : Nat) : Nat → List Nat := if s + 1 < 4 then L else up1 L (e + 1) []
def silS (S : Nat → Nat → Int32) (e s : Nat) : Nat → Nat → Int32 := if s + 1 < 4 then up2 S e 8 (nI (s + 1)) else up2 (up2 S e 8 (nI 4)) e 7 (nI 1)
theorem d_N_fallSilent_0 : decode c_N_fallSilent 0 = .ok (.aload_n 0, 1) := by decide +kernel
theorem d_N_fallSilent_1 : decode c_N_fallSilent 1 = .ok (.aload_n 0, 1) := by decide +kernel
theorem d_N_fallSilent_2 : decode c_N_fallSilent 2 = .ok (.getfield 46, 3) := by decide +kernel
theorem d_N_fallSilent_5 : decode c_N_fallSilent 5 = .ok (.iconst 1, 1) := by decide +kernel
theorem d_N_fallSilent_6 : decode c_N_fallSilent 6 = .ok (.iadd, 1) := by decide +kernel
theorem d_N_fallSilent_7 : decode c_N_fallSilent 7 = .ok (.iconst 4, 1) := by decide +kernel
theorem d_N_fallSilent_8 : decode c_N_fallSilent 8 = .ok (.invokestatic 74, 3) := by decide +kernel
theorem d_N_fallSilent_11 : decode c_N_fallSilent 11 = .ok (.putfield 46, 3) := by decide +kernel
theorem d_N_fallSilent_14 : decode c_N_fallSilent 14 = .ok (.aload_n 0, 1) := by decide +kernel
theorem d_N_fallSilent_15 : decode c_N_fallSilent 15 = .ok (.getfield 46, 3) := by decide +kernel
theorem d_N_fallSilent_18 : decode c_N_fallSilent 18 = .ok (.iconst 4, 1) := by decide +kernel
theorem d_N_fallSilent_19 : decode c_N_fallSilent 19 = .ok (.if_icmp .ne 15, 3) := by decide +kernel
theorem d_N_fallSilent_22 : decode c_N_fallSilent 22 = .ok (.aload_n 0, 1) := by decide +kernel
theorem d_N_fallSilent_23 : decode c_N_fallSilent 23 = .ok (.getfield 18, 3) := by decide +kernel
theorem d_N_fallSilent_26 : decode c_N_fallSilent 26 = .ok (.invokevirtual 39, 3) := by decide +kernel
theorem d_N_fallSilent_29 : decode c_N_fallSilent 29 = .ok (.aload_n 0, 1) := by decide +kernel
theorem d_N_fallSilent_30 : decode c_N_fallSilent 30 = .ok (.iconst 1, 1) := by decide +kernel
theorem d_N_fallSilent_31 : decode c_N_fallSilent 31 = .ok (.putfield 42, 3) := by decide +kernel
theorem d_N_fallSilent_34 : decode c_N_fallSilent 34 = .ok (.return_, 1) := by decide +kernel
set_option maxHeartbeats 2000000 in
theorem m_N_fallSilent {E : kx_E} {w : va_W} {n : Nat} {ad : Nat → Nat} {L : Nat → List Nat} {V S : Nat → Nat → Int32} {pe bi : Nat → Option Nat} (hC : Cls E w n ad L V S pe bi) {e s : Nat} (he : endN n e) (hs : S e 8 = nI s) (h4 : s ≤ 4) : kx_S E Y_N_fallSilent [.ref (ad e)] w (CQ E w n ad (silL L e s) V (silS S e s) pe bi none) := by
  refine kx_go (by decide) rfl rfl (Nat.le_of_ble_eq_true rfl) (kx_cc rfl kx_c0) (fun z => ?_)
  have hO : kx_off w w clsN := kx_off.rf
  refine kx_aload_n d_N_fallSilent_0 rfl (by first | rfl | exact kx_rf _) ?_
  refine kx_aload_n d_N_fallSilent_1 rfl (by first | rfl | exact kx_rf _) ?_
  refine kx_get _ d_N_fallSilent_2 f_N_46 (hC.endAt he) (by rfl) ?_
  rw [hs]
  refine kx_iconst (nI 1) d_N_fallSilent_5 (by decide) ?_
  first | refine kx_iadd _ d_N_fallSilent_6 (nI_add _ _) ?_ | refine kx_iadd _ d_N_fallSilent_6 rfl ?_
  refine kx_iconst (nI 4) d_N_fallSilent_7 (by decide) ?_
  refine kx_min d_N_fallSilent_8 mn_N_74 (by omega) (by decide) (Nat.le_of_ble_eq_true rfl) (by decide) (by decide) (by decide) ?_
  refine cN_put8 d_N_fallSilent_11 f_N_46 (p_N_8 _) hC hO he (fun w hC hO => ?_)
  refine kx_aload_n d_N_fallSilent_14 rfl (by first | rfl | exact kx_rf _) ?_
  refine kx_get _ d_N_fallSilent_15 f_N_46 (hC.endAt he) (by rfl) ?_
  rw [up2_s]
  refine kx_iconst (nI 4) d_N_fallSilent_18 (by decide) ?_
  refine kx_icmp_ne_n 34 d_N_fallSilent_19 (by decide) (by omega) (by decide) ?_ ?_
  · intro h19
    refine kx_vret d_N_fallSilent_34 rfl (by decide) (by decide) ?_
    first
      | (have hm : min (s + 1) 4 = 4 := h19
         unfold silL silS
         rw [if_neg (by omega), if_neg (by omega)]
         rw [hm] at hC
         exact ⟨rfl, hC, hO⟩)
      | (have hm : min (s + 1) 4 = s + 1 := by omega
         unfold silL silS
         rw [if_pos (by omega), if_pos (by omega)]
         rw [hm] at hC
         exact ⟨rfl, hC, hO⟩)
  · intro h19
    refine kx_aload_n d_N_fallSilent_22 rfl (by first | rfl | exact kx_rf _) ?_
    refine kx_get _ d_N_fallSilent_23 f_N_18 (hC.endAt he) (by rfl) ?_
    refine cR_clear d_N_fallSilent_26 v_N_39 hC hO (rowN_e1 he) (by decide) (by decide) (by decide) (by decide) (fun w hC hO => ?_)
    refine kx_aload_n d_N_fallSilent_29 rfl (by first | rfl | exact kx_rf _) ?_
    refine kx_iconst (nI 1) d_N_fallSilent_30 (by decide) ?_
    refine cN_put7 d_N_fallSilent_31 f_N_42 p_N_7_1 hC hO he (fun w hC hO => ?_)
    refine kx_vret d_N_fallSilent_34 rfl (by decide) (by decide) ?_
    first
      | (have hm : min (s + 1) 4 = 4 := h19
         unfold silL silS
         rw [if_neg (by omega), if_neg (by omega)]
         rw [hm] at hC
         exact ⟨rfl, hC, hO⟩)
      | (have hm : min (s + 1) 4 = s + 1 := by omega
         unfold silL silS
         rw [if_pos (by omega), if_pos (by omega)]
         rw [hm] at hC
         exact ⟨rfl, hC, hO⟩)
theorem d_N_lookInto_0 : decode c_N_lookInto 0 = .ok (.aload_n 1, 1) := by decide +kernel
theorem d_N_lookInto_1 : decode c_N_lookInto 1 = .ok (.ifnonnull 8, 3) := by decide +kernel
theorem d_N_lookInto_4 : decode c_N_lookInto 4 = .ok (.aload_n 0, 1) := by decide +kernel
theorem d_N_lookInto_5 : decode c_N_lookInto 5 = .ok (.invokevirtual 52, 3) := by decide +kernel
theorem d_N_lookInto_8 : decode c_N_lookInto 8 = .ok (.return_, 1) := by decide +kernel
theorem d_N_lookInto_9 : decode c_N_lookInto 9 = .ok (.aload_n 0, 1) := by decide +kernel
theorem d_N_lookInto_10 : decode c_N_lookInto 10 = .ok (.iconst 0, 1) := by decide +kernel
theorem d_N_lookInto_11 : decode c_N_lookInto 11 = .ok (.putfield 46, 3) := by decide +kernel
theorem d_N_lookInto_14 : decode c_N_lookInto 14 = .ok (.aload_n 0, 1) := by decide +kernel
theorem d_N_lookInto_15 : decode c_N_lookInto 15 = .ok (.getfield 18, 3) := by decide +kernel
theorem d_N_lookInto_18 : decode c_N_lookInto 18 = .ok (.invokevirtual 39, 3) := by decide +kernel
theorem d_N_lookInto_21 : decode c_N_lookInto 21 = .ok (.aload_n 0, 1) := by decide +kernel
theorem d_N_lookInto_22 : decode c_N_lookInto 22 = .ok (.getfield 18, 3) := by decide +kernel
theorem d_N_lookInto_25 : decode c_N_lookInto 25 = .ok (.aload_n 1, 1) := by decide +kernel
theorem d_N_lookInto_26 : decode c_N_lookInto 26 = .ok (.getfield 55, 3) := by decide +kernel
theorem d_N_lookInto_29 : decode c_N_lookInto 29 = .ok (.invokevirtual 58, 3) := by decide +kernel
theorem d_N_lookInto_32 : decode c_N_lookInto 32 = .ok (.aload_n 0, 1) := by decide +kernel
theorem d_N_lookInto_33 : decode c_N_lookInto 33 = .ok (.getfield 18, 3) := by decide +kernel
theorem d_N_lookInto_36 : decode c_N_lookInto 36 = .ok (.aload_n 1, 1) := by decide +kernel
theorem d_N_lookInto_37 : decode c_N_lookInto 37 = .ok (.getfield 62, 3) := by decide +kernel
theorem d_N_lookInto_40 : decode c_N_lookInto 40 = .ok (.invokevirtual 63, 3) := by decide +kernel
theorem d_N_lookInto_43 : decode c_N_lookInto 43 = .ok (.aload_n 0, 1) := by decide +kernel
theorem d_N_lookInto_44 : decode c_N_lookInto 44 = .ok (.aload_n 1, 1) := by decide +kernel
theorem d_N_lookInto_45 : decode c_N_lookInto 45 = .ok (.getfield 67, 3) := by decide +kernel
theorem d_N_lookInto_48 : decode c_N_lookInto 48 = .ok (.putfield 42, 3) := by decide +kernel
theorem d_N_lookInto_51 : decode c_N_lookInto 51 = .ok (.aload_n 0, 1) := by decide +kernel
theorem d_N_lookInto_52 : decode c_N_lookInto 52 = .ok (.getfield 22, 3) := by decide +kernel
theorem d_N_lookInto_55 : decode c_N_lookInto 55 = .ok (.aload_n 1, 1) := by decide +kernel
theorem d_N_lookInto_56 : decode c_N_lookInto 56 = .ok (.getfield 68, 3) := by decide +kernel
theorem d_N_lookInto_59 : decode c_N_lookInto 59 = .ok (.invokevirtual 71, 3) := by decide +kernel
theorem d_N_lookInto_62 : decode c_N_lookInto 62 = .ok (.return_, 1) := by decide +kernel
set_option maxHeartbeats 2000000 in
theorem m_N_lookInto_no {E : kx_E} {w : va_W} {n : Nat} {ad : Nat → Nat} {L : Nat → List Nat} {V S : Nat → Nat → Int32} {pe bi : Nat → Option Nat} (hC : Cls E w n ad L V S pe bi) {e s : Nat} (he : endN n e) (hs : S e 8 = nI s) (h4 : s ≤ 4) : kx_S E Y_N_lookInto [.ref (ad e), .null] w (CQ E w n ad (silL L e s) V (silS S e s) pe bi none) := by
  refine kx_go (by decide) rfl rfl (Nat.le_of_ble_eq_true rfl) (kx_cc rfl (kx_cc rfl kx_c0)) (fun z => ?_)
  have hO : kx_off w w clsN := kx_off.rf
  refine kx_aload_n d_N_lookInto_0 rfl (by first | rfl | exact kx_rf _) ?_
  refine kx_ifnonnull (o := none) 9 d_N_lookInto_1 (by decide) (fun a h => by cases h) (fun _ => ?_)
  refine kx_aload_n d_N_lookInto_4 rfl (by first | rfl | exact kx_rf _) ?_
  refine kx_callV (as := []) (rest := []) d_N_lookInto_5 v_N_52 rfl (hC.endAt he) rfl rfl (by decide) (by decide) (by decide) (by decide) (by decide) rfl (m_N_fallSilent hC he hs h4) (fun X w1 h => by cases h.1) (fun v w1 hq => ?_)
  obtain ⟨hv, hC1, hO1⟩ := hq
  cases hv
  refine kx_vret d_N_lookInto_8 rfl (by decide) (by decide) ?_
  exact ⟨rfl, hC1, hO1⟩
/-- an end hears the frame f -/
def heaL (L : Nat → List Nat) (e f s : Nat) : Nat → List Nat := up1 (up1 L (e + 1) ((s :: L (f + 1)).take 24)) (e + 3) (L (f + 3))
def heaS (S : Nat → Nat → Int32) (e f : Nat) : Nat → Nat → Int32 := up2 (up2 S e 8 (nI 0)) e 7 (S f 5)
theorem up1_up1 {α : Type} {f : Nat → α} {x : Nat} {u v : α} : up1 (up1 f x u) x v = up1 f x v := by funext y; unfold up1; by_cases h : y = x <;> simp [h]
set_option maxHeartbeats 2000000 in
theorem m_N_lookInto {E : kx_E} {w : va_W} {n : Nat} {ad : Nat → Nat} {L : Nat → List Nat} {V S : Nat → Nat → Int32} {pe bi : Nat → Option Nat} (hC : Cls E w n ad L V S pe bi) {e q s : Nat} (he : endN n e) (hq : endN n q) (hs : S (q + 5) 4 = nI s) (h5 : s < 512) (hw : S (q + 5) 5 = nI 0 ∨ S (q + 5) 5 = nI 1) : kx_S E Y_N_lookInto [.ref (ad e), .ref (ad (q + 5))] w (CQ E w n ad (heaL L e (q + 5) s) V (heaS S e (q + 5)) pe bi none) := by
  refine kx_go (by decide) rfl rfl (Nat.le_of_ble_eq_true rfl) (kx_cc rfl (kx_cc rfl kx_c0)) (fun z => ?_)
  have hO : kx_off w w clsN := kx_off.rf
  have hne : q + 5 ≠ e := by unfold endN at he hq; omega
  have n1 : e + 1 ≠ q + 5 + 1 := by unfold endN at he hq; omega
  have n2 : e + 3 ≠ q + 5 + 3 := by unfold endN at he hq; omega
  have n3 : q + 5 + 1 ≠ e + 1 := Ne.symm n1
  have n4 : q + 5 + 3 ≠ e + 1 := by unfold endN at he hq; omega
  refine kx_aload_n d_N_lookInto_0 rfl (by first | rfl | exact kx_rf _) ?_
  refine kx_ifnonnull (o := some (ad (q + 5))) 9 d_N_lookInto_1 (by decide) (fun _ _ => ?_) (fun h => by cases h)
  refine kx_aload_n d_N_lookInto_9 rfl (by first | rfl | exact kx_rf _) ?_
  refine kx_iconst (nI 0) d_N_lookInto_10 (by decide) ?_
  refine cN_put8 d_N_lookInto_11 f_N_46 (p_N_8 _) hC hO he (fun w hC hO => ?_)
  refine kx_aload_n d_N_lookInto_14 rfl (by first | rfl | exact kx_rf _) ?_
  refine kx_get _ d_N_lookInto_15 f_N_18 (hC.endAt he) (by rfl) ?_
  refine cR_clear d_N_lookInto_18 v_N_39 hC hO (rowN_e1 he) (by decide) (by decide) (by decide) (by decide) (fun w hC hO => ?_)
  refine kx_aload_n d_N_lookInto_21 rfl (by first | rfl | exact kx_rf _) ?_
  refine kx_get _ d_N_lookInto_22 f_N_18 (hC.endAt he) (by rfl) ?_
  refine kx_aload_n d_N_lookInto_25 rfl (by first | rfl | exact kx_rf _) ?_
  refine kx_get _ d_N_lookInto_26 f_N_55 (hC.frm q hq) (by rfl) ?_
  rw [up2_n hne, hs]
  refine cR_append d_N_lookInto_29 v_N_58 hC hO (rowN_e1 he) h5 (by decide) (by decide) (by decide) (by decide) (fun w hC hO => ?_)
  rw [up1_s] at hC
  have hC := hC.cgL (show up1 (up1 L (e + 1) []) (e + 1) (if ([] : List Nat).length < 24 then [] ++ [s] else []) = up1 L (e + 1) [s] from up1_up1)
  refine kx_aload_n d_N_lookInto_32 rfl (by first | rfl | exact kx_rf _) ?_
  refine kx_get _ d_N_lookInto_33 f_N_18 (hC.endAt he) (by rfl) ?_
  refine kx_aload_n d_N_lookInto_36 rfl (by first | rfl | exact kx_rf _) ?_
  refine kx_get _ d_N_lookInto_37 f_N_62 (hC.frm q hq) (by rfl) ?_
  refine cR_appendAll d_N_lookInto_40 v_N_63 hC hO (rowN_e1 he) (rowN_e6 hq) n1 (by decide) (by decide) (by decide) (by decide) (fun w hC hO => ?_)
  rw [up1_s, up1_n n3] at hC
  have hC := hC.cgL (show up1 (up1 L (e + 1) [s]) (e + 1) (([s] ++ L (q + 5 + 1)).take 24) = up1 L (e + 1) ((s :: L (q + 5 + 1)).take 24) from up1_up1)
  refine kx_aload_n d_N_lookInto_43 rfl (by first | rfl | exact kx_rf _) ?_
  refine kx_aload_n d_N_lookInto_44 rfl (by first | rfl | exact kx_rf _) ?_
  refine kx_get _ d_N_lookInto_45 f_N_67 (hC.frm q hq) (by rfl) ?_
  rw [up2_n hne]
  refine cN_put7 d_N_lookInto_48 f_N_42 (by rcases hw with h | h <;> rw [h]; exact p_N_7_0; exact p_N_7_1) hC hO he (fun w hC hO => ?_)
  refine kx_aload_n d_N_lookInto_51 rfl (by first | rfl | exact kx_rf _) ?_
  refine kx_get _ d_N_lookInto_52 f_N_22 (hC.endAt he) (by rfl) ?_
  refine kx_aload_n d_N_lookInto_55 rfl (by first | rfl | exact kx_rf _) ?_
  refine kx_get _ d_N_lookInto_56 f_N_68 (hC.frm q hq) (by rfl) ?_
  refine cR_copyFrom d_N_lookInto_59 v_N_71 hC hO (rowN_e3 he) (rowN_e8 hq) n2 (by decide) (by decide) (by decide) (by decide) (fun w hC hO => ?_)
  rw [up1_n n4] at hC
  refine kx_vret d_N_lookInto_62 rfl (by decide) (by decide) ?_
  exact ⟨rfl, hC, hO⟩
end
section
/-! Car's methods, the small ones -/
theorem rowN_26 {n c : Nat} (hc : c < n) : rowN n (carB c + 26) := by unfold rowN; simp only [carB]; omega
theorem rowN_28 {n c : Nat} (hc : c < n) : rowN n (carB c + 28) := by unfold rowN; simp only [carB]; omega
theorem intN_30 {n c : Nat} (hc : c < n) : intN n (carB c + 30) := by unfold intN; simp only [carB]; omega
theorem intN_31 {n c : Nat} (hc : c < n) : intN n (carB c + 31) := by unfold intN; simp only [carB]; omega
theorem intN_f5 {n q : Nat} (hq : endN n q) : intN n (q + 5 + 5) := by unfold endN at hq; unfold intN; omega
theorem intN_f6 {n q : Nat} (hq : endN n q) : intN n (q + 5 + 6) := by unfold endN at hq; unfold intN; omega
def byI (word i : Int32) : Int32 := word >>> (nI 8 * i &&& 31) &&& nI 255
def hasI (mask f : Int32) : Nat := if mask >>> (f &&& 31) &&& nI 1 = 0 then 0 else 1
theorem d_C_byteOf_0 : decode c_C_byteOf 0 = .ok (.iload_n 0, 1) := by decide +kernel
theorem d_C_byteOf_1 : decode c_C_byteOf 1 = .ok (.bipush 8, 2) := by decide +kernel
theorem d_C_byteOf_3 : decode c_C_byteOf 3 = .ok (.iload_n 1, 1) := by decide +kernel
theorem d_C_byteOf_4 : decode c_C_byteOf 4 = .ok (.imul, 1) := by decide +kernel
theorem d_C_byteOf_5 : decode c_C_byteOf 5 = .ok (.ishr, 1) := by decide +kernel
theorem d_C_byteOf_6 : decode c_C_byteOf 6 = .ok (.sipush 255, 3) := by decide +kernel
theorem d_C_byteOf_9 : decode c_C_byteOf 9 = .ok (.iand, 1) := by decide +kernel
theorem d_C_byteOf_10 : decode c_C_byteOf 10 = .ok (.ireturn, 1) := by decide +kernel
set_option maxHeartbeats 2000000 in
theorem m_C_byteOf {E : kx_E} {w : va_W} (u i : Int32) : kx_S E Y_C_byteOf [.int u, .int i] w (kx_Qi w (byI u i)) := by
  refine kx_go (by decide) rfl rfl (Nat.le_of_ble_eq_true rfl) (kx_cc rfl (kx_cc rfl kx_c0)) (fun z => ?_)
  refine kx_iload_n d_C_byteOf_0 rfl ?_
  refine kx_bipush (nI 8) d_C_byteOf_1 (by decide) ?_
  refine kx_iload_n d_C_byteOf_3 rfl ?_
  refine kx_imul _ d_C_byteOf_4 rfl ?_
  refine kx_ishr _ d_C_byteOf_5 rfl ?_
  refine kx_sipush (nI 255) d_C_byteOf_6 (by decide) ?_
  refine kx_iand _ d_C_byteOf_9 rfl ?_
  refine kx_iret d_C_byteOf_10 rfl (by decide) (by decide) ?_
  exact ⟨rfl, rfl⟩
theorem d_C_hasFunction_0 : decode c_C_hasFunction 0 = .ok (.aload_n 0, 1) := by decide +kernel
theorem d_C_hasFunction_1 : decode c_C_hasFunction 1 = .ok (.getfield 15, 3) := by decide +kernel
theorem d_C_hasFunction_4 : decode c_C_hasFunction 4 = .ok (.iload_n 1, 1) := by decide +kernel
theorem d_C_hasFunction_5 : decode c_C_hasFunction 5 = .ok (.ishr, 1) := by decide +kernel
theorem d_C_hasFunction_6 : decode c_C_hasFunction 6 = .ok (.iconst 1, 1) := by decide +kernel
theorem d_C_hasFunction_7 : decode c_C_hasFunction 7 = .ok (.iand, 1) := by decide +kernel
theorem d_C_hasFunction_8 : decode c_C_hasFunction 8 = .ok (.ifCond .eq 7, 3) := by decide +kernel
theorem d_C_hasFunction_11 : decode c_C_hasFunction 11 = .ok (.iconst 1, 1) := by decide +kernel
theorem d_C_hasFunction_12 : decode c_C_hasFunction 12 = .ok (.goto 4, 3) := by decide +kernel
theorem d_C_hasFunction_15 : decode c_C_hasFunction 15 = .ok (.iconst 0, 1) := by decide +kernel
theorem d_C_hasFunction_16 : decode c_C_hasFunction 16 = .ok (.ireturn, 1) := by decide +kernel
set_option maxHeartbeats 2000000 in
theorem m_C_hasFunction {E : kx_E} {w : va_W} {n : Nat} {ad : Nat → Nat} {L : Nat → List Nat} {V S : Nat → Nat → Int32} {pe bi : Nat → Option Nat} (hC : Cls E w n ad L V S pe bi) {c : Nat} (hc : c < n) (f : Int32) : kx_S E Y_C_hasFunction [.ref (ad (carB c)), .int f] w (kx_Qi w (nI (hasI (S (carB c) 1) f))) := by
  refine kx_go (by decide) rfl rfl (Nat.le_of_ble_eq_true rfl) (kx_cc rfl (kx_cc rfl kx_c0)) (fun z => ?_)
  have hO : kx_off w w clsN := kx_off.rf
  refine kx_aload_n d_C_hasFunction_0 rfl (by first | rfl | exact kx_rf _) ?_
  refine kx_get _ d_C_hasFunction_1 f_C_15 (hC.car c hc) (by rfl) ?_
  refine kx_iload_n d_C_hasFunction_4 rfl ?_
  refine kx_ishr _ d_C_hasFunction_5 rfl ?_
  refine kx_iconst (nI 1) d_C_hasFunction_6 (by decide) ?_
  refine kx_iand _ d_C_hasFunction_7 rfl ?_
  refine kx_if_eq 15 d_C_hasFunction_8 (by decide) ?_ ?_
  · intro h8
    refine kx_iconst (nI 0) d_C_hasFunction_15 (by decide) ?_
    refine kx_zret d_C_hasFunction_16 rfl (by decide) (by decide) (by decide) ?_
    unfold hasI
    first
      | (rw [if_pos h8]; exact ⟨rfl, rfl⟩)
      | (rw [if_neg h8]; exact ⟨rfl, rfl⟩)
  · intro h8
    refine kx_iconst (nI 1) d_C_hasFunction_11 (by decide) ?_
    refine kx_goto 16 d_C_hasFunction_12 (by decide) ?_
    refine kx_zret d_C_hasFunction_16 rfl (by decide) (by decide) (by decide) ?_
    unfold hasI
    first
      | (rw [if_pos h8]; exact ⟨rfl, rfl⟩)
      | (rw [if_neg h8]; exact ⟨rfl, rfl⟩)
theorem d_C_replaceByte_0 : decode c_C_replaceByte 0 = .ok (.aload_n 0, 1) := by decide +kernel
theorem d_C_replaceByte_1 : decode c_C_replaceByte 1 = .ok (.getfield 69, 3) := by decide +kernel
theorem d_C_replaceByte_4 : decode c_C_replaceByte 4 = .ok (.iload_n 1, 1) := by decide +kernel
theorem d_C_replaceByte_5 : decode c_C_replaceByte 5 = .ok (.invokestatic 72, 3) := by decide +kernel
theorem d_C_replaceByte_8 : decode c_C_replaceByte 8 = .ok (.istore_n 3, 1) := by decide +kernel
theorem d_C_replaceByte_9 : decode c_C_replaceByte 9 = .ok (.aload_n 0, 1) := by decide +kernel
theorem d_C_replaceByte_10 : decode c_C_replaceByte 10 = .ok (.aload_n 0, 1) := by decide +kernel
theorem d_C_replaceByte_11 : decode c_C_replaceByte 11 = .ok (.getfield 69, 3) := by decide +kernel
theorem d_C_replaceByte_14 : decode c_C_replaceByte 14 = .ok (.sipush 255, 3) := by decide +kernel
theorem d_C_replaceByte_17 : decode c_C_replaceByte 17 = .ok (.bipush 8, 2) := by decide +kernel
theorem d_C_replaceByte_19 : decode c_C_replaceByte 19 = .ok (.iload_n 1, 1) := by decide +kernel
theorem d_C_replaceByte_20 : decode c_C_replaceByte 20 = .ok (.imul, 1) := by decide +kernel
theorem d_C_replaceByte_21 : decode c_C_replaceByte 21 = .ok (.ishl, 1) := by decide +kernel
theorem d_C_replaceByte_22 : decode c_C_replaceByte 22 = .ok (.iconst (-1), 1) := by decide +kernel
theorem d_C_replaceByte_23 : decode c_C_replaceByte 23 = .ok (.ixor, 1) := by decide +kernel
theorem d_C_replaceByte_24 : decode c_C_replaceByte 24 = .ok (.iand, 1) := by decide +kernel
theorem d_C_replaceByte_25 : decode c_C_replaceByte 25 = .ok (.iload_n 2, 1) := by decide +kernel
theorem d_C_replaceByte_26 : decode c_C_replaceByte 26 = .ok (.bipush 8, 2) := by decide +kernel
theorem d_C_replaceByte_28 : decode c_C_replaceByte 28 = .ok (.iload_n 1, 1) := by decide +kernel
theorem d_C_replaceByte_29 : decode c_C_replaceByte 29 = .ok (.imul, 1) := by decide +kernel
theorem d_C_replaceByte_30 : decode c_C_replaceByte 30 = .ok (.ishl, 1) := by decide +kernel
theorem d_C_replaceByte_31 : decode c_C_replaceByte 31 = .ok (.ior, 1) := by decide +kernel
theorem d_C_replaceByte_32 : decode c_C_replaceByte 32 = .ok (.putfield 69, 3) := by decide +kernel
theorem d_C_replaceByte_35 : decode c_C_replaceByte 35 = .ok (.iload_n 3, 1) := by decide +kernel
theorem d_C_replaceByte_36 : decode c_C_replaceByte 36 = .ok (.ireturn, 1) := by decide +kernel
set_option maxHeartbeats 2000000 in
theorem m_C_replaceByte {E : kx_E} {w : va_W} {n : Nat} {ad : Nat → Nat} {L : Nat → List Nat} {V S : Nat → Nat → Int32} {pe bi : Nat → Option Nat} (hC : Cls E w n ad L V S pe bi) {c : Nat} (hc : c < n) (i v : Int32) : kx_S E Y_C_replaceByte [.ref (ad (carB c)), .int i, .int v] w (CQ E w n ad L V (up2 S (carB c) 8 (S (carB c) 8 &&& (nI 255 <<< (nI 8 * i &&& 31) ^^^ -1) ||| v <<< (nI 8 * i &&& 31))) pe bi (some (.int (byI (S (carB c) 8) i)))) := by
  refine kx_go (by decide) rfl rfl (Nat.le_of_ble_eq_true rfl) (kx_cc rfl (kx_cc rfl (kx_cc rfl kx_c0))) (fun z => ?_)
  have hO : kx_off w w clsN := kx_off.rf
  refine kx_aload_n d_C_replaceByte_0 rfl (by first | rfl | exact kx_rf _) ?_
  refine kx_get _ d_C_replaceByte_1 f_C_69 (hC.car c hc) (by rfl) ?_
  refine kx_iload_n d_C_replaceByte_4 rfl ?_
  refine kx_callS (as := [.int (S (carB c) 8), .int i]) (rest := []) d_C_replaceByte_5 s_C_72 rfl (by decide) (by decide) (by decide) (by decide) (by decide) rfl (m_C_byteOf _ _) (fun X w1 h => by cases h.1) (fun v w1 hq => ?_)
  obtain ⟨hv, hw9⟩ := hq
  cases hv
  subst hw9
  refine kx_istore_n d_C_replaceByte_8 (by decide) ?_
  refine kx_aload_n d_C_replaceByte_9 rfl (by first | rfl | exact kx_rf _) ?_
  refine kx_aload_n d_C_replaceByte_10 rfl (by first | rfl | exact kx_rf _) ?_
  refine kx_get _ d_C_replaceByte_11 f_C_69 (hC.car c hc) (by rfl) ?_
  refine kx_sipush (nI 255) d_C_replaceByte_14 (by decide) ?_
  refine kx_bipush (nI 8) d_C_replaceByte_17 (by decide) ?_
  refine kx_iload_n d_C_replaceByte_19 rfl ?_
  refine kx_imul _ d_C_replaceByte_20 rfl ?_
  refine kx_ishl _ d_C_replaceByte_21 rfl ?_
  refine kx_iconst (-1) d_C_replaceByte_22 (by decide) ?_
  refine kx_ixor _ d_C_replaceByte_23 rfl ?_
  refine kx_iand _ d_C_replaceByte_24 rfl ?_
  refine kx_iload_n d_C_replaceByte_25 rfl ?_
  refine kx_bipush (nI 8) d_C_replaceByte_26 (by decide) ?_
  refine kx_iload_n d_C_replaceByte_28 rfl ?_
  refine kx_imul _ d_C_replaceByte_29 rfl ?_
  refine kx_ishl _ d_C_replaceByte_30 rfl ?_
  refine kx_ior _ d_C_replaceByte_31 rfl ?_
  refine cC_put8 d_C_replaceByte_32 f_C_69 hC hO hc (fun w hC hO => ?_)
  refine kx_iload_n d_C_replaceByte_35 rfl ?_
  refine kx_iret d_C_replaceByte_36 rfl (by decide) (by decide) ?_
  exact ⟨rfl, hC, hO⟩
def knownI (A W : Nat → Int32) (own : Int32) (num j : Nat) (i : Int32) : Int32 := if (if j + 1 = num then nI 0 else A j) = -1 ∨ i = nI 4 then (if j + 1 = num then nI 0 else A j) else byI (if j + 1 = num then own else W j) i
theorem d_C_known_0 : decode c_C_known 0 = .ok (.iload_n 1, 1) := by decide +kernel
theorem d_C_known_1 : decode c_C_known 1 = .ok (.iconst 1, 1) := by decide +kernel
theorem d_C_known_2 : decode c_C_known 2 = .ok (.if_icmp .lt 14, 3) := by decide +kernel
theorem d_C_known_5 : decode c_C_known 5 = .ok (.iload_n 1, 1) := by decide +kernel
theorem d_C_known_6 : decode c_C_known 6 = .ok (.aload_n 0, 1) := by decide +kernel
theorem d_C_known_7 : decode c_C_known 7 = .ok (.getfield 34, 3) := by decide +kernel
theorem d_C_known_10 : decode c_C_known 10 = .ok (.getfield 76, 3) := by decide +kernel
theorem d_C_known_13 : decode c_C_known 13 = .ok (.if_icmp .le 5, 3) := by decide +kernel
theorem d_C_known_16 : decode c_C_known 16 = .ok (.iconst (-1), 1) := by decide +kernel
theorem d_C_known_17 : decode c_C_known 17 = .ok (.ireturn, 1) := by decide +kernel
theorem d_C_known_18 : decode c_C_known 18 = .ok (.iload_n 1, 1) := by decide +kernel
theorem d_C_known_19 : decode c_C_known 19 = .ok (.aload_n 0, 1) := by decide +kernel
theorem d_C_known_20 : decode c_C_known 20 = .ok (.getfield 60, 3) := by decide +kernel
theorem d_C_known_23 : decode c_C_known 23 = .ok (.if_icmp .ne 7, 3) := by decide +kernel
theorem d_C_known_26 : decode c_C_known 26 = .ok (.iconst 0, 1) := by decide +kernel
theorem d_C_known_27 : decode c_C_known 27 = .ok (.goto 11, 3) := by decide +kernel
theorem d_C_known_30 : decode c_C_known 30 = .ok (.aload_n 0, 1) := by decide +kernel
theorem d_C_known_31 : decode c_C_known 31 = .ok (.getfield 41, 3) := by decide +kernel
theorem d_C_known_34 : decode c_C_known 34 = .ok (.iload_n 1, 1) := by decide +kernel
theorem d_C_known_35 : decode c_C_known 35 = .ok (.iconst 1, 1) := by decide +kernel
theorem d_C_known_36 : decode c_C_known 36 = .ok (.isub, 1) := by decide +kernel
theorem d_C_known_37 : decode c_C_known 37 = .ok (.iaload, 1) := by decide +kernel
theorem d_C_known_38 : decode c_C_known 38 = .ok (.istore_n 3, 1) := by decide +kernel
theorem d_C_known_39 : decode c_C_known 39 = .ok (.iload_n 3, 1) := by decide +kernel
theorem d_C_known_40 : decode c_C_known 40 = .ok (.iconst (-1), 1) := by decide +kernel
theorem d_C_known_41 : decode c_C_known 41 = .ok (.if_icmp .eq 8, 3) := by decide +kernel
theorem d_C_known_44 : decode c_C_known 44 = .ok (.iload_n 2, 1) := by decide +kernel
theorem d_C_known_45 : decode c_C_known 45 = .ok (.iconst 4, 1) := by decide +kernel
theorem d_C_known_46 : decode c_C_known 46 = .ok (.if_icmp .ne 5, 3) := by decide +kernel
theorem d_C_known_49 : decode c_C_known 49 = .ok (.iload_n 3, 1) := by decide +kernel
theorem d_C_known_50 : decode c_C_known 50 = .ok (.ireturn, 1) := by decide +kernel
theorem d_C_known_51 : decode c_C_known 51 = .ok (.iload_n 1, 1) := by decide +kernel
theorem d_C_known_52 : decode c_C_known 52 = .ok (.aload_n 0, 1) := by decide +kernel
theorem d_C_known_53 : decode c_C_known 53 = .ok (.getfield 60, 3) := by decide +kernel
theorem d_C_known_56 : decode c_C_known 56 = .ok (.if_icmp .ne 10, 3) := by decide +kernel
theorem d_C_known_59 : decode c_C_known 59 = .ok (.aload_n 0, 1) := by decide +kernel
theorem d_C_known_60 : decode c_C_known 60 = .ok (.getfield 69, 3) := by decide +kernel
theorem d_C_known_63 : decode c_C_known 63 = .ok (.goto 11, 3) := by decide +kernel
theorem d_C_known_66 : decode c_C_known 66 = .ok (.aload_n 0, 1) := by decide +kernel
theorem d_C_known_67 : decode c_C_known 67 = .ok (.getfield 45, 3) := by decide +kernel
theorem d_C_known_70 : decode c_C_known 70 = .ok (.iload_n 1, 1) := by decide +kernel
theorem d_C_known_71 : decode c_C_known 71 = .ok (.iconst 1, 1) := by decide +kernel
theorem d_C_known_72 : decode c_C_known 72 = .ok (.isub, 1) := by decide +kernel
theorem d_C_known_73 : decode c_C_known 73 = .ok (.iaload, 1) := by decide +kernel
theorem d_C_known_74 : decode c_C_known 74 = .ok (.iload_n 2, 1) := by decide +kernel
theorem d_C_known_75 : decode c_C_known 75 = .ok (.invokestatic 72, 3) := by decide +kernel
theorem d_C_known_78 : decode c_C_known 78 = .ok (.ireturn, 1) := by decide +kernel
set_option maxHeartbeats 2000000 in
theorem m_C_known {E : kx_E} {w : va_W} {n : Nat} {ad : Nat → Nat} {L : Nat → List Nat} {V S : Nat → Nat → Int32} {pe bi : Nat → Option Nat} (hC : Cls E w n ad L V S pe bi) {c num j : Nat} (hc : c < n) (hn : S (carB c) 7 = nI num) (h24 : num ≤ 24) (hj : j < (L (carB c + 26)).length) (i : Int32) : kx_S E Y_C_known [.ref (ad (carB c)), .int (nI (j + 1)), .int i] w (kx_Qi w (knownI (V (carB c + 30)) (V (carB c + 31)) (S (carB c) 8) num j i)) := by
  refine kx_go (by decide) rfl rfl (Nat.le_of_ble_eq_true rfl) (kx_cc rfl (kx_cc rfl (kx_cc rfl kx_c0))) (fun z => ?_)
  have hO : kx_off w w clsN := kx_off.rf
  have hl := (hC.row _ (rowN_26 hc)).2.2.1
  unfold knownI
  have key : ∀ age : Int32, age = (if j + 1 = num then nI 0 else V (carB c + 30) j) → kx_R E Y_C_known z 38 [(0, .ref (ad (carB c))), (1, .int (nI (j + 1))), (2, .int i)] [.int age] w 0 0 (kx_Qi w (if (if j + 1 = num then nI 0 else V (carB c + 30) j) = -1 ∨ i = nI 4 then (if j + 1 = num then nI 0 else V (carB c + 30) j) else byI (if j + 1 = num then S (carB c) 8 else V (carB c + 31) j) i)) := by
    intro age ha
    rw [← ha]
    refine kx_istore_n d_C_known_38 (by decide) ?_
    refine kx_iload_n d_C_known_39 rfl ?_
    refine kx_iconst (-1) d_C_known_40 (by decide) ?_
    refine kx_icmp_eq 49 d_C_known_41 (by decide) ?_ ?_
    · intro h41
      refine kx_iload_n d_C_known_49 rfl ?_
      first
        | (rw [if_pos (Or.inl h41)]; exact kx_iret d_C_known_50 rfl (by decide) (by decide) ⟨rfl, rfl⟩)
        | (rw [if_pos (Or.inr h46)]; exact kx_iret d_C_known_50 rfl (by decide) (by decide) ⟨rfl, rfl⟩)
    · intro h41
      refine kx_iload_n d_C_known_44 rfl ?_
      refine kx_iconst (nI 4) d_C_known_45 (by decide) ?_
      refine kx_icmp_ne 51 d_C_known_46 (by decide) ?_ ?_
      · intro h46
        rw [if_neg (fun q => by rcases q with q | q; exact h41 q; exact h46 q)]
        refine kx_iload_n d_C_known_51 rfl ?_
        refine kx_aload_n d_C_known_52 rfl (by first | rfl | exact kx_rf _) ?_
        refine kx_get _ d_C_known_53 f_C_60 (hC.car c hc) (by rfl) ?_
        rw [hn]
        first | refine kx_icmp_ne_n 66 d_C_known_56 (by decide) (by omega) (by omega) ?_ ?_ | refine kx_icmp_ne 66 d_C_known_56 (by decide) ?_ ?_
        · intro h56
          refine kx_aload_n d_C_known_66 rfl (by first | rfl | exact kx_rf _) ?_
          refine kx_get _ d_C_known_67 f_C_45 (hC.car c hc) (by rfl) ?_
          refine kx_iload_n d_C_known_70 rfl ?_
          refine kx_iconst (nI 1) d_C_known_71 (by decide) ?_
          first | refine kx_isub _ d_C_known_72 (pk_sub (by omega)) ?_ | refine kx_isub _ d_C_known_72 rfl ?_
          refine cV_get d_C_known_73 hC (intN_31 hc) (by omega) ?_
          refine kx_iload_n d_C_known_74 rfl ?_
          refine kx_callS (as := [.int _, .int _]) (rest := []) d_C_known_75 s_C_72 rfl (by decide) (by decide) (by decide) (by decide) (by decide) rfl (m_C_byteOf _ _) (fun X w1 h => by cases h.1) (fun v w1 hq => ?_)
          obtain ⟨hv, hw9⟩ := hq
          cases hv
          subst hw9
          refine kx_stk (st1 := [.int (byI _ i)]) rfl ?_
          first
            | (rw [if_pos h56]; exact kx_iret d_C_known_78 rfl (by decide) (by decide) ⟨rfl, rfl⟩)
            | (rw [if_neg h56]; exact kx_iret d_C_known_78 rfl (by decide) (by decide) ⟨rfl, rfl⟩)
        · intro h56
          refine kx_aload_n d_C_known_59 rfl (by first | rfl | exact kx_rf _) ?_
          refine kx_get _ d_C_known_60 f_C_69 (hC.car c hc) (by rfl) ?_
          refine kx_goto 74 d_C_known_63 (by decide) ?_
          refine kx_iload_n d_C_known_74 rfl ?_
          refine kx_callS (as := [.int _, .int _]) (rest := []) d_C_known_75 s_C_72 rfl (by decide) (by decide) (by decide) (by decide) (by decide) rfl (m_C_byteOf _ _) (fun X w1 h => by cases h.1) (fun v w1 hq => ?_)
          obtain ⟨hv, hw9⟩ := hq
          cases hv
          subst hw9
          refine kx_stk (st1 := [.int (byI _ i)]) rfl ?_
          first
            | (rw [if_pos h56]; exact kx_iret d_C_known_78 rfl (by decide) (by decide) ⟨rfl, rfl⟩)
            | (rw [if_neg h56]; exact kx_iret d_C_known_78 rfl (by decide) (by decide) ⟨rfl, rfl⟩)
      · intro h46
        refine kx_iload_n d_C_known_49 rfl ?_
        first
          | (rw [if_pos (Or.inl h41)]; exact kx_iret d_C_known_50 rfl (by decide) (by decide) ⟨rfl, rfl⟩)
          | (rw [if_pos (Or.inr h46)]; exact kx_iret d_C_known_50 rfl (by decide) (by decide) ⟨rfl, rfl⟩)
  refine kx_iload_n d_C_known_0 rfl ?_
  refine kx_iconst (nI 1) d_C_known_1 (by decide) ?_
  first | refine kx_icmp_lt_n 16 d_C_known_2 (by decide) (by omega) (by omega) ?_ ?_ | refine kx_icmp_lt 16 d_C_known_2 (by decide) ?_ ?_
  · intro h2
    first | exact absurd h2 (by omega) | exact absurd h13 (by omega)
  · intro h2
    refine kx_iload_n d_C_known_5 rfl ?_
    refine kx_aload_n d_C_known_6 rfl (by first | rfl | exact kx_rf _) ?_
    refine kx_get _ d_C_known_7 f_C_34 (hC.car c hc) (by rfl) ?_
    refine kx_get _ d_C_known_10 f_C_76 (hC.rowObj (rowN_26 hc)) (by rfl) ?_
    first | refine kx_icmp_le_n 18 d_C_known_13 (by decide) (by omega) (by omega) ?_ ?_ | refine kx_icmp_le 18 d_C_known_13 (by decide) ?_ ?_
    · intro h13
      refine kx_iload_n d_C_known_18 rfl ?_
      refine kx_aload_n d_C_known_19 rfl (by first | rfl | exact kx_rf _) ?_
      refine kx_get _ d_C_known_20 f_C_60 (hC.car c hc) (by rfl) ?_
      rw [hn]
      first | refine kx_icmp_ne_n 30 d_C_known_23 (by decide) (by omega) (by omega) ?_ ?_ | refine kx_icmp_ne 30 d_C_known_23 (by decide) ?_ ?_
      · intro h23
        refine kx_aload_n d_C_known_30 rfl (by first | rfl | exact kx_rf _) ?_
        refine kx_get _ d_C_known_31 f_C_41 (hC.car c hc) (by rfl) ?_
        refine kx_iload_n d_C_known_34 rfl ?_
        refine kx_iconst (nI 1) d_C_known_35 (by decide) ?_
        first | refine kx_isub _ d_C_known_36 (pk_sub (by omega)) ?_ | refine kx_isub _ d_C_known_36 rfl ?_
        refine cV_get d_C_known_37 hC (intN_30 hc) (by omega) ?_
        refine kx_loc (L1 := [(0, .ref (ad (carB c))), (1, .int (nI (j + 1))), (2, .int i)]) ⟨rfl, rfl, rfl, trivial⟩ ?_
        refine key _ ?_
        first
          | (rw [if_pos h23]; done)
          | (rw [if_neg h23]; rfl)
      · intro h23
        refine kx_iconst (nI 0) d_C_known_26 (by decide) ?_
        refine kx_goto 38 d_C_known_27 (by decide) ?_
        refine kx_loc (L1 := [(0, .ref (ad (carB c))), (1, .int (nI (j + 1))), (2, .int i)]) ⟨rfl, rfl, rfl, trivial⟩ ?_
        refine key _ ?_
        first
          | (rw [if_pos h23]; done)
          | (rw [if_neg h23]; rfl)
    · intro h13
      first | exact absurd h2 (by omega) | exact absurd h13 (by omega)
set_option maxHeartbeats 2000000 in
theorem m_C_known_no {E : kx_E} {w : va_W} {n : Nat} {ad : Nat → Nat} {L : Nat → List Nat} {V S : Nat → Nat → Int32} {pe bi : Nat → Option Nat} (hC : Cls E w n ad L V S pe bi) {c : Nat} (hc : c < n) {v : Int32} (hv : v < nI 1 ∨ nI (L (carB c + 26)).length < v) (i : Int32) : kx_S E Y_C_known [.ref (ad (carB c)), .int v, .int i] w (kx_Qi w (-1)) := by
  refine kx_go (by decide) rfl rfl (Nat.le_of_ble_eq_true rfl) (kx_cc rfl (kx_cc rfl (kx_cc rfl kx_c0))) (fun z => ?_)
  have hO : kx_off w w clsN := kx_off.rf
  refine kx_iload_n d_C_known_0 rfl ?_
  refine kx_iconst (nI 1) d_C_known_1 (by decide) ?_
  refine kx_icmp_lt 16 d_C_known_2 (by decide) ?_ ?_
  · intro h2
    refine kx_iconst (-1) d_C_known_16 (by decide) ?_
    refine kx_iret d_C_known_17 rfl (by decide) (by decide) ?_
    exact ⟨rfl, rfl⟩
  · intro h2
    refine kx_iload_n d_C_known_5 rfl ?_
    refine kx_aload_n d_C_known_6 rfl (by first | rfl | exact kx_rf _) ?_
    refine kx_get _ d_C_known_7 f_C_34 (hC.car c hc) (by rfl) ?_
    refine kx_get _ d_C_known_10 f_C_76 (hC.rowObj (rowN_26 hc)) (by rfl) ?_
    refine kx_icmp_le 18 d_C_known_13 (by decide) ?_ ?_
    · intro h13
      exact absurd h13 (fun h9 => by rcases hv with h | h; exact h2 h; exact absurd (Int32.lt_iff_toInt_lt.mp h) (Int.not_lt.mpr (Int32.le_iff_toInt_le.mp h9)))
    · intro h13
      refine kx_iconst (-1) d_C_known_16 (by decide) ?_
      refine kx_iret d_C_known_17 rfl (by decide) (by decide) ?_
      exact ⟨rfl, rfl⟩
def agrI (L : Nat → List Nat) (c e s : Nat) : Nat := if 4 ≤ s ∨ L (e + 3) = L (carB c + 26) then 1 else 0
theorem d_C_agreesAt_0 : decode c_C_agreesAt 0 = .ok (.aload_n 1, 1) := by decide +kernel
theorem d_C_agreesAt_1 : decode c_C_agreesAt 1 = .ok (.getfield 87, 3) := by decide +kernel
theorem d_C_agreesAt_4 : decode c_C_agreesAt 4 = .ok (.iconst 4, 1) := by decide +kernel
theorem d_C_agreesAt_5 : decode c_C_agreesAt 5 = .ok (.if_icmp .ge 17, 3) := by decide +kernel
theorem d_C_agreesAt_8 : decode c_C_agreesAt 8 = .ok (.aload_n 1, 1) := by decide +kernel
theorem d_C_agreesAt_9 : decode c_C_agreesAt 9 = .ok (.getfield 101, 3) := by decide +kernel
theorem d_C_agreesAt_12 : decode c_C_agreesAt 12 = .ok (.aload_n 0, 1) := by decide +kernel
theorem d_C_agreesAt_13 : decode c_C_agreesAt 13 = .ok (.getfield 34, 3) := by decide +kernel
theorem d_C_agreesAt_16 : decode c_C_agreesAt 16 = .ok (.invokevirtual 104, 3) := by decide +kernel
theorem d_C_agreesAt_19 : decode c_C_agreesAt 19 = .ok (.ifCond .eq 7, 3) := by decide +kernel
theorem d_C_agreesAt_22 : decode c_C_agreesAt 22 = .ok (.iconst 1, 1) := by decide +kernel
theorem d_C_agreesAt_23 : decode c_C_agreesAt 23 = .ok (.goto 4, 3) := by decide +kernel
theorem d_C_agreesAt_26 : decode c_C_agreesAt 26 = .ok (.iconst 0, 1) := by decide +kernel
theorem d_C_agreesAt_27 : decode c_C_agreesAt 27 = .ok (.ireturn, 1) := by decide +kernel
set_option maxHeartbeats 2000000 in
theorem m_C_agreesAt {E : kx_E} {w : va_W} {n : Nat} {ad : Nat → Nat} {L : Nat → List Nat} {V S : Nat → Nat → Int32} {pe bi : Nat → Option Nat} (hC : Cls E w n ad L V S pe bi) {c e s : Nat} (hc : c < n) (he : endN n e) (hs : S e 8 = nI s) (h4 : s ≤ 4) : kx_S E Y_C_agreesAt [.ref (ad (carB c)), .ref (ad e)] w (kx_Qi w (nI (agrI L c e s))) := by
  refine kx_go (by decide) rfl rfl (Nat.le_of_ble_eq_true rfl) (kx_cc rfl (kx_cc rfl kx_c0)) (fun z => ?_)
  have hO : kx_off w w clsN := kx_off.rf
  refine kx_aload_n d_C_agreesAt_0 rfl (by first | rfl | exact kx_rf _) ?_
  refine kx_get _ d_C_agreesAt_1 f_C_87 (hC.endAt he) (by rfl) ?_
  rw [hs]
  refine kx_iconst (nI 4) d_C_agreesAt_4 (by decide) ?_
  first | refine kx_icmp_ge_n 22 d_C_agreesAt_5 (by decide) (by omega) (by omega) ?_ ?_ | refine kx_icmp_ge 22 d_C_agreesAt_5 (by decide) ?_ ?_
  · intro h5
    refine kx_iconst (nI 1) d_C_agreesAt_22 (by decide) ?_
    refine kx_goto 27 d_C_agreesAt_23 (by decide) ?_
    unfold agrI
    first
      | (rw [if_pos (Or.inl h5)]; exact kx_zret d_C_agreesAt_27 rfl (by decide) (by decide) (by decide) ⟨rfl, rfl⟩)
      | (have e : L (e + 3) = L (carB c + 26) := Decidable.byContradiction (fun q => h19 (by rw [if_neg q]))
         rw [if_pos (Or.inr e)]; exact kx_zret d_C_agreesAt_27 rfl (by decide) (by decide) (by decide) ⟨rfl, rfl⟩)
      | (rw [if_neg]; exact kx_zret d_C_agreesAt_27 rfl (by decide) (by decide) (by decide) ⟨rfl, rfl⟩
         rintro (q | q)
         · omega
         · rw [if_pos q] at h19; cases h19)
  · intro h5
    refine kx_aload_n d_C_agreesAt_8 rfl (by first | rfl | exact kx_rf _) ?_
    refine kx_get _ d_C_agreesAt_9 f_C_101 (hC.endAt he) (by rfl) ?_
    refine kx_aload_n d_C_agreesAt_12 rfl (by first | rfl | exact kx_rf _) ?_
    refine kx_get _ d_C_agreesAt_13 f_C_34 (hC.car c hc) (by rfl) ?_
    refine cR_isSameAs d_C_agreesAt_16 v_C_104 hC (rowN_e3 he) (rowN_26 hc) (by decide) (Nat.le_of_ble_eq_true rfl) (by decide) (by decide) ?_
    refine kx_if_eq_n 26 d_C_agreesAt_19 (by decide) (by split <;> decide) ?_ ?_
    · intro h19
      refine kx_iconst (nI 0) d_C_agreesAt_26 (by decide) ?_
      unfold agrI
      first
        | (rw [if_pos (Or.inl h5)]; exact kx_zret d_C_agreesAt_27 rfl (by decide) (by decide) (by decide) ⟨rfl, rfl⟩)
        | (have e : L (e + 3) = L (carB c + 26) := Decidable.byContradiction (fun q => h19 (by rw [if_neg q]))
           rw [if_pos (Or.inr e)]; exact kx_zret d_C_agreesAt_27 rfl (by decide) (by decide) (by decide) ⟨rfl, rfl⟩)
        | (rw [if_neg]; exact kx_zret d_C_agreesAt_27 rfl (by decide) (by decide) (by decide) ⟨rfl, rfl⟩
           rintro (q | q)
           · omega
           · rw [if_pos q] at h19; cases h19)
    · intro h19
      refine kx_iconst (nI 1) d_C_agreesAt_22 (by decide) ?_
      refine kx_goto 27 d_C_agreesAt_23 (by decide) ?_
      unfold agrI
      first
        | (rw [if_pos (Or.inl h5)]; exact kx_zret d_C_agreesAt_27 rfl (by decide) (by decide) (by decide) ⟨rfl, rfl⟩)
        | (have e : L (e + 3) = L (carB c + 26) := Decidable.byContradiction (fun q => h19 (by rw [if_neg q]))
           rw [if_pos (Or.inr e)]; exact kx_zret d_C_agreesAt_27 rfl (by decide) (by decide) (by decide) ⟨rfl, rfl⟩)
        | (rw [if_neg]; exact kx_zret d_C_agreesAt_27 rfl (by decide) (by decide) (by decide) ⟨rfl, rfl⟩
           rintro (q | q)
           · omega
           · rw [if_pos q] at h19; cases h19)
theorem agrI_01 (L : Nat → List Nat) (c e s : Nat) : agrI L c e s = 0 ∨ agrI L c e s = 1 := by unfold agrI; split <;> simp
def staI (L : Nat → List Nat) (c s0 s1 : Nat) : Nat := if (L (carB c + 26)).length = 0 then 0 else if agrI L c (carE c 0) s0 = 1 ∧ agrI L c (carE c 1) s1 = 1 then 2 else 1
theorem d_C_state_0 : decode c_C_state 0 = .ok (.aload_n 0, 1) := by decide +kernel
theorem d_C_state_1 : decode c_C_state 1 = .ok (.getfield 34, 3) := by decide +kernel
theorem d_C_state_4 : decode c_C_state 4 = .ok (.getfield 76, 3) := by decide +kernel
theorem d_C_state_7 : decode c_C_state 7 = .ok (.ifCond .ne 5, 3) := by decide +kernel
theorem d_C_state_10 : decode c_C_state 10 = .ok (.iconst 0, 1) := by decide +kernel
theorem d_C_state_11 : decode c_C_state 11 = .ok (.ireturn, 1) := by decide +kernel
theorem d_C_state_12 : decode c_C_state 12 = .ok (.aload_n 0, 1) := by decide +kernel
theorem d_C_state_13 : decode c_C_state 13 = .ok (.aload_n 0, 1) := by decide +kernel
theorem d_C_state_14 : decode c_C_state 14 = .ok (.getfield 20, 3) := by decide +kernel
theorem d_C_state_17 : decode c_C_state 17 = .ok (.iconst 0, 1) := by decide +kernel
theorem d_C_state_18 : decode c_C_state 18 = .ok (.aaload, 1) := by decide +kernel
theorem d_C_state_19 : decode c_C_state 19 = .ok (.invokevirtual 97, 3) := by decide +kernel
theorem d_C_state_22 : decode c_C_state 22 = .ok (.ifCond .eq 20, 3) := by decide +kernel
theorem d_C_state_25 : decode c_C_state 25 = .ok (.aload_n 0, 1) := by decide +kernel
theorem d_C_state_26 : decode c_C_state 26 = .ok (.aload_n 0, 1) := by decide +kernel
theorem d_C_state_27 : decode c_C_state 27 = .ok (.getfield 20, 3) := by decide +kernel
theorem d_C_state_30 : decode c_C_state 30 = .ok (.iconst 1, 1) := by decide +kernel
theorem d_C_state_31 : decode c_C_state 31 = .ok (.aaload, 1) := by decide +kernel
theorem d_C_state_32 : decode c_C_state 32 = .ok (.invokevirtual 97, 3) := by decide +kernel
theorem d_C_state_35 : decode c_C_state 35 = .ok (.ifCond .eq 7, 3) := by decide +kernel
theorem d_C_state_38 : decode c_C_state 38 = .ok (.iconst 2, 1) := by decide +kernel
theorem d_C_state_39 : decode c_C_state 39 = .ok (.goto 4, 3) := by decide +kernel
theorem d_C_state_42 : decode c_C_state 42 = .ok (.iconst 1, 1) := by decide +kernel
theorem d_C_state_43 : decode c_C_state 43 = .ok (.ireturn, 1) := by decide +kernel
set_option maxHeartbeats 2000000 in
theorem m_C_state {E : kx_E} {w : va_W} {n : Nat} {ad : Nat → Nat} {L : Nat → List Nat} {V S : Nat → Nat → Int32} {pe bi : Nat → Option Nat} (hC : Cls E w n ad L V S pe bi) {c s0 s1 : Nat} (hc : c < n) (hs0 : S (carE c 0) 8 = nI s0) (hs1 : S (carE c 1) 8 = nI s1) (h40 : s0 ≤ 4) (h41 : s1 ≤ 4) : kx_S E Y_C_state [.ref (ad (carB c))] w (kx_Qi w (nI (staI L c s0 s1))) := by
  refine kx_go (by decide) rfl rfl (Nat.le_of_ble_eq_true rfl) (kx_cc rfl kx_c0) (fun z => ?_)
  have hO : kx_off w w clsN := kx_off.rf
  have hl := (hC.row _ (rowN_26 hc)).2.2.1
  have z0 := agrI_01 L c (carE c 0) s0
  have z1 := agrI_01 L c (carE c 1) s1
  refine kx_aload_n d_C_state_0 rfl (by first | rfl | exact kx_rf _) ?_
  refine kx_get _ d_C_state_1 f_C_34 (hC.car c hc) (by rfl) ?_
  refine kx_get _ d_C_state_4 f_C_76 (hC.rowObj (rowN_26 hc)) (by rfl) ?_
  first | refine kx_if_ne_n 12 d_C_state_7 (by decide) (by omega) ?_ ?_ | refine kx_if_ne 12 d_C_state_7 (by decide) ?_ ?_
  · intro h7
    refine kx_aload_n d_C_state_12 rfl (by first | rfl | exact kx_rf _) ?_
    refine kx_aload_n d_C_state_13 rfl (by first | rfl | exact kx_rf _) ?_
    refine kx_get _ d_C_state_14 f_C_20 (hC.car c hc) (by rfl) ?_
    refine kx_iconst (nI 0) d_C_state_17 (by decide) ?_
    refine cA_end d_C_state_18 hC hc (by first | decide | omega) ?_
    refine kx_callV (as := [.ref (ad (carE c 0))]) (rest := []) d_C_state_19 v_C_97 rfl (hC.car c hc) rfl rfl (by decide) (by decide) (by decide) (by decide) (by decide) rfl (m_C_agreesAt hC hc (carE_N hc) hs0 h40) (fun X w1 h => by cases h.1) (fun v w1 hq => ?_)
    obtain ⟨hv, hw9⟩ := hq
    cases hv
    subst hw9
    refine kx_stk (st1 := [.int (nI (agrI L c (carE c 0) s0))]) rfl ?_
    first | refine kx_if_eq_n 42 d_C_state_22 (by decide) (by omega) ?_ ?_ | refine kx_if_eq 42 d_C_state_22 (by decide) ?_ ?_
    · intro h22
      refine kx_iconst (nI 1) d_C_state_42 (by decide) ?_
      unfold staI
      rw [if_neg h7]
      first
        | (rw [if_pos ⟨by omega, by omega⟩]; exact kx_iret d_C_state_43 rfl (by decide) (by decide) ⟨rfl, rfl⟩)
        | (rw [if_neg (fun q => by omega)]; exact kx_iret d_C_state_43 rfl (by decide) (by decide) ⟨rfl, rfl⟩)
    · intro h22
      refine kx_aload_n d_C_state_25 rfl (by first | rfl | exact kx_rf _) ?_
      refine kx_aload_n d_C_state_26 rfl (by first | rfl | exact kx_rf _) ?_
      refine kx_get _ d_C_state_27 f_C_20 (hC.car c hc) (by rfl) ?_
      refine kx_iconst (nI 1) d_C_state_30 (by decide) ?_
      refine cA_end d_C_state_31 hC hc (by first | decide | omega) ?_
      refine kx_callV (as := [.ref (ad (carE c 1))]) (rest := []) d_C_state_32 v_C_97 rfl (hC.car c hc) rfl rfl (by decide) (by decide) (by decide) (by decide) (by decide) rfl (m_C_agreesAt hC hc (carE_N hc) hs1 h41) (fun X w1 h => by cases h.1) (fun v w1 hq => ?_)
      obtain ⟨hv, hw9⟩ := hq
      cases hv
      subst hw9
      refine kx_stk (st1 := [.int (nI (agrI L c (carE c 1) s1))]) rfl ?_
      first | refine kx_if_eq_n 42 d_C_state_35 (by decide) (by omega) ?_ ?_ | refine kx_if_eq 42 d_C_state_35 (by decide) ?_ ?_
      · intro h35
        refine kx_iconst (nI 1) d_C_state_42 (by decide) ?_
        unfold staI
        rw [if_neg h7]
        first
          | (rw [if_pos ⟨by omega, by omega⟩]; exact kx_iret d_C_state_43 rfl (by decide) (by decide) ⟨rfl, rfl⟩)
          | (rw [if_neg (fun q => by omega)]; exact kx_iret d_C_state_43 rfl (by decide) (by decide) ⟨rfl, rfl⟩)
      · intro h35
        refine kx_iconst (nI 2) d_C_state_38 (by decide) ?_
        refine kx_goto 43 d_C_state_39 (by decide) ?_
        unfold staI
        rw [if_neg h7]
        first
          | (rw [if_pos ⟨by omega, by omega⟩]; exact kx_iret d_C_state_43 rfl (by decide) (by decide) ⟨rfl, rfl⟩)
          | (rw [if_neg (fun q => by omega)]; exact kx_iret d_C_state_43 rfl (by decide) (by decide) ⟨rfl, rfl⟩)
  · intro h7
    refine kx_iconst (nI 0) d_C_state_10 (by decide) ?_
    unfold staI
    rw [if_pos h7]
    exact kx_iret d_C_state_11 rfl (by decide) (by decide) ⟨rfl, rfl⟩
theorem d_C_growOlder_0 : decode c_C_growOlder 0 = .ok (.iconst 0, 1) := by decide +kernel
theorem d_C_growOlder_1 : decode c_C_growOlder 1 = .ok (.istore_n 1, 1) := by decide +kernel
theorem d_C_growOlder_2 : decode c_C_growOlder 2 = .ok (.iload_n 1, 1) := by decide +kernel
theorem d_C_growOlder_3 : decode c_C_growOlder 3 = .ok (.aload_n 0, 1) := by decide +kernel
theorem d_C_growOlder_4 : decode c_C_growOlder 4 = .ok (.getfield 34, 3) := by decide +kernel
theorem d_C_growOlder_7 : decode c_C_growOlder 7 = .ok (.getfield 76, 3) := by decide +kernel
theorem d_C_growOlder_10 : decode c_C_growOlder 10 = .ok (.if_icmp .ge 29, 3) := by decide +kernel
theorem d_C_growOlder_13 : decode c_C_growOlder 13 = .ok (.aload_n 0, 1) := by decide +kernel
theorem d_C_growOlder_14 : decode c_C_growOlder 14 = .ok (.getfield 41, 3) := by decide +kernel
theorem d_C_growOlder_17 : decode c_C_growOlder 17 = .ok (.iload_n 1, 1) := by decide +kernel
theorem d_C_growOlder_18 : decode c_C_growOlder 18 = .ok (.iaload, 1) := by decide +kernel
theorem d_C_growOlder_19 : decode c_C_growOlder 19 = .ok (.iconst (-1), 1) := by decide +kernel
theorem d_C_growOlder_20 : decode c_C_growOlder 20 = .ok (.if_icmp .eq 13, 3) := by decide +kernel
theorem d_C_growOlder_23 : decode c_C_growOlder 23 = .ok (.aload_n 0, 1) := by decide +kernel
theorem d_C_growOlder_24 : decode c_C_growOlder 24 = .ok (.getfield 41, 3) := by decide +kernel
theorem d_C_growOlder_27 : decode c_C_growOlder 27 = .ok (.iload_n 1, 1) := by decide +kernel
theorem d_C_growOlder_28 : decode c_C_growOlder 28 = .ok (.dup2, 1) := by decide +kernel
theorem d_C_growOlder_29 : decode c_C_growOlder 29 = .ok (.iaload, 1) := by decide +kernel
theorem d_C_growOlder_30 : decode c_C_growOlder 30 = .ok (.iconst 1, 1) := by decide +kernel
theorem d_C_growOlder_31 : decode c_C_growOlder 31 = .ok (.iadd, 1) := by decide +kernel
theorem d_C_growOlder_32 : decode c_C_growOlder 32 = .ok (.iastore, 1) := by decide +kernel
theorem d_C_growOlder_33 : decode c_C_growOlder 33 = .ok (.iinc 1 1, 3) := by decide +kernel
theorem d_C_growOlder_36 : decode c_C_growOlder 36 = .ok (.goto (-34), 3) := by decide +kernel
theorem d_C_growOlder_39 : decode c_C_growOlder 39 = .ok (.return_, 1) := by decide +kernel
def growV (f : Nat → Int32) (m : Nat) : Nat → Int32 := fun i => if i < m ∧ ¬ f i = -1 then f i + 1 else f i
theorem growV_0 (f : Nat → Int32) : growV f 0 = f := by funext i; unfold growV; rw [if_neg (fun q => by omega)]
theorem growV_k (f : Nat → Int32) (k : Nat) : growV f k k = f k := by unfold growV; rw [if_neg (fun q => by omega)]
theorem growV_s {f : Nat → Int32} {k : Nat} (h : ¬ f k = -1) : upd (growV f k) k (f k + nI 1) = growV f (k + 1) := by
  funext i
  by_cases e : i = k
  · subst e; rw [pk_us]; unfold growV; rw [if_pos ⟨by omega, h⟩]; rfl
  · rw [pk_un e]; unfold growV
    by_cases q : i < k ∧ ¬ f i = -1
    · rw [if_pos q, if_pos ⟨by omega, q.2⟩]
    · rw [if_neg q, if_neg (fun r => q ⟨by omega, r.2⟩)]
theorem growV_n {f : Nat → Int32} {k : Nat} (h : f k = -1) : growV f k = growV f (k + 1) := by
  funext i
  unfold growV
  by_cases e : i = k
  · subst e; rw [if_neg (fun q => by omega), if_neg (fun q => q.2 h)]
  · by_cases q : i < k ∧ ¬ f i = -1
    · rw [if_pos q, if_pos ⟨by omega, q.2⟩]
    · rw [if_neg q, if_neg (fun r => q ⟨by omega, r.2⟩)]
theorem Cls.cgV {E : kx_E} {w : va_W} {n : Nat} {ad : Nat → Nat} {L : Nat → List Nat} {V V1 S : Nat → Nat → Int32} {pe bi : Nat → Option Nat} (h : Cls E w n ad L V S pe bi) (e : V = V1) : Cls E w n ad L V1 S pe bi := e ▸ h
theorem up1_id {α : Type} {f : Nat → α} {x : Nat} : up1 f x (f x) = f := by funext y; unfold up1; by_cases h : y = x <;> simp [h]
set_option maxHeartbeats 2000000 in
theorem l_C_growOlder {E : kx_E} {n : Nat} {ad : Nat → Nat} {L : Nat → List Nat} {V S : Nat → Nat → Int32} {pe bi : Nat → Option Nat} {w0 : va_W} {c : Nat} (hc : c < n) {z : kx_Z} {Q : kx_O → va_W → Prop} (hQ : ∀ w, Cls E w n ad L (up1 V (carB c + 30) (growV (V (carB c + 30)) (L (carB c + 26)).length)) S pe bi → kx_off w0 w clsN → Q (.inl none) w) : ∀ (m k : Nat) (w : va_W), m + k = (L (carB c + 26)).length → Cls E w n ad L (up1 V (carB c + 30) (growV (V (carB c + 30)) k)) S pe bi → kx_off w0 w clsN → kx_R E Y_C_growOlder z 2 [(0, .ref (ad (carB c))), (1, .int (nI k))] [] w 0 0 Q := by
  intro m
  induction m with
  | zero =>
    intro k w hk hC hO
    have hl := (hC.row _ (rowN_26 hc)).2.2.1
    have hk : k = (L (carB c + 26)).length := by omega
    subst hk
    refine kx_iload_n d_C_growOlder_2 rfl ?_
    refine kx_aload_n d_C_growOlder_3 rfl (by first | rfl | exact kx_rf _) ?_
    refine kx_get _ d_C_growOlder_4 f_C_34 (hC.car c hc) (by rfl) ?_
    refine kx_get _ d_C_growOlder_7 f_C_76 (hC.rowObj (rowN_26 hc)) (by rfl) ?_
    first | refine kx_icmp_ge_n 39 d_C_growOlder_10 (by decide) (by omega) (by omega) ?_ ?_ | refine kx_icmp_ge 39 d_C_growOlder_10 (by decide) ?_ ?_
    · intro h10
      refine kx_vret d_C_growOlder_39 rfl (by decide) (by decide) ?_
      exact hQ w hC hO
    · intro h10
      exact absurd h10 (by omega)
  | succ m ih =>
    intro k w hk hC hO
    have hl := (hC.row _ (rowN_26 hc)).2.2.1
    refine kx_iload_n d_C_growOlder_2 rfl ?_
    refine kx_aload_n d_C_growOlder_3 rfl (by first | rfl | exact kx_rf _) ?_
    refine kx_get _ d_C_growOlder_4 f_C_34 (hC.car c hc) (by rfl) ?_
    refine kx_get _ d_C_growOlder_7 f_C_76 (hC.rowObj (rowN_26 hc)) (by rfl) ?_
    first | refine kx_icmp_ge_n 39 d_C_growOlder_10 (by decide) (by omega) (by omega) ?_ ?_ | refine kx_icmp_ge 39 d_C_growOlder_10 (by decide) ?_ ?_
    · intro h10
      exact absurd h10 (by omega)
    · intro h10
      refine kx_aload_n d_C_growOlder_13 rfl (by first | rfl | exact kx_rf _) ?_
      refine kx_get _ d_C_growOlder_14 f_C_41 (hC.car c hc) (by rfl) ?_
      refine kx_iload_n d_C_growOlder_17 rfl ?_
      refine cV_get d_C_growOlder_18 hC (intN_30 hc) (by omega) ?_
      rw [up1_s, growV_k]
      refine kx_iconst (-1) d_C_growOlder_19 (by decide) ?_
      refine kx_icmp_eq 33 d_C_growOlder_20 (by decide) ?_ ?_
      · intro h20
        refine kx_iinc _ d_C_growOlder_33 rfl (by decide) (nI_1 _) ?_
        refine kx_goto 2 d_C_growOlder_36 (by decide) ?_
        refine kx_loc (L1 := [(0, .ref (ad (carB c))), (1, .int (nI (k + 1)))]) ⟨rfl, rfl, trivial⟩ ?_
        first
          | exact ih (k + 1) w (by omega) hC hO
          | (rw [growV_n h20] at hC; exact ih (k + 1) w (by omega) hC hO)
      · intro h20
        refine kx_aload_n d_C_growOlder_23 rfl (by first | rfl | exact kx_rf _) ?_
        refine kx_get _ d_C_growOlder_24 f_C_41 (hC.car c hc) (by rfl) ?_
        refine kx_iload_n d_C_growOlder_27 rfl ?_
        refine kx_dup2 d_C_growOlder_28 rfl rfl ?_
        refine cV_get d_C_growOlder_29 hC (intN_30 hc) (by omega) ?_
        rw [up1_s, growV_k]
        refine kx_iconst (nI 1) d_C_growOlder_30 (by decide) ?_
        refine kx_iadd _ d_C_growOlder_31 rfl ?_
        refine cV_put d_C_growOlder_32 hC hO (intN_30 hc) (by omega) (fun w hC hO => ?_)
        rw [up1_s] at hC
        have hC := hC.cgV (show up1 (up1 V (carB c + 30) (growV (V (carB c + 30)) k)) (carB c + 30) _ = up1 V (carB c + 30) (growV (V (carB c + 30)) (k + 1)) by rw [up1_up1, growV_s h20])
        refine kx_iinc _ d_C_growOlder_33 rfl (by decide) (nI_1 _) ?_
        refine kx_goto 2 d_C_growOlder_36 (by decide) ?_
        refine kx_loc (L1 := [(0, .ref (ad (carB c))), (1, .int (nI (k + 1)))]) ⟨rfl, rfl, trivial⟩ ?_
        first
          | exact ih (k + 1) w (by omega) hC hO
          | (rw [growV_n h20] at hC; exact ih (k + 1) w (by omega) hC hO)
set_option maxHeartbeats 2000000 in
theorem m_C_growOlder {E : kx_E} {w : va_W} {n : Nat} {ad : Nat → Nat} {L : Nat → List Nat} {V S : Nat → Nat → Int32} {pe bi : Nat → Option Nat} (hC : Cls E w n ad L V S pe bi) {c : Nat} (hc : c < n) : kx_S E Y_C_growOlder [.ref (ad (carB c))] w (CQ E w n ad L (up1 V (carB c + 30) (growV (V (carB c + 30)) (L (carB c + 26)).length)) S pe bi none) := by
  refine kx_go (by decide) rfl rfl (Nat.le_of_ble_eq_true rfl) (kx_cc rfl kx_c0) (fun z => ?_)
  have hO : kx_off w w clsN := kx_off.rf
  refine kx_iconst (nI 0) d_C_growOlder_0 (by decide) ?_
  refine kx_istore_n d_C_growOlder_1 (by decide) ?_
  refine kx_loc (L1 := [(0, .ref (ad (carB c))), (1, .int (nI 0))]) ⟨rfl, rfl, trivial⟩ ?_
  exact l_C_growOlder hc (fun w hC hO => ⟨rfl, hC, hO⟩) _ 0 w rfl (hC.cgV (by rw [growV_0, up1_id])) hO
end
section
/-! Car: filling, news, frames -/
theorem m_A_fill_pre : True := trivial
theorem d_A_fill_0 : decode c_A_fill 0 = .ok (.iconst 0, 1) := by decide +kernel
theorem d_A_fill_1 : decode c_A_fill 1 = .ok (.istore_n 2, 1) := by decide +kernel
theorem d_A_fill_2 : decode c_A_fill 2 = .ok (.aload_n 0, 1) := by decide +kernel
theorem d_A_fill_3 : decode c_A_fill 3 = .ok (.arraylength, 1) := by decide +kernel
theorem d_A_fill_4 : decode c_A_fill 4 = .ok (.istore_n 3, 1) := by decide +kernel
theorem d_A_fill_5 : decode c_A_fill 5 = .ok (.iload_n 2, 1) := by decide +kernel
theorem d_A_fill_6 : decode c_A_fill 6 = .ok (.iload_n 3, 1) := by decide +kernel
theorem d_A_fill_7 : decode c_A_fill 7 = .ok (.if_icmp .ge 13, 3) := by decide +kernel
theorem d_A_fill_10 : decode c_A_fill 10 = .ok (.aload_n 0, 1) := by decide +kernel
theorem d_A_fill_11 : decode c_A_fill 11 = .ok (.iload_n 2, 1) := by decide +kernel
theorem d_A_fill_12 : decode c_A_fill 12 = .ok (.iload_n 1, 1) := by decide +kernel
theorem d_A_fill_13 : decode c_A_fill 13 = .ok (.iastore, 1) := by decide +kernel
theorem d_A_fill_14 : decode c_A_fill 14 = .ok (.iinc 2 1, 3) := by decide +kernel
theorem d_A_fill_17 : decode c_A_fill 17 = .ok (.goto (-12), 3) := by decide +kernel
theorem d_A_fill_20 : decode c_A_fill 20 = .ok (.return_, 1) := by decide +kernel
set_option maxHeartbeats 2000000 in
theorem l_A_fill {E : kx_E} {w : va_W} {v a : Nat} {u : Int32} {z : kx_Z} : ∀ (m k : Nat) (w1 : va_W) (g : Nat → Int32), m + k = 24 → w1[v]? = some (a, kx_ai E 24 g) → (∀ i, i < k → g i = u) → kx_off w w1 (fun x => x = v) → kx_R E Y_A_fill z 5 [(0, .ref a), (1, .int u), (2, .int (nI k)), (3, .int (nI 24))] [] w1 0 0 (fun o w1 => o = .inl none ∧ (∃ g, w1[v]? = some (a, kx_ai E 24 g) ∧ ∀ i, i < 24 → g i = u) ∧ kx_off w w1 (fun x => x = v)) := by
  intro m
  induction m with
  | zero =>
    intro k w1 g hk hA hg ho
    have hk : k = 24 := by omega
    subst hk
    refine kx_iload_n d_A_fill_5 rfl ?_
    refine kx_iload_n d_A_fill_6 rfl ?_
    first | refine kx_icmp_ge_n 20 d_A_fill_7 (by decide) (by omega) (by omega) ?_ ?_ | refine kx_icmp_ge 20 d_A_fill_7 (by decide) ?_ ?_
    · intro h7
      refine kx_vret d_A_fill_20 rfl (by decide) (by decide) ?_
      exact ⟨rfl, ⟨g, hA, hg⟩, ho⟩
    · intro h7
      exact absurd h7 (by omega)
  | succ m ih =>
    intro k w1 g hk hA hg ho
    refine kx_iload_n d_A_fill_5 rfl ?_
    refine kx_iload_n d_A_fill_6 rfl ?_
    first | refine kx_icmp_ge_n 20 d_A_fill_7 (by decide) (by omega) (by omega) ?_ ?_ | refine kx_icmp_ge 20 d_A_fill_7 (by decide) ?_ ?_
    · intro h7
      exact absurd h7 (by omega)
    · intro h7
      refine kx_aload_n d_A_fill_10 rfl (by first | rfl | exact kx_rf _) ?_
      refine kx_iload_n d_A_fill_11 rfl ?_
      refine kx_iload_n d_A_fill_12 rfl ?_
      refine kx_iast d_A_fill_13 hA (by omega) (by decide) ?_
      refine kx_iinc _ d_A_fill_14 rfl (by decide) (nI_1 _) ?_
      refine kx_goto 5 d_A_fill_17 (by decide) ?_
      refine kx_loc (L1 := [(0, .ref a), (1, .int u), (2, .int (nI (k + 1))), (3, .int (nI 24))]) ⟨rfl, rfl, rfl, rfl, trivial⟩ ?_
      exact ih (k + 1) _ _ (by omega) (kx_s1 hA) (lt_s (fun i hi => by rw [pk_un (by omega)]; exact hg i hi) pk_us) (ho.set rfl)
theorem m_A_fill {E : kx_E} {w : va_W} {v a : Nat} {g : Nat → Int32} (hA : w[v]? = some (a, kx_ai E 24 g)) (u : Int32) : kx_S E Y_A_fill [.ref a, .int u] w (fun o w1 => o = .inl none ∧ (∃ g, w1[v]? = some (a, kx_ai E 24 g) ∧ ∀ i, i < 24 → g i = u) ∧ kx_off w w1 (fun x => x = v)) := by
  refine kx_go (by decide) rfl rfl (Nat.le_of_ble_eq_true rfl) (kx_cc rfl (kx_cc rfl kx_c0)) (fun z => ?_)
  refine kx_iconst (nI 0) d_A_fill_0 (by decide) ?_
  refine kx_istore_n d_A_fill_1 (by decide) ?_
  refine kx_aload_n d_A_fill_2 rfl (by first | rfl | exact kx_rf _) ?_
  refine kx_alen (t := 0) d_A_fill_3 (by assumption) rfl ?_
  refine kx_istore_n d_A_fill_4 (by decide) ?_
  refine kx_loc (L1 := [(0, .ref a), (1, .int u), (2, .int (nI 0)), (3, .int (nI 24))]) ⟨rfl, rfl, rfl, rfl, trivial⟩ ?_
  exact l_A_fill 24 0 w g rfl hA lt_0 kx_off.rf
theorem cV_fill {E : kx_E} {w w0 : va_W} {n : Nat} {ad : Nat → Nat} {L : Nat → List Nat} {V S : Nat → Nat → Int32} {pe bi : Nat → Option Nat} {Y : kx_Y} {z : kx_Z} {pc : Nat} {LL : kx_L} {st : List Value} {kc ks : Nat} {Q : kx_O → va_W → Prop} {idx v : Nat} {u : Int32} (hd : decode Y.1 pc = .ok (.invokestatic idx, 3)) (hl : kx_LS Y.2.2.1 idx 2 Y_A_fill) (hC : Cls E w n ad L V S pe bi) (hO : kx_off w0 w clsN) (hv : intN n v) (hlv : 2 ≤ Y.2.2.2.2.2.2.2.1) (hst : (st.map fun v => v.category).sum ≤ 8) (h1 : kc ≤ Y.2.2.2.2.2.1) (h2 : ks ≤ Y.2.2.2.2.2.2.1)
    (kk : ∀ w1, Cls E w1 n ad L (up1 V v (fun _ => u)) S pe bi → kx_off w0 w1 clsN → kx_R E Y z (pc + 3) LL st w1 kc ks Q) : kx_R E Y z pc LL (.int u :: .ref (ad v) :: st) w kc ks Q := by
  obtain ⟨g, h3, -⟩ := hC.int v hv
  refine kx_callS (as := [.ref (ad v), .int u]) (rest := st) hd hl rfl hlv (by decide) hst h1 h2 rfl (m_A_fill h3 u) (fun X w1 h => by cases h.1) (fun v w1 hq => ?_)
  obtain ⟨hv9, hg, ho⟩ := hq
  cases hv9
  exact kk w1 (hC.uInt hv ho hg) (hO.tr ho (fun _ h => h) (fun m h => by subst h; exact intN_cls hv))
def forL (L : Nat → List Nat) (c : Nat) : Nat → List Nat := up1 (up1 (up1 (up1 (up1 L (carE c 0 + 1) []) (carE c 0 + 3) []) (carE c 1 + 1) []) (carE c 1 + 3) []) (carB c + 26) []
def forS (S : Nat → Nat → Int32) (c : Nat) : Nat → Nat → Int32 := up2 (up2 (up2 (up2 (up2 (up2 (up2 S (carE c 0) 7 (nI 0)) (carE c 0) 8 (nI 0)) (carE c 1) 7 (nI 0)) (carE c 1) 8 (nI 0)) (carB c) 7 (nI 0)) (carB c) 9 (nI 0)) (carB c) 10 (nI 0)
theorem d_C_forget_0 : decode c_C_forget 0 = .ok (.aload_n 0, 1) := by decide +kernel
theorem d_C_forget_1 : decode c_C_forget 1 = .ok (.getfield 20, 3) := by decide +kernel
theorem d_C_forget_4 : decode c_C_forget 4 = .ok (.iconst 0, 1) := by decide +kernel
theorem d_C_forget_5 : decode c_C_forget 5 = .ok (.aaload, 1) := by decide +kernel
theorem d_C_forget_6 : decode c_C_forget 6 = .ok (.invokevirtual 54, 3) := by decide +kernel
theorem d_C_forget_9 : decode c_C_forget 9 = .ok (.aload_n 0, 1) := by decide +kernel
theorem d_C_forget_10 : decode c_C_forget 10 = .ok (.getfield 20, 3) := by decide +kernel
theorem d_C_forget_13 : decode c_C_forget 13 = .ok (.iconst 1, 1) := by decide +kernel
theorem d_C_forget_14 : decode c_C_forget 14 = .ok (.aaload, 1) := by decide +kernel
theorem d_C_forget_15 : decode c_C_forget 15 = .ok (.invokevirtual 54, 3) := by decide +kernel
theorem d_C_forget_18 : decode c_C_forget 18 = .ok (.aload_n 0, 1) := by decide +kernel
theorem d_C_forget_19 : decode c_C_forget 19 = .ok (.getfield 34, 3) := by decide +kernel
theorem d_C_forget_22 : decode c_C_forget 22 = .ok (.invokevirtual 57, 3) := by decide +kernel
theorem d_C_forget_25 : decode c_C_forget 25 = .ok (.aload_n 0, 1) := by decide +kernel
theorem d_C_forget_26 : decode c_C_forget 26 = .ok (.iconst 0, 1) := by decide +kernel
theorem d_C_forget_27 : decode c_C_forget 27 = .ok (.putfield 60, 3) := by decide +kernel
theorem d_C_forget_30 : decode c_C_forget 30 = .ok (.aload_n 0, 1) := by decide +kernel
theorem d_C_forget_31 : decode c_C_forget 31 = .ok (.getfield 41, 3) := by decide +kernel
theorem d_C_forget_34 : decode c_C_forget 34 = .ok (.iconst (-1), 1) := by decide +kernel
theorem d_C_forget_35 : decode c_C_forget 35 = .ok (.invokestatic 48, 3) := by decide +kernel
theorem d_C_forget_38 : decode c_C_forget 38 = .ok (.aload_n 0, 1) := by decide +kernel
theorem d_C_forget_39 : decode c_C_forget 39 = .ok (.iconst 0, 1) := by decide +kernel
theorem d_C_forget_40 : decode c_C_forget 40 = .ok (.putfield 63, 3) := by decide +kernel
theorem d_C_forget_43 : decode c_C_forget 43 = .ok (.aload_n 0, 1) := by decide +kernel
theorem d_C_forget_44 : decode c_C_forget 44 = .ok (.iconst 0, 1) := by decide +kernel
theorem d_C_forget_45 : decode c_C_forget 45 = .ok (.putfield 66, 3) := by decide +kernel
theorem d_C_forget_48 : decode c_C_forget 48 = .ok (.return_, 1) := by decide +kernel
set_option maxHeartbeats 2000000 in
theorem m_C_forget {E : kx_E} {w : va_W} {n : Nat} {ad : Nat → Nat} {L : Nat → List Nat} {V S : Nat → Nat → Int32} {pe bi : Nat → Option Nat} (hC : Cls E w n ad L V S pe bi) {c : Nat} (hc : c < n) : kx_S E Y_C_forget [.ref (ad (carB c))] w (CQ E w n ad (forL L c) (up1 V (carB c + 30) (fun _ => -1)) (forS S c) pe bi none) := by
  refine kx_go (by decide) rfl rfl (Nat.le_of_ble_eq_true rfl) (kx_cc rfl kx_c0) (fun z => ?_)
  have hO : kx_off w w clsN := kx_off.rf
  refine kx_aload_n d_C_forget_0 rfl (by first | rfl | exact kx_rf _) ?_
  refine kx_get _ d_C_forget_1 f_C_20 (hC.car c hc) (by rfl) ?_
  refine kx_iconst (nI 0) d_C_forget_4 (by decide) ?_
  refine cA_end d_C_forget_5 hC hc (by first | decide | omega) ?_
  refine kx_callV (as := []) (rest := []) d_C_forget_6 v_C_54 rfl (hC.endAt (carE_N hc)) rfl rfl (by decide) (by decide) (by decide) (by decide) (by decide) rfl (m_N_forget hC (carE_N (i := 0) hc)) (fun X w1 h => by cases h.1) (fun v w hq => ?_)
  obtain ⟨hv, hC, hO9⟩ := hq
  cases hv
  have hO := hO.tr hO9 (fun _ h => h) (fun _ h => h)
  refine kx_stk (st1 := []) rfl ?_
  refine kx_aload_n d_C_forget_9 rfl (by first | rfl | exact kx_rf _) ?_
  refine kx_get _ d_C_forget_10 f_C_20 (hC.car c hc) (by rfl) ?_
  refine kx_iconst (nI 1) d_C_forget_13 (by decide) ?_
  refine cA_end d_C_forget_14 hC hc (by first | decide | omega) ?_
  refine kx_callV (as := []) (rest := []) d_C_forget_15 v_C_54 rfl (hC.endAt (carE_N hc)) rfl rfl (by decide) (by decide) (by decide) (by decide) (by decide) rfl (m_N_forget hC (carE_N (i := 1) hc)) (fun X w1 h => by cases h.1) (fun v w hq => ?_)
  obtain ⟨hv, hC, hO9⟩ := hq
  cases hv
  have hO := hO.tr hO9 (fun _ h => h) (fun _ h => h)
  refine kx_stk (st1 := []) rfl ?_
  refine kx_aload_n d_C_forget_18 rfl (by first | rfl | exact kx_rf _) ?_
  refine kx_get _ d_C_forget_19 f_C_34 (hC.car c hc) (by rfl) ?_
  refine cR_clear d_C_forget_22 v_C_57 hC hO (rowN_26 hc) (by decide) (Nat.le_of_ble_eq_true rfl) (by decide) (by decide) (fun w hC hO => ?_)
  refine kx_aload_n d_C_forget_25 rfl (by first | rfl | exact kx_rf _) ?_
  refine kx_iconst (nI 0) d_C_forget_26 (by decide) ?_
  refine cC_put7 d_C_forget_27 f_C_60 hC hO hc (fun w hC hO => ?_)
  refine kx_aload_n d_C_forget_30 rfl (by first | rfl | exact kx_rf _) ?_
  refine kx_get _ d_C_forget_31 f_C_41 (hC.car c hc) (by rfl) ?_
  refine kx_iconst (-1) d_C_forget_34 (by decide) ?_
  refine cV_fill d_C_forget_35 s_C_48 hC hO (intN_30 hc) (by decide) (Nat.le_of_ble_eq_true rfl) (by decide) (by decide) (fun w hC hO => ?_)
  refine kx_aload_n d_C_forget_38 rfl (by first | rfl | exact kx_rf _) ?_
  refine kx_iconst (nI 0) d_C_forget_39 (by decide) ?_
  refine cC_put9 d_C_forget_40 f_C_63 hC hO hc (fun w hC hO => ?_)
  refine kx_aload_n d_C_forget_43 rfl (by first | rfl | exact kx_rf _) ?_
  refine kx_iconst (nI 0) d_C_forget_44 (by decide) ?_
  refine cC_put10 d_C_forget_45 f_C_66 hC hO hc (fun w hC hO => ?_)
  refine kx_vret d_C_forget_48 rfl (by decide) (by decide) ?_
  exact ⟨rfl, hC, hO⟩
abbrev takeC (A fa : Nat → Int32) (num i : Nat) : Prop := ¬ i + 1 = num ∧ ¬ fa i = -1 ∧ (A i = -1 ∨ fa i + nI 1 < A i)
def newsA (A fa : Nat → Int32) (num m : Nat) : Nat → Int32 := fun i => if i < m ∧ takeC A fa num i then fa i + nI 1 else A i
def newsW (W fw A fa : Nat → Int32) (num m : Nat) : Nat → Int32 := fun i => if i < m ∧ takeC A fa num i then fw i else W i
theorem newsA_0 {A fa : Nat → Int32} {num : Nat} : newsA A fa num 0 = A := by funext i; unfold newsA; rw [if_neg (fun q => by omega)]
theorem newsW_0 {W fw A fa : Nat → Int32} {num : Nat} : newsW W fw A fa num 0 = W := by funext i; unfold newsW; rw [if_neg (fun q => by omega)]
theorem newsA_k {A fa : Nat → Int32} {num k : Nat} : newsA A fa num k k = A k := by unfold newsA; rw [if_neg (fun q => by omega)]
theorem news_i {A fa : Nat → Int32} {num k i : Nat} (e : i ≠ k) : (i < k ∧ takeC A fa num i) ↔ (i < k + 1 ∧ takeC A fa num i) := ⟨fun q => ⟨by omega, q.2⟩, fun q => ⟨by omega, q.2⟩⟩
theorem newsA_s {A fa : Nat → Int32} {num k : Nat} (h : takeC A fa num k) : upd (newsA A fa num k) k (fa k + nI 1) = newsA A fa num (k + 1) := by
  funext i
  by_cases e : i = k
  · subst e; rw [pk_us]; unfold newsA; rw [if_pos ⟨by omega, h⟩]
  · rw [pk_un e]; unfold newsA; simp only [news_i e]
theorem newsW_s {W fw A fa : Nat → Int32} {num k : Nat} (h : takeC A fa num k) : upd (newsW W fw A fa num k) k (fw k) = newsW W fw A fa num (k + 1) := by
  funext i
  by_cases e : i = k
  · subst e; rw [pk_us]; unfold newsW; rw [if_pos ⟨by omega, h⟩]
  · rw [pk_un e]; unfold newsW; simp only [news_i e]
theorem newsA_n {A fa : Nat → Int32} {num k : Nat} (h : ¬ takeC A fa num k) : newsA A fa num k = newsA A fa num (k + 1) := by
  funext i
  unfold newsA
  by_cases e : i = k
  · subst e; rw [if_neg (fun q => h q.2), if_neg (fun q => h q.2)]
  · simp only [news_i e]
theorem newsW_n {W fw A fa : Nat → Int32} {num k : Nat} (h : ¬ takeC A fa num k) : newsW W fw A fa num k = newsW W fw A fa num (k + 1) := by
  funext i
  unfold newsW
  by_cases e : i = k
  · subst e; rw [if_neg (fun q => h q.2), if_neg (fun q => h q.2)]
  · simp only [news_i e]
theorem kx_pm1 {k num : Nat} (hk : k < 2 ^ 30) (hn : num < 2 ^ 30) : nI k = nI num - nI 1 ↔ k + 1 = num := by
  constructor
  · intro h
    cases num with
    | zero =>
      have h2 : nI k + nI 1 = nI 0 := by rw [h]; decide
      rw [nI_add] at h2
      exact absurd ((nI_eq (by omega) (by decide)).mp h2) (by omega)
    | succ m =>
      rw [pk_sub (by omega)] at h
      have := (nI_eq (by omega) (by omega)).mp h
      omega
  · intro h
    subst h
    rw [pk_sub (by omega)]; rfl
theorem up1_c {α : Type} {f : Nat → α} {x y : Nat} {u v : α} (h : x ≠ y) : up1 (up1 f x u) y v = up1 (up1 f y v) x u := by
  funext i; unfold up1
  by_cases e : i = x
  · subst e; simp [h]
  · simp [e]
def newsV (V : Nat → Nat → Int32) (c q num m : Nat) : Nat → Nat → Int32 := up1 (up1 V (carB c + 30) (newsA (V (carB c + 30)) (V (q + 5 + 5)) num m)) (carB c + 31) (newsW (V (carB c + 31)) (V (q + 5 + 6)) (V (carB c + 30)) (V (q + 5 + 5)) num m)
theorem newsV_0 {V : Nat → Nat → Int32} {c q num : Nat} : newsV V c q num 0 = V := by unfold newsV; rw [newsA_0, newsW_0, up1_id, up1_id]
theorem newsV_a {V : Nat → Nat → Int32} {c q num m : Nat} : newsV V c q num m (carB c + 30) = newsA (V (carB c + 30)) (V (q + 5 + 5)) num m := by unfold newsV; rw [up1_n (by omega), up1_s]
theorem newsV_w {V : Nat → Nat → Int32} {c q num m : Nat} : newsV V c q num m (carB c + 31) = newsW (V (carB c + 31)) (V (q + 5 + 6)) (V (carB c + 30)) (V (q + 5 + 5)) num m := by unfold newsV; rw [up1_s]
theorem newsV_o {V : Nat → Nat → Int32} {c q num m v : Nat} (h1 : v ≠ carB c + 30) (h2 : v ≠ carB c + 31) : newsV V c q num m v = V v := by unfold newsV; rw [up1_n h2, up1_n h1]
theorem newsV_n {V : Nat → Nat → Int32} {c q num k : Nat} (h : ¬ takeC (V (carB c + 30)) (V (q + 5 + 5)) num k) : newsV V c q num k = newsV V c q num (k + 1) := by unfold newsV; rw [newsA_n h, newsW_n h]
theorem newsV_s {V : Nat → Nat → Int32} {c q num k : Nat} (h : takeC (V (carB c + 30)) (V (q + 5 + 5)) num k) : up1 (up1 (newsV V c q num k) (carB c + 30) (upd (newsA (V (carB c + 30)) (V (q + 5 + 5)) num k) k (V (q + 5 + 5) k + nI 1))) (carB c + 31) (upd (newsW (V (carB c + 31)) (V (q + 5 + 6)) (V (carB c + 30)) (V (q + 5 + 5)) num k) k (V (q + 5 + 6) k)) = newsV V c q num (k + 1) := by
  rw [newsA_s h, newsW_s h]
  unfold newsV
  rw [up1_c (f := up1 V (carB c + 30) _) (x := carB c + 31) (y := carB c + 30) (by omega), up1_up1, up1_up1]
theorem d_C_takeNews_0 : decode c_C_takeNews 0 = .ok (.iconst 0, 1) := by decide +kernel
theorem d_C_takeNews_1 : decode c_C_takeNews 1 = .ok (.istore_n 2, 1) := by decide +kernel
theorem d_C_takeNews_2 : decode c_C_takeNews 2 = .ok (.iload_n 2, 1) := by decide +kernel
theorem d_C_takeNews_3 : decode c_C_takeNews 3 = .ok (.aload_n 0, 1) := by decide +kernel
theorem d_C_takeNews_4 : decode c_C_takeNews 4 = .ok (.getfield 34, 3) := by decide +kernel
theorem d_C_takeNews_7 : decode c_C_takeNews 7 = .ok (.getfield 76, 3) := by decide +kernel
theorem d_C_takeNews_10 : decode c_C_takeNews 10 = .ok (.if_icmp .ge 86, 3) := by decide +kernel
theorem d_C_takeNews_13 : decode c_C_takeNews 13 = .ok (.aload_n 1, 1) := by decide +kernel
theorem d_C_takeNews_14 : decode c_C_takeNews 14 = .ok (.getfield 134, 3) := by decide +kernel
theorem d_C_takeNews_17 : decode c_C_takeNews 17 = .ok (.iload_n 2, 1) := by decide +kernel
theorem d_C_takeNews_18 : decode c_C_takeNews 18 = .ok (.iaload, 1) := by decide +kernel
theorem d_C_takeNews_19 : decode c_C_takeNews 19 = .ok (.istore_n 3, 1) := by decide +kernel
theorem d_C_takeNews_20 : decode c_C_takeNews 20 = .ok (.aload_n 0, 1) := by decide +kernel
theorem d_C_takeNews_21 : decode c_C_takeNews 21 = .ok (.getfield 41, 3) := by decide +kernel
theorem d_C_takeNews_24 : decode c_C_takeNews 24 = .ok (.iload_n 2, 1) := by decide +kernel
theorem d_C_takeNews_25 : decode c_C_takeNews 25 = .ok (.iaload, 1) := by decide +kernel
theorem d_C_takeNews_26 : decode c_C_takeNews 26 = .ok (.iconst (-1), 1) := by decide +kernel
theorem d_C_takeNews_27 : decode c_C_takeNews 27 = .ok (.if_icmp .eq 15, 3) := by decide +kernel
theorem d_C_takeNews_30 : decode c_C_takeNews 30 = .ok (.iload_n 3, 1) := by decide +kernel
theorem d_C_takeNews_31 : decode c_C_takeNews 31 = .ok (.iconst 1, 1) := by decide +kernel
theorem d_C_takeNews_32 : decode c_C_takeNews 32 = .ok (.iadd, 1) := by decide +kernel
theorem d_C_takeNews_33 : decode c_C_takeNews 33 = .ok (.aload_n 0, 1) := by decide +kernel
theorem d_C_takeNews_34 : decode c_C_takeNews 34 = .ok (.getfield 41, 3) := by decide +kernel
theorem d_C_takeNews_37 : decode c_C_takeNews 37 = .ok (.iload_n 2, 1) := by decide +kernel
theorem d_C_takeNews_38 : decode c_C_takeNews 38 = .ok (.iaload, 1) := by decide +kernel
theorem d_C_takeNews_39 : decode c_C_takeNews 39 = .ok (.if_icmp .ge 7, 3) := by decide +kernel
theorem d_C_takeNews_42 : decode c_C_takeNews 42 = .ok (.iconst 1, 1) := by decide +kernel
theorem d_C_takeNews_43 : decode c_C_takeNews 43 = .ok (.goto 4, 3) := by decide +kernel
theorem d_C_takeNews_46 : decode c_C_takeNews 46 = .ok (.iconst 0, 1) := by decide +kernel
theorem d_C_takeNews_47 : decode c_C_takeNews 47 = .ok (.istore 4, 2) := by decide +kernel
theorem d_C_takeNews_49 : decode c_C_takeNews 49 = .ok (.iload_n 2, 1) := by decide +kernel
theorem d_C_takeNews_50 : decode c_C_takeNews 50 = .ok (.aload_n 0, 1) := by decide +kernel
theorem d_C_takeNews_51 : decode c_C_takeNews 51 = .ok (.getfield 60, 3) := by decide +kernel
theorem d_C_takeNews_54 : decode c_C_takeNews 54 = .ok (.iconst 1, 1) := by decide +kernel
theorem d_C_takeNews_55 : decode c_C_takeNews 55 = .ok (.isub, 1) := by decide +kernel
theorem d_C_takeNews_56 : decode c_C_takeNews 56 = .ok (.if_icmp .eq 34, 3) := by decide +kernel
theorem d_C_takeNews_59 : decode c_C_takeNews 59 = .ok (.iload_n 3, 1) := by decide +kernel
theorem d_C_takeNews_60 : decode c_C_takeNews 60 = .ok (.iconst (-1), 1) := by decide +kernel
theorem d_C_takeNews_61 : decode c_C_takeNews 61 = .ok (.if_icmp .eq 29, 3) := by decide +kernel
theorem d_C_takeNews_64 : decode c_C_takeNews 64 = .ok (.iload 4, 2) := by decide +kernel
theorem d_C_takeNews_66 : decode c_C_takeNews 66 = .ok (.ifCond .eq 24, 3) := by decide +kernel
theorem d_C_takeNews_69 : decode c_C_takeNews 69 = .ok (.aload_n 0, 1) := by decide +kernel
theorem d_C_takeNews_70 : decode c_C_takeNews 70 = .ok (.getfield 41, 3) := by decide +kernel
theorem d_C_takeNews_73 : decode c_C_takeNews 73 = .ok (.iload_n 2, 1) := by decide +kernel
theorem d_C_takeNews_74 : decode c_C_takeNews 74 = .ok (.iload_n 3, 1) := by decide +kernel
theorem d_C_takeNews_75 : decode c_C_takeNews 75 = .ok (.iconst 1, 1) := by decide +kernel
theorem d_C_takeNews_76 : decode c_C_takeNews 76 = .ok (.iadd, 1) := by decide +kernel
theorem d_C_takeNews_77 : decode c_C_takeNews 77 = .ok (.iastore, 1) := by decide +kernel
theorem d_C_takeNews_78 : decode c_C_takeNews 78 = .ok (.aload_n 0, 1) := by decide +kernel
theorem d_C_takeNews_79 : decode c_C_takeNews 79 = .ok (.getfield 45, 3) := by decide +kernel
theorem d_C_takeNews_82 : decode c_C_takeNews 82 = .ok (.iload_n 2, 1) := by decide +kernel
theorem d_C_takeNews_83 : decode c_C_takeNews 83 = .ok (.aload_n 1, 1) := by decide +kernel
theorem d_C_takeNews_84 : decode c_C_takeNews 84 = .ok (.getfield 141, 3) := by decide +kernel
theorem d_C_takeNews_87 : decode c_C_takeNews 87 = .ok (.iload_n 2, 1) := by decide +kernel
theorem d_C_takeNews_88 : decode c_C_takeNews 88 = .ok (.iaload, 1) := by decide +kernel
theorem d_C_takeNews_89 : decode c_C_takeNews 89 = .ok (.iastore, 1) := by decide +kernel
theorem d_C_takeNews_90 : decode c_C_takeNews 90 = .ok (.iinc 2 1, 3) := by decide +kernel
theorem d_C_takeNews_93 : decode c_C_takeNews 93 = .ok (.goto (-91), 3) := by decide +kernel
theorem d_C_takeNews_96 : decode c_C_takeNews 96 = .ok (.return_, 1) := by decide +kernel
set_option maxHeartbeats 2000000 in
theorem l_C_takeNews {E : kx_E} {n : Nat} {ad : Nat → Nat} {L : Nat → List Nat} {V S : Nat → Nat → Int32} {pe bi : Nat → Option Nat} {w0 : va_W} {c q num : Nat} (hc : c < n) (hq : endN n q) (hn : S (carB c) 7 = nI num) (h24 : num ≤ 24) {z : kx_Z} {Q : kx_O → va_W → Prop} (hQ : ∀ w, Cls E w n ad L (newsV V c q num (L (carB c + 26)).length) S pe bi → kx_off w0 w clsN → Q (.inl none) w) : ∀ (m k : Nat) (w : va_W), m + k = (L (carB c + 26)).length → Cls E w n ad L (newsV V c q num k) S pe bi → kx_off w0 w clsN → kx_R E Y_C_takeNews z 2 [(0, .ref (ad (carB c))), (1, .ref (ad (q + 5))), (2, .int (nI k))] [] w 0 0 Q := by
  have i1 := intN_f5 hq
  have i2 := intN_f6 hq
  have n1 : q + 5 + 5 ≠ carB c + 30 := by unfold endN at hq; simp only [carB]; omega
  have n2 : q + 5 + 5 ≠ carB c + 31 := by unfold endN at hq; simp only [carB]; omega
  have n3 : q + 5 + 6 ≠ carB c + 30 := by unfold endN at hq; simp only [carB]; omega
  have n4 : q + 5 + 6 ≠ carB c + 31 := by unfold endN at hq; simp only [carB]; omega
  intro m
  induction m with
  | zero =>
    intro k w hk hC hO
    have hl := (hC.row _ (rowN_26 hc)).2.2.1
    have hk : k = (L (carB c + 26)).length := by omega
    subst hk
    refine kx_iload_n d_C_takeNews_2 rfl ?_
    refine kx_aload_n d_C_takeNews_3 rfl (by first | rfl | exact kx_rf _) ?_
    refine kx_get _ d_C_takeNews_4 f_C_34 (hC.car c hc) (by rfl) ?_
    refine kx_get _ d_C_takeNews_7 f_C_76 (hC.rowObj (rowN_26 hc)) (by rfl) ?_
    first | refine kx_icmp_ge_n 96 d_C_takeNews_10 (by decide) (by omega) (by omega) ?_ ?_ | refine kx_icmp_ge 96 d_C_takeNews_10 (by decide) ?_ ?_
    · intro h10
      refine kx_vret d_C_takeNews_96 rfl (by decide) (by decide) ?_
      exact hQ w hC hO
    · intro h10
      exact absurd h10 (by omega)
  | succ m ih =>
    intro k w hk hC hO
    have hl := (hC.row _ (rowN_26 hc)).2.2.1
    have key : ∀ t : Nat, t = (if V (carB c + 30) k = -1 ∨ V (q + 5 + 5) k + nI 1 < V (carB c + 30) k then 1 else 0) → kx_R E Y_C_takeNews z 47 [(0, .ref (ad (carB c))), (1, .ref (ad (q + 5))), (2, .int (nI k)), (3, .int (V (q + 5 + 5) k))] [.int (nI t)] w 0 0 Q := by
      intro t ht
      have ht1 : t < 2 := by rw [ht]; split <;> decide
      refine kx_istore d_C_takeNews_47 (by decide) ?_
      refine kx_iload_n d_C_takeNews_49 rfl ?_
      refine kx_aload_n d_C_takeNews_50 rfl (by first | rfl | exact kx_rf _) ?_
      refine kx_get _ d_C_takeNews_51 f_C_60 (hC.car c hc) (by rfl) ?_
      rw [hn]
      refine kx_iconst (nI 1) d_C_takeNews_54 (by decide) ?_
      refine kx_isub _ d_C_takeNews_55 rfl ?_
      refine kx_icmp_eq 90 d_C_takeNews_56 (by decide) ?_ ?_
      · intro h56
        refine kx_iinc _ d_C_takeNews_90 rfl (by decide) (nI_1 _) ?_
        refine kx_goto 2 d_C_takeNews_93 (by decide) ?_
        refine kx_loc (L1 := [(0, .ref (ad (carB c))), (1, .ref (ad (q + 5))), (2, .int (nI (k + 1)))]) ⟨rfl, rfl, rfl, trivial⟩ ?_
        first
          | exact ih (k + 1) w (by omega) hC hO
          | (have hnt : ¬ takeC (V (carB c + 30)) (V (q + 5 + 5)) num k := fun e => e.1 ((kx_pm1 (by omega) (by omega)).mp h56)
             rw [newsV_n hnt] at hC; exact ih (k + 1) w (by omega) hC hO)
          | (have hnt : ¬ takeC (V (carB c + 30)) (V (q + 5 + 5)) num k := fun e => e.2.1 h61
             rw [newsV_n hnt] at hC; exact ih (k + 1) w (by omega) hC hO)
          | (have hnt : ¬ takeC (V (carB c + 30)) (V (q + 5 + 5)) num k := fun e => by rw [if_pos e.2.2] at ht; omega
             rw [newsV_n hnt] at hC; exact ih (k + 1) w (by omega) hC hO)
      · intro h56
        refine kx_iload_n d_C_takeNews_59 rfl ?_
        refine kx_iconst (-1) d_C_takeNews_60 (by decide) ?_
        refine kx_icmp_eq 90 d_C_takeNews_61 (by decide) ?_ ?_
        · intro h61
          refine kx_iinc _ d_C_takeNews_90 rfl (by decide) (nI_1 _) ?_
          refine kx_goto 2 d_C_takeNews_93 (by decide) ?_
          refine kx_loc (L1 := [(0, .ref (ad (carB c))), (1, .ref (ad (q + 5))), (2, .int (nI (k + 1)))]) ⟨rfl, rfl, rfl, trivial⟩ ?_
          first
            | exact ih (k + 1) w (by omega) hC hO
            | (have hnt : ¬ takeC (V (carB c + 30)) (V (q + 5 + 5)) num k := fun e => e.1 ((kx_pm1 (by omega) (by omega)).mp h56)
               rw [newsV_n hnt] at hC; exact ih (k + 1) w (by omega) hC hO)
            | (have hnt : ¬ takeC (V (carB c + 30)) (V (q + 5 + 5)) num k := fun e => e.2.1 h61
               rw [newsV_n hnt] at hC; exact ih (k + 1) w (by omega) hC hO)
            | (have hnt : ¬ takeC (V (carB c + 30)) (V (q + 5 + 5)) num k := fun e => by rw [if_pos e.2.2] at ht; omega
               rw [newsV_n hnt] at hC; exact ih (k + 1) w (by omega) hC hO)
        · intro h61
          refine kx_iload d_C_takeNews_64 rfl ?_
          first | refine kx_if_eq_n 90 d_C_takeNews_66 (by decide) (by omega) ?_ ?_ | refine kx_if_eq 90 d_C_takeNews_66 (by decide) ?_ ?_
          · intro h66
            refine kx_iinc _ d_C_takeNews_90 rfl (by decide) (nI_1 _) ?_
            refine kx_goto 2 d_C_takeNews_93 (by decide) ?_
            refine kx_loc (L1 := [(0, .ref (ad (carB c))), (1, .ref (ad (q + 5))), (2, .int (nI (k + 1)))]) ⟨rfl, rfl, rfl, trivial⟩ ?_
            first
              | exact ih (k + 1) w (by omega) hC hO
              | (have hnt : ¬ takeC (V (carB c + 30)) (V (q + 5 + 5)) num k := fun e => e.1 ((kx_pm1 (by omega) (by omega)).mp h56)
                 rw [newsV_n hnt] at hC; exact ih (k + 1) w (by omega) hC hO)
              | (have hnt : ¬ takeC (V (carB c + 30)) (V (q + 5 + 5)) num k := fun e => e.2.1 h61
                 rw [newsV_n hnt] at hC; exact ih (k + 1) w (by omega) hC hO)
              | (have hnt : ¬ takeC (V (carB c + 30)) (V (q + 5 + 5)) num k := fun e => by rw [if_pos e.2.2] at ht; omega
                 rw [newsV_n hnt] at hC; exact ih (k + 1) w (by omega) hC hO)
          · intro h66
            refine kx_aload_n d_C_takeNews_69 rfl (by first | rfl | exact kx_rf _) ?_
            refine kx_get _ d_C_takeNews_70 f_C_41 (hC.car c hc) (by rfl) ?_
            refine kx_iload_n d_C_takeNews_73 rfl ?_
            refine kx_iload_n d_C_takeNews_74 rfl ?_
            refine kx_iconst (nI 1) d_C_takeNews_75 (by decide) ?_
            refine kx_iadd _ d_C_takeNews_76 rfl ?_
            refine cV_put d_C_takeNews_77 hC hO (intN_30 hc) (by omega) (fun w hC hO => ?_)
            have htk : takeC (V (carB c + 30)) (V (q + 5 + 5)) num k := ⟨fun e => h56 ((kx_pm1 (by omega) (by omega)).mpr e), h61, Decidable.byContradiction (fun e => h66 (by rw [ht, if_neg e]))⟩
            rw [newsV_a] at hC
            refine kx_aload_n d_C_takeNews_78 rfl (by first | rfl | exact kx_rf _) ?_
            refine kx_get _ d_C_takeNews_79 f_C_45 (hC.car c hc) (by rfl) ?_
            refine kx_iload_n d_C_takeNews_82 rfl ?_
            refine kx_aload_n d_C_takeNews_83 rfl (by first | rfl | exact kx_rf _) ?_
            refine kx_get _ d_C_takeNews_84 f_C_141 (hC.frm q hq) (by rfl) ?_
            refine kx_iload_n d_C_takeNews_87 rfl ?_
            refine cV_get d_C_takeNews_88 hC i2 (by omega) ?_
            rw [up1_n n3, newsV_o n3 n4]
            refine cV_put d_C_takeNews_89 hC hO (intN_31 hc) (by omega) (fun w hC hO => ?_)
            rw [up1_n (show carB c + 31 ≠ carB c + 30 by omega), newsV_w] at hC
            have hC := hC.cgV (newsV_s htk)
            refine kx_iinc _ d_C_takeNews_90 rfl (by decide) (nI_1 _) ?_
            refine kx_goto 2 d_C_takeNews_93 (by decide) ?_
            refine kx_loc (L1 := [(0, .ref (ad (carB c))), (1, .ref (ad (q + 5))), (2, .int (nI (k + 1)))]) ⟨rfl, rfl, rfl, trivial⟩ ?_
            first
              | exact ih (k + 1) w (by omega) hC hO
              | (have hnt : ¬ takeC (V (carB c + 30)) (V (q + 5 + 5)) num k := fun e => e.1 ((kx_pm1 (by omega) (by omega)).mp h56)
                 rw [newsV_n hnt] at hC; exact ih (k + 1) w (by omega) hC hO)
              | (have hnt : ¬ takeC (V (carB c + 30)) (V (q + 5 + 5)) num k := fun e => e.2.1 h61
                 rw [newsV_n hnt] at hC; exact ih (k + 1) w (by omega) hC hO)
              | (have hnt : ¬ takeC (V (carB c + 30)) (V (q + 5 + 5)) num k := fun e => by rw [if_pos e.2.2] at ht; omega
                 rw [newsV_n hnt] at hC; exact ih (k + 1) w (by omega) hC hO)
    refine kx_iload_n d_C_takeNews_2 rfl ?_
    refine kx_aload_n d_C_takeNews_3 rfl (by first | rfl | exact kx_rf _) ?_
    refine kx_get _ d_C_takeNews_4 f_C_34 (hC.car c hc) (by rfl) ?_
    refine kx_get _ d_C_takeNews_7 f_C_76 (hC.rowObj (rowN_26 hc)) (by rfl) ?_
    first | refine kx_icmp_ge_n 96 d_C_takeNews_10 (by decide) (by omega) (by omega) ?_ ?_ | refine kx_icmp_ge 96 d_C_takeNews_10 (by decide) ?_ ?_
    · intro h10
      exact absurd h10 (by omega)
    · intro h10
      refine kx_aload_n d_C_takeNews_13 rfl (by first | rfl | exact kx_rf _) ?_
      refine kx_get _ d_C_takeNews_14 f_C_134 (hC.frm q hq) (by rfl) ?_
      refine kx_iload_n d_C_takeNews_17 rfl ?_
      refine cV_get d_C_takeNews_18 hC i1 (by omega) ?_
      rw [newsV_o n1 n2]
      refine kx_istore_n d_C_takeNews_19 (by decide) ?_
      refine kx_aload_n d_C_takeNews_20 rfl (by first | rfl | exact kx_rf _) ?_
      refine kx_get _ d_C_takeNews_21 f_C_41 (hC.car c hc) (by rfl) ?_
      refine kx_iload_n d_C_takeNews_24 rfl ?_
      refine cV_get d_C_takeNews_25 hC (intN_30 hc) (by omega) ?_
      rw [newsV_a, newsA_k]
      refine kx_iconst (-1) d_C_takeNews_26 (by decide) ?_
      refine kx_icmp_eq 42 d_C_takeNews_27 (by decide) ?_ ?_
      · intro h27
        refine kx_iconst (nI 1) d_C_takeNews_42 (by decide) ?_
        refine kx_goto 47 d_C_takeNews_43 (by decide) ?_
        refine kx_loc (L1 := [(0, .ref (ad (carB c))), (1, .ref (ad (q + 5))), (2, .int (nI k)), (3, .int (V (q + 5 + 5) k))]) ⟨rfl, rfl, rfl, rfl, trivial⟩ ?_
        refine key _ ?_
        first
          | (rw [if_pos (Or.inl h27)]; done)
          | (rw [if_pos (Or.inr (Int32.not_le.mp h39))]; done)
          | (rw [if_neg]; rintro (e | e)
             · exact h27 e
             · exact absurd h39 (Int32.not_le.mpr e))
      · intro h27
        refine kx_iload_n d_C_takeNews_30 rfl ?_
        refine kx_iconst (nI 1) d_C_takeNews_31 (by decide) ?_
        refine kx_iadd _ d_C_takeNews_32 rfl ?_
        refine kx_aload_n d_C_takeNews_33 rfl (by first | rfl | exact kx_rf _) ?_
        refine kx_get _ d_C_takeNews_34 f_C_41 (hC.car c hc) (by rfl) ?_
        refine kx_iload_n d_C_takeNews_37 rfl ?_
        refine cV_get d_C_takeNews_38 hC (intN_30 hc) (by omega) ?_
        rw [newsV_a, newsA_k]
        refine kx_icmp_ge 46 d_C_takeNews_39 (by decide) ?_ ?_
        · intro h39
          refine kx_iconst (nI 0) d_C_takeNews_46 (by decide) ?_
          refine kx_loc (L1 := [(0, .ref (ad (carB c))), (1, .ref (ad (q + 5))), (2, .int (nI k)), (3, .int (V (q + 5 + 5) k))]) ⟨rfl, rfl, rfl, rfl, trivial⟩ ?_
          refine key _ ?_
          first
            | (rw [if_pos (Or.inl h27)]; done)
            | (rw [if_pos (Or.inr (Int32.not_le.mp h39))]; done)
            | (rw [if_neg]; rintro (e | e)
               · exact h27 e
               · exact absurd h39 (Int32.not_le.mpr e))
        · intro h39
          refine kx_iconst (nI 1) d_C_takeNews_42 (by decide) ?_
          refine kx_goto 47 d_C_takeNews_43 (by decide) ?_
          refine kx_loc (L1 := [(0, .ref (ad (carB c))), (1, .ref (ad (q + 5))), (2, .int (nI k)), (3, .int (V (q + 5 + 5) k))]) ⟨rfl, rfl, rfl, rfl, trivial⟩ ?_
          refine key _ ?_
          first
            | (rw [if_pos (Or.inl h27)]; done)
            | (rw [if_pos (Or.inr (Int32.not_le.mp h39))]; done)
            | (rw [if_neg]; rintro (e | e)
               · exact h27 e
               · exact absurd h39 (Int32.not_le.mpr e))
set_option maxHeartbeats 2000000 in
theorem m_C_takeNews {E : kx_E} {w : va_W} {n : Nat} {ad : Nat → Nat} {L : Nat → List Nat} {V S : Nat → Nat → Int32} {pe bi : Nat → Option Nat} (hC : Cls E w n ad L V S pe bi) {c q num : Nat} (hc : c < n) (hq : endN n q) (hn : S (carB c) 7 = nI num) (h24 : num ≤ 24) : kx_S E Y_C_takeNews [.ref (ad (carB c)), .ref (ad (q + 5))] w (CQ E w n ad L (newsV V c q num (L (carB c + 26)).length) S pe bi none) := by
  refine kx_go (by decide) rfl rfl (Nat.le_of_ble_eq_true rfl) (kx_cc rfl (kx_cc rfl kx_c0)) (fun z => ?_)
  have hO : kx_off w w clsN := kx_off.rf
  refine kx_iconst (nI 0) d_C_takeNews_0 (by decide) ?_
  refine kx_istore_n d_C_takeNews_1 (by decide) ?_
  refine kx_loc (L1 := [(0, .ref (ad (carB c))), (1, .ref (ad (q + 5))), (2, .int (nI 0))]) ⟨rfl, rfl, rfl, trivial⟩ ?_
  exact l_C_takeNews hc hq hn h24 (fun w hC hO => ⟨rfl, hC, hO⟩) _ 0 w rfl (hC.cgV newsV_0.symm) hO
def heeV (L : Nat → List Nat) (V : Nat → Nat → Int32) (c q num : Nat) : Nat → Nat → Int32 := if L (q + 5 + 3) ≠ [] ∧ L (q + 5 + 3) = L (carB c + 26) then newsV V c q num (L (carB c + 26)).length else V
def heeS (L : Nat → List Nat) (S : Nat → Nat → Int32) (c q : Nat) : Nat → Nat → Int32 := if L (q + 5 + 3) ≠ [] ∧ ¬ L (q + 5 + 3) = L (carB c + 26) then up2 S (carB c) 10 (S (carB c) 10 + nI 1) else S
theorem d_C_heed_0 : decode c_C_heed 0 = .ok (.aload_n 1, 1) := by decide +kernel
theorem d_C_heed_1 : decode c_C_heed 1 = .ok (.ifnonnull 5, 3) := by decide +kernel
theorem d_C_heed_4 : decode c_C_heed 4 = .ok (.iconst 0, 1) := by decide +kernel
theorem d_C_heed_5 : decode c_C_heed 5 = .ok (.ireturn, 1) := by decide +kernel
theorem d_C_heed_6 : decode c_C_heed 6 = .ok (.aload_n 1, 1) := by decide +kernel
theorem d_C_heed_7 : decode c_C_heed 7 = .ok (.getfield 133, 3) := by decide +kernel
theorem d_C_heed_10 : decode c_C_heed 10 = .ok (.getfield 76, 3) := by decide +kernel
theorem d_C_heed_13 : decode c_C_heed 13 = .ok (.ifCond .le 35, 3) := by decide +kernel
theorem d_C_heed_16 : decode c_C_heed 16 = .ok (.aload_n 1, 1) := by decide +kernel
theorem d_C_heed_17 : decode c_C_heed 17 = .ok (.getfield 133, 3) := by decide +kernel
theorem d_C_heed_20 : decode c_C_heed 20 = .ok (.aload_n 0, 1) := by decide +kernel
theorem d_C_heed_21 : decode c_C_heed 21 = .ok (.getfield 34, 3) := by decide +kernel
theorem d_C_heed_24 : decode c_C_heed 24 = .ok (.invokevirtual 104, 3) := by decide +kernel
theorem d_C_heed_27 : decode c_C_heed 27 = .ok (.ifCond .eq 11, 3) := by decide +kernel
theorem d_C_heed_30 : decode c_C_heed 30 = .ok (.aload_n 0, 1) := by decide +kernel
theorem d_C_heed_31 : decode c_C_heed 31 = .ok (.aload_n 1, 1) := by decide +kernel
theorem d_C_heed_32 : decode c_C_heed 32 = .ok (.invokevirtual 183, 3) := by decide +kernel
theorem d_C_heed_35 : decode c_C_heed 35 = .ok (.goto 13, 3) := by decide +kernel
theorem d_C_heed_38 : decode c_C_heed 38 = .ok (.aload_n 0, 1) := by decide +kernel
theorem d_C_heed_39 : decode c_C_heed 39 = .ok (.dup, 1) := by decide +kernel
theorem d_C_heed_40 : decode c_C_heed 40 = .ok (.getfield 66, 3) := by decide +kernel
theorem d_C_heed_43 : decode c_C_heed 43 = .ok (.iconst 1, 1) := by decide +kernel
theorem d_C_heed_44 : decode c_C_heed 44 = .ok (.iadd, 1) := by decide +kernel
theorem d_C_heed_45 : decode c_C_heed 45 = .ok (.putfield 66, 3) := by decide +kernel
theorem d_C_heed_48 : decode c_C_heed 48 = .ok (.iconst 1, 1) := by decide +kernel
theorem d_C_heed_49 : decode c_C_heed 49 = .ok (.ireturn, 1) := by decide +kernel
set_option maxHeartbeats 2000000 in
theorem m_C_heed {E : kx_E} {w : va_W} {n : Nat} {ad : Nat → Nat} {L : Nat → List Nat} {V S : Nat → Nat → Int32} {pe bi : Nat → Option Nat} (hC : Cls E w n ad L V S pe bi) {c q num : Nat} (hc : c < n) (hq : endN n q) (hn : S (carB c) 7 = nI num) (h24 : num ≤ 24) : kx_S E Y_C_heed [.ref (ad (carB c)), .ref (ad (q + 5))] w (CQ E w n ad L (heeV L V c q num) (heeS L S c q) pe bi (some (.int (nI 1)))) := by
  refine kx_go (by decide) rfl rfl (Nat.le_of_ble_eq_true rfl) (kx_cc rfl (kx_cc rfl kx_c0)) (fun z => ?_)
  have hO : kx_off w w clsN := kx_off.rf
  have hl := (hC.row _ (rowN_e8 hq)).2.2.1
  refine kx_aload_n d_C_heed_0 rfl (by first | rfl | exact kx_rf _) ?_
  refine kx_ifnonnull (o := some (ad (q + 5))) 6 d_C_heed_1 (by decide) (fun _ _ => ?_) (fun h => by cases h)
  refine kx_aload_n d_C_heed_6 rfl (by first | rfl | exact kx_rf _) ?_
  refine kx_get _ d_C_heed_7 f_C_133 (hC.frm q hq) (by rfl) ?_
  refine kx_get _ d_C_heed_10 f_C_76 (hC.rowObj (rowN_e8 hq)) (by rfl) ?_
  first | refine kx_if_le_n 48 d_C_heed_13 (by decide) (by omega) ?_ ?_ | refine kx_if_le 48 d_C_heed_13 (by decide) ?_ ?_
  · intro h13
    refine kx_iconst (nI 1) d_C_heed_48 (by decide) ?_
    refine kx_iret d_C_heed_49 rfl (by decide) (by decide) ?_
    first
      | (have e0 : L (q + 5 + 3) = [] := List.eq_nil_of_length_eq_zero h13
         unfold CQ heeV heeS
         rw [if_neg (fun q => q.1 e0), if_neg (fun q => q.1 e0)]
         exact ⟨rfl, hC, hO⟩)
      | (have e0 : L (q + 5 + 3) ≠ [] := fun e => by rw [e] at h13; exact absurd h13 (by decide)
         first
         | (have e1 : L (q + 5 + 3) = L (carB c + 26) := Decidable.byContradiction (fun q => h27 (by rw [if_neg q]))
            unfold CQ heeV heeS
            rw [if_pos ⟨e0, e1⟩, if_neg (fun q => q.2 e1)]
            exact ⟨rfl, hC, hO⟩)
         | (have e1 : ¬ L (q + 5 + 3) = L (carB c + 26) := fun q => by rw [if_pos q] at h27; cases h27
            unfold CQ heeV heeS
            rw [if_neg (fun q => e1 q.2), if_pos ⟨e0, e1⟩]
            exact ⟨rfl, hC, hO⟩))
  · intro h13
    refine kx_aload_n d_C_heed_16 rfl (by first | rfl | exact kx_rf _) ?_
    refine kx_get _ d_C_heed_17 f_C_133 (hC.frm q hq) (by rfl) ?_
    refine kx_aload_n d_C_heed_20 rfl (by first | rfl | exact kx_rf _) ?_
    refine kx_get _ d_C_heed_21 f_C_34 (hC.car c hc) (by rfl) ?_
    refine cR_isSameAs d_C_heed_24 v_C_104 hC (rowN_e8 hq) (rowN_26 hc) (by decide) (Nat.le_of_ble_eq_true rfl) (by decide) (by decide) ?_
    refine kx_if_eq_n 38 d_C_heed_27 (by decide) (by split <;> decide) ?_ ?_
    · intro h27
      refine kx_aload_n d_C_heed_38 rfl (by first | rfl | exact kx_rf _) ?_
      refine kx_dup d_C_heed_39 (by first | rfl | exact kx_rfc _) ?_
      refine kx_get _ d_C_heed_40 f_C_66 (hC.car c hc) (by rfl) ?_
      refine kx_iconst (nI 1) d_C_heed_43 (by decide) ?_
      refine kx_iadd _ d_C_heed_44 rfl ?_
      refine cC_put10 d_C_heed_45 f_C_66 hC hO hc (fun w hC hO => ?_)
      refine kx_iconst (nI 1) d_C_heed_48 (by decide) ?_
      refine kx_iret d_C_heed_49 rfl (by decide) (by decide) ?_
      first
        | (have e0 : L (q + 5 + 3) = [] := List.eq_nil_of_length_eq_zero h13
           unfold CQ heeV heeS
           rw [if_neg (fun q => q.1 e0), if_neg (fun q => q.1 e0)]
           exact ⟨rfl, hC, hO⟩)
        | (have e0 : L (q + 5 + 3) ≠ [] := fun e => by rw [e] at h13; exact absurd h13 (by decide)
           first
           | (have e1 : L (q + 5 + 3) = L (carB c + 26) := Decidable.byContradiction (fun q => h27 (by rw [if_neg q]))
              unfold CQ heeV heeS
              rw [if_pos ⟨e0, e1⟩, if_neg (fun q => q.2 e1)]
              exact ⟨rfl, hC, hO⟩)
           | (have e1 : ¬ L (q + 5 + 3) = L (carB c + 26) := fun q => by rw [if_pos q] at h27; cases h27
              unfold CQ heeV heeS
              rw [if_neg (fun q => e1 q.2), if_pos ⟨e0, e1⟩]
              exact ⟨rfl, hC, hO⟩))
    · intro h27
      refine kx_aload_n d_C_heed_30 rfl (by first | rfl | exact kx_rf _) ?_
      refine kx_aload_n d_C_heed_31 rfl (by first | rfl | exact kx_rf _) ?_
      refine kx_callV (as := [.ref (ad (q + 5))]) (rest := []) d_C_heed_32 v_C_183 rfl (hC.car c hc) rfl rfl (by decide) (by decide) (by decide) (by decide) (by decide) rfl (m_C_takeNews hC hc hq hn h24) (fun X w1 h => by cases h.1) (fun v w hq9 => ?_)
      obtain ⟨hv, hC, hO⟩ := hq9
      cases hv
      refine kx_stk (st1 := []) rfl ?_
      refine kx_goto 48 d_C_heed_35 (by decide) ?_
      refine kx_iconst (nI 1) d_C_heed_48 (by decide) ?_
      refine kx_iret d_C_heed_49 rfl (by decide) (by decide) ?_
      first
        | (have e0 : L (q + 5 + 3) = [] := List.eq_nil_of_length_eq_zero h13
           unfold CQ heeV heeS
           rw [if_neg (fun q => q.1 e0), if_neg (fun q => q.1 e0)]
           exact ⟨rfl, hC, hO⟩)
        | (have e0 : L (q + 5 + 3) ≠ [] := fun e => by rw [e] at h13; exact absurd h13 (by decide)
           first
           | (have e1 : L (q + 5 + 3) = L (carB c + 26) := Decidable.byContradiction (fun q => h27 (by rw [if_neg q]))
              unfold CQ heeV heeS
              rw [if_pos ⟨e0, e1⟩, if_neg (fun q => q.2 e1)]
              exact ⟨rfl, hC, hO⟩)
           | (have e1 : ¬ L (q + 5 + 3) = L (carB c + 26) := fun q => by rw [if_pos q] at h27; cases h27
              unfold CQ heeV heeS
              rw [if_neg (fun q => e1 q.2), if_pos ⟨e0, e1⟩]
              exact ⟨rfl, hC, hO⟩))
set_option maxHeartbeats 2000000 in
theorem m_C_heed_no {E : kx_E} {w : va_W} {n : Nat} {ad : Nat → Nat} {L : Nat → List Nat} {V S : Nat → Nat → Int32} {pe bi : Nat → Option Nat} (hC : Cls E w n ad L V S pe bi) {c : Nat} (hc : c < n) : kx_S E Y_C_heed [.ref (ad (carB c)), .null] w (CQ E w n ad L V S pe bi (some (.int (nI 0)))) := by
  refine kx_go (by decide) rfl rfl (Nat.le_of_ble_eq_true rfl) (kx_cc rfl (kx_cc rfl kx_c0)) (fun z => ?_)
  have hO : kx_off w w clsN := kx_off.rf
  refine kx_aload_n d_C_heed_0 rfl (by first | rfl | exact kx_rf _) ?_
  refine kx_ifnonnull (o := none) 6 d_C_heed_1 (by decide) (fun a h => by cases h) (fun _ => ?_)
  refine kx_iconst (nI 0) d_C_heed_4 (by decide) ?_
  refine kx_iret d_C_heed_5 rfl (by decide) (by decide) ?_
  exact ⟨rfl, hC, hO⟩
end
section
/-! Car: frames, draft, directory -/
def fillL (L : Nat → List Nat) (c e : Nat) : Nat → List Nat := up1 (up1 L (e + 5 + 1) (L (opp e + 1))) (e + 5 + 3) (L (carB c + 26))
def fillS (S : Nat → Nat → Int32) (e : Nat) : Nat → Nat → Int32 := up2 (up2 S (e + 5) 4 (S e 0)) (e + 5) 5 (S (opp e) 7)
def fillA (A G : Nat → Int32) (own : Int32) (num m : Nat) : Nat → Int32 := fun i => if i + 1 = num then own else if i < m then A i else G i
def fillV (L : Nat → List Nat) (V : Nat → Nat → Int32) (own : Int32) (num c e : Nat) : Nat → Nat → Int32 := up1 (up1 V (e + 5 + 5) (fillA (V (carB c + 30)) (V (e + 5 + 5)) (nI 0) num (L (carB c + 26)).length)) (e + 5 + 6) (fillA (V (carB c + 31)) (V (e + 5 + 6)) own num (L (carB c + 26)).length)
theorem fillA_s {A G : Nat → Int32} {own : Int32} {num m : Nat} (h : 0 < num) : upd (fun i => if i < m then A i else G i) (num - 1) own = fillA A G own num m := by
  funext i
  unfold fillA
  by_cases e : i = num - 1
  · rw [e, pk_us, if_pos (by omega)]
  · rw [pk_un e]
    exact (if_neg (show ¬ i + 1 = num by omega)).symm
theorem fillA_0 {A G : Nat → Int32} {own : Int32} {m : Nat} : (fun i => if i < m then A i else G i) = fillA A G own 0 m := by
  funext i
  unfold fillA
  exact (if_neg (show ¬ i + 1 = 0 by omega)).symm
theorem d_C_fillFrame_0 : decode c_C_fillFrame 0 = .ok (.aload_n 1, 1) := by decide +kernel
theorem d_C_fillFrame_1 : decode c_C_fillFrame 1 = .ok (.getfield 115, 3) := by decide +kernel
theorem d_C_fillFrame_4 : decode c_C_fillFrame 4 = .ok (.astore_n 2, 1) := by decide +kernel
theorem d_C_fillFrame_5 : decode c_C_fillFrame 5 = .ok (.aload_n 2, 1) := by decide +kernel
theorem d_C_fillFrame_6 : decode c_C_fillFrame 6 = .ok (.aload_n 1, 1) := by decide +kernel
theorem d_C_fillFrame_7 : decode c_C_fillFrame 7 = .ok (.getfield 119, 3) := by decide +kernel
theorem d_C_fillFrame_10 : decode c_C_fillFrame 10 = .ok (.putfield 122, 3) := by decide +kernel
theorem d_C_fillFrame_13 : decode c_C_fillFrame 13 = .ok (.aload_n 2, 1) := by decide +kernel
theorem d_C_fillFrame_14 : decode c_C_fillFrame 14 = .ok (.getfield 127, 3) := by decide +kernel
theorem d_C_fillFrame_17 : decode c_C_fillFrame 17 = .ok (.aload_n 1, 1) := by decide +kernel
theorem d_C_fillFrame_18 : decode c_C_fillFrame 18 = .ok (.getfield 27, 3) := by decide +kernel
theorem d_C_fillFrame_21 : decode c_C_fillFrame 21 = .ok (.getfield 90, 3) := by decide +kernel
theorem d_C_fillFrame_24 : decode c_C_fillFrame 24 = .ok (.invokevirtual 128, 3) := by decide +kernel
theorem d_C_fillFrame_27 : decode c_C_fillFrame 27 = .ok (.aload_n 2, 1) := by decide +kernel
theorem d_C_fillFrame_28 : decode c_C_fillFrame 28 = .ok (.aload_n 1, 1) := by decide +kernel
theorem d_C_fillFrame_29 : decode c_C_fillFrame 29 = .ok (.getfield 27, 3) := by decide +kernel
theorem d_C_fillFrame_32 : decode c_C_fillFrame 32 = .ok (.getfield 93, 3) := by decide +kernel
theorem d_C_fillFrame_35 : decode c_C_fillFrame 35 = .ok (.putfield 132, 3) := by decide +kernel
theorem d_C_fillFrame_38 : decode c_C_fillFrame 38 = .ok (.aload_n 2, 1) := by decide +kernel
theorem d_C_fillFrame_39 : decode c_C_fillFrame 39 = .ok (.getfield 133, 3) := by decide +kernel
theorem d_C_fillFrame_42 : decode c_C_fillFrame 42 = .ok (.aload_n 0, 1) := by decide +kernel
theorem d_C_fillFrame_43 : decode c_C_fillFrame 43 = .ok (.getfield 34, 3) := by decide +kernel
theorem d_C_fillFrame_46 : decode c_C_fillFrame 46 = .ok (.invokevirtual 128, 3) := by decide +kernel
theorem d_C_fillFrame_49 : decode c_C_fillFrame 49 = .ok (.aload_n 0, 1) := by decide +kernel
theorem d_C_fillFrame_50 : decode c_C_fillFrame 50 = .ok (.getfield 41, 3) := by decide +kernel
theorem d_C_fillFrame_53 : decode c_C_fillFrame 53 = .ok (.iconst 0, 1) := by decide +kernel
theorem d_C_fillFrame_54 : decode c_C_fillFrame 54 = .ok (.aload_n 2, 1) := by decide +kernel
theorem d_C_fillFrame_55 : decode c_C_fillFrame 55 = .ok (.getfield 134, 3) := by decide +kernel
theorem d_C_fillFrame_58 : decode c_C_fillFrame 58 = .ok (.iconst 0, 1) := by decide +kernel
theorem d_C_fillFrame_59 : decode c_C_fillFrame 59 = .ok (.aload_n 0, 1) := by decide +kernel
theorem d_C_fillFrame_60 : decode c_C_fillFrame 60 = .ok (.getfield 34, 3) := by decide +kernel
theorem d_C_fillFrame_63 : decode c_C_fillFrame 63 = .ok (.getfield 76, 3) := by decide +kernel
theorem d_C_fillFrame_66 : decode c_C_fillFrame 66 = .ok (.invokestatic 135, 3) := by decide +kernel
theorem d_C_fillFrame_69 : decode c_C_fillFrame 69 = .ok (.aload_n 0, 1) := by decide +kernel
theorem d_C_fillFrame_70 : decode c_C_fillFrame 70 = .ok (.getfield 45, 3) := by decide +kernel
theorem d_C_fillFrame_73 : decode c_C_fillFrame 73 = .ok (.iconst 0, 1) := by decide +kernel
theorem d_C_fillFrame_74 : decode c_C_fillFrame 74 = .ok (.aload_n 2, 1) := by decide +kernel
theorem d_C_fillFrame_75 : decode c_C_fillFrame 75 = .ok (.getfield 141, 3) := by decide +kernel
theorem d_C_fillFrame_78 : decode c_C_fillFrame 78 = .ok (.iconst 0, 1) := by decide +kernel
theorem d_C_fillFrame_79 : decode c_C_fillFrame 79 = .ok (.aload_n 0, 1) := by decide +kernel
theorem d_C_fillFrame_80 : decode c_C_fillFrame 80 = .ok (.getfield 34, 3) := by decide +kernel
theorem d_C_fillFrame_83 : decode c_C_fillFrame 83 = .ok (.getfield 76, 3) := by decide +kernel
theorem d_C_fillFrame_86 : decode c_C_fillFrame 86 = .ok (.invokestatic 135, 3) := by decide +kernel
theorem d_C_fillFrame_89 : decode c_C_fillFrame 89 = .ok (.aload_n 0, 1) := by decide +kernel
theorem d_C_fillFrame_90 : decode c_C_fillFrame 90 = .ok (.getfield 60, 3) := by decide +kernel
theorem d_C_fillFrame_93 : decode c_C_fillFrame 93 = .ok (.ifCond .le 30, 3) := by decide +kernel
theorem d_C_fillFrame_96 : decode c_C_fillFrame 96 = .ok (.aload_n 2, 1) := by decide +kernel
theorem d_C_fillFrame_97 : decode c_C_fillFrame 97 = .ok (.getfield 134, 3) := by decide +kernel
theorem d_C_fillFrame_100 : decode c_C_fillFrame 100 = .ok (.aload_n 0, 1) := by decide +kernel
theorem d_C_fillFrame_101 : decode c_C_fillFrame 101 = .ok (.getfield 60, 3) := by decide +kernel
theorem d_C_fillFrame_104 : decode c_C_fillFrame 104 = .ok (.iconst 1, 1) := by decide +kernel
theorem d_C_fillFrame_105 : decode c_C_fillFrame 105 = .ok (.isub, 1) := by decide +kernel
theorem d_C_fillFrame_106 : decode c_C_fillFrame 106 = .ok (.iconst 0, 1) := by decide +kernel
theorem d_C_fillFrame_107 : decode c_C_fillFrame 107 = .ok (.iastore, 1) := by decide +kernel
theorem d_C_fillFrame_108 : decode c_C_fillFrame 108 = .ok (.aload_n 2, 1) := by decide +kernel
theorem d_C_fillFrame_109 : decode c_C_fillFrame 109 = .ok (.getfield 141, 3) := by decide +kernel
theorem d_C_fillFrame_112 : decode c_C_fillFrame 112 = .ok (.aload_n 0, 1) := by decide +kernel
theorem d_C_fillFrame_113 : decode c_C_fillFrame 113 = .ok (.getfield 60, 3) := by decide +kernel
theorem d_C_fillFrame_116 : decode c_C_fillFrame 116 = .ok (.iconst 1, 1) := by decide +kernel
theorem d_C_fillFrame_117 : decode c_C_fillFrame 117 = .ok (.isub, 1) := by decide +kernel
theorem d_C_fillFrame_118 : decode c_C_fillFrame 118 = .ok (.aload_n 0, 1) := by decide +kernel
theorem d_C_fillFrame_119 : decode c_C_fillFrame 119 = .ok (.getfield 69, 3) := by decide +kernel
theorem d_C_fillFrame_122 : decode c_C_fillFrame 122 = .ok (.iastore, 1) := by decide +kernel
theorem d_C_fillFrame_123 : decode c_C_fillFrame 123 = .ok (.return_, 1) := by decide +kernel
set_option maxRecDepth 20000 in
set_option maxHeartbeats 2000000 in
theorem m_C_fillFrame {E : kx_E} {w : va_W} {n : Nat} {ad : Nat → Nat} {L : Nat → List Nat} {V S : Nat → Nat → Int32} {pe bi : Nat → Option Nat} (hC : Cls E w n ad L V S pe bi) {c e num : Nat} (hc : c < n) (he : endN n e) (hn : S (carB c) 7 = nI num) (h24 : num ≤ 24) (hw : S (opp e) 7 = nI 0 ∨ S (opp e) 7 = nI 1) : kx_S E Y_C_fillFrame [.ref (ad (carB c)), .ref (ad e)] w (CQ E w n ad (fillL L c e) (fillV L V (S (carB c) 8) num c e) (fillS S e) pe bi none) := by
  refine kx_go (by decide) rfl rfl (Nat.le_of_ble_eq_true rfl) (kx_cc rfl (kx_cc rfl kx_c0)) (fun z => ?_)
  have hO : kx_off w w clsN := kx_off.rf
  have hl := (hC.row _ (rowN_26 hc)).2.2.1
  have ho := oppN he
  have n1 : opp e ≠ e + 5 := by unfold endN at he ho; omega
  have n2 : e + 5 + 1 ≠ opp e + 1 := by unfold endN at he ho; omega
  have n3 : e + 5 + 3 ≠ carB c + 26 := by unfold endN at he; simp only [carB]; omega
  have n4 : carB c + 26 ≠ e + 5 + 1 := by unfold endN at he; simp only [carB]; omega
  have n5 : carB c + 30 ≠ e + 5 + 5 := by unfold endN at he; simp only [carB]; omega
  have n6 : carB c + 31 ≠ e + 5 + 5 := by unfold endN at he; simp only [carB]; omega
  have n7 : carB c ≠ e + 5 := by unfold endN at he; simp only [carB]; omega
  have n8 : carB c + 26 ≠ e + 5 + 3 := Ne.symm n3
  refine kx_aload_n d_C_fillFrame_0 rfl (by first | rfl | exact kx_rf _) ?_
  refine kx_get _ d_C_fillFrame_1 f_C_115 (hC.endAt he) (by rfl) ?_
  refine kx_astore_n d_C_fillFrame_4 (by decide) (by first | rfl | exact kx_rf _) ?_
  refine kx_aload_n d_C_fillFrame_5 rfl (by first | rfl | exact kx_rf _) ?_
  refine kx_aload_n d_C_fillFrame_6 rfl (by first | rfl | exact kx_rf _) ?_
  refine kx_get _ d_C_fillFrame_7 f_C_119 (hC.endAt he) (by rfl) ?_
  refine cF_put4 d_C_fillFrame_10 f_C_122 (p_F_4 _) hC hO he (fun w hC hO => ?_)
  refine kx_aload_n d_C_fillFrame_13 rfl (by first | rfl | exact kx_rf _) ?_
  refine kx_get _ d_C_fillFrame_14 f_C_127 (hC.frm e he) (by rfl) ?_
  refine kx_aload_n d_C_fillFrame_17 rfl (by first | rfl | exact kx_rf _) ?_
  refine kx_get _ d_C_fillFrame_18 f_C_27 (hC.endAt he) (by rfl) ?_
  refine kx_get _ d_C_fillFrame_21 f_C_90 (hC.endAt (oppN he)) (by rfl) ?_
  refine cR_copyFrom d_C_fillFrame_24 v_C_128 hC hO (rowN_e6 he) (rowN_e1 ho) n2 (by decide) (Nat.le_of_ble_eq_true rfl) (by decide) (by decide) (fun w hC hO => ?_)
  refine kx_aload_n d_C_fillFrame_27 rfl (by first | rfl | exact kx_rf _) ?_
  refine kx_aload_n d_C_fillFrame_28 rfl (by first | rfl | exact kx_rf _) ?_
  refine kx_get _ d_C_fillFrame_29 f_C_27 (hC.endAt he) (by rfl) ?_
  refine kx_get _ d_C_fillFrame_32 f_C_93 (hC.endAt ho) (by rfl) ?_
  rw [up2_n n1]
  refine cF_put5 d_C_fillFrame_35 f_C_132 (by rcases hw with h | h <;> rw [h]; exact p_F_5_0; exact p_F_5_1) hC hO he (fun w hC hO => ?_)
  refine kx_aload_n d_C_fillFrame_38 rfl (by first | rfl | exact kx_rf _) ?_
  refine kx_get _ d_C_fillFrame_39 f_C_133 (hC.frm e he) (by rfl) ?_
  refine kx_aload_n d_C_fillFrame_42 rfl (by first | rfl | exact kx_rf _) ?_
  refine kx_get _ d_C_fillFrame_43 f_C_34 (hC.car c hc) (by rfl) ?_
  refine cR_copyFrom d_C_fillFrame_46 v_C_128 hC hO (rowN_e8 he) (rowN_26 hc) n3 (by decide) (Nat.le_of_ble_eq_true rfl) (by decide) (by decide) (fun w hC hO => ?_)
  rw [up1_n n4] at hC
  refine kx_aload_n d_C_fillFrame_49 rfl (by first | rfl | exact kx_rf _) ?_
  refine kx_get _ d_C_fillFrame_50 f_C_41 (hC.car c hc) (by rfl) ?_
  refine kx_iconst (nI 0) d_C_fillFrame_53 (by decide) ?_
  refine kx_aload_n d_C_fillFrame_54 rfl (by first | rfl | exact kx_rf _) ?_
  refine kx_get _ d_C_fillFrame_55 f_C_134 (hC.frm e he) (by rfl) ?_
  refine kx_iconst (nI 0) d_C_fillFrame_58 (by decide) ?_
  refine kx_aload_n d_C_fillFrame_59 rfl (by first | rfl | exact kx_rf _) ?_
  refine kx_get _ d_C_fillFrame_60 f_C_34 (hC.car c hc) (by rfl) ?_
  refine kx_get _ d_C_fillFrame_63 f_C_76 (hC.rowObj (rowN_26 hc)) (by rfl) ?_
  rw [up1_n n8, up1_n n4]
  refine cV_copy d_C_fillFrame_66 cp_C_135 hC hO (intN_30 hc) (intN_f5 he) hl (by decide) (by decide) (fun w hC hO => ?_)
  refine kx_aload_n d_C_fillFrame_69 rfl (by first | rfl | exact kx_rf _) ?_
  refine kx_get _ d_C_fillFrame_70 f_C_45 (hC.car c hc) (by rfl) ?_
  refine kx_iconst (nI 0) d_C_fillFrame_73 (by decide) ?_
  refine kx_aload_n d_C_fillFrame_74 rfl (by first | rfl | exact kx_rf _) ?_
  refine kx_get _ d_C_fillFrame_75 f_C_141 (hC.frm e he) (by rfl) ?_
  refine kx_iconst (nI 0) d_C_fillFrame_78 (by decide) ?_
  refine kx_aload_n d_C_fillFrame_79 rfl (by first | rfl | exact kx_rf _) ?_
  refine kx_get _ d_C_fillFrame_80 f_C_34 (hC.car c hc) (by rfl) ?_
  refine kx_get _ d_C_fillFrame_83 f_C_76 (hC.rowObj (rowN_26 hc)) (by rfl) ?_
  rw [up1_n n8, up1_n n4]
  refine cV_copy d_C_fillFrame_86 cp_C_135 hC hO (intN_31 hc) (intN_f6 he) hl (by decide) (by decide) (fun w hC hO => ?_)
  rw [up1_n n6, up1_n (show e + 5 + 6 ≠ e + 5 + 5 by omega)] at hC
  refine kx_aload_n d_C_fillFrame_89 rfl (by first | rfl | exact kx_rf _) ?_
  refine kx_get _ d_C_fillFrame_90 f_C_60 (hC.car c hc) (by rfl) ?_
  rw [up2_n n7, up2_n n7, hn]
  refine kx_if_le_n 123 d_C_fillFrame_93 (by decide) (by omega) ?_ ?_
  · intro h93
    refine kx_vret d_C_fillFrame_123 rfl (by decide) (by decide) ?_
    first
      | (subst h93
         refine ⟨rfl, hC.cgV ?_, hO⟩
         unfold fillV
         rw [← fillA_0, ← fillA_0])
      | (refine ⟨rfl, hC.cgV ?_, hO⟩
         unfold fillV
         rw [fillA_s h93, fillA_s h93, up1_c (f := up1 V (e + 5 + 5) _) (x := e + 5 + 6) (y := e + 5 + 5) (by omega), up1_up1, up1_up1])
  · intro h93
    refine kx_aload_n d_C_fillFrame_96 rfl (by first | rfl | exact kx_rf _) ?_
    refine kx_get _ d_C_fillFrame_97 f_C_134 (hC.frm e he) (by rfl) ?_
    refine kx_aload_n d_C_fillFrame_100 rfl (by first | rfl | exact kx_rf _) ?_
    refine kx_get _ d_C_fillFrame_101 f_C_60 (hC.car c hc) (by rfl) ?_
    rw [up2_n n7, up2_n n7, hn]
    refine kx_iconst (nI 1) d_C_fillFrame_104 (by decide) ?_
    first | refine kx_isub _ d_C_fillFrame_105 (pk_sub (by omega)) ?_ | refine kx_isub _ d_C_fillFrame_105 rfl ?_
    refine kx_iconst (nI 0) d_C_fillFrame_106 (by decide) ?_
    refine cV_put d_C_fillFrame_107 hC hO (intN_f5 he) (by omega) (fun w hC hO => ?_)
    rw [up1_n (show e + 5 + 5 ≠ e + 5 + 6 by omega), up1_s] at hC
    refine kx_aload_n d_C_fillFrame_108 rfl (by first | rfl | exact kx_rf _) ?_
    refine kx_get _ d_C_fillFrame_109 f_C_141 (hC.frm e he) (by rfl) ?_
    refine kx_aload_n d_C_fillFrame_112 rfl (by first | rfl | exact kx_rf _) ?_
    refine kx_get _ d_C_fillFrame_113 f_C_60 (hC.car c hc) (by rfl) ?_
    rw [up2_n n7, up2_n n7, hn]
    refine kx_iconst (nI 1) d_C_fillFrame_116 (by decide) ?_
    first | refine kx_isub _ d_C_fillFrame_117 (pk_sub (by omega)) ?_ | refine kx_isub _ d_C_fillFrame_117 rfl ?_
    refine kx_aload_n d_C_fillFrame_118 rfl (by first | rfl | exact kx_rf _) ?_
    refine kx_get _ d_C_fillFrame_119 f_C_69 (hC.car c hc) (by rfl) ?_
    rw [up2_n n7, up2_n n7]
    refine cV_put d_C_fillFrame_122 hC hO (intN_f6 he) (by omega) (fun w hC hO => ?_)
    rw [up1_n (show e + 5 + 6 ≠ e + 5 + 5 by omega), up1_s] at hC
    refine kx_vret d_C_fillFrame_123 rfl (by decide) (by decide) ?_
    first
      | (subst h93
         refine ⟨rfl, hC.cgV ?_, hO⟩
         unfold fillV
         rw [← fillA_0, ← fillA_0])
      | (refine ⟨rfl, hC.cgV ?_, hO⟩
         unfold fillV
         rw [fillA_s h93, fillA_s h93, up1_c (f := up1 V (e + 5 + 5) _) (x := e + 5 + 6) (y := e + 5 + 5) (by omega), up1_up1, up1_up1])
abbrev LVS : Type := (Nat → List Nat) × (Nat → Nat → Int32) × (Nat → Nat → Int32)
def clN (x : Int32) : Nat := x.toNatClampNeg
theorem clN_nI {k : Nat} (h : k < 2 ^ 31) : clN (nI k) = k := nI_clamp h
def mkE (pe : Nat → Option Nat) (c i : Nat) (T : LVS) : LVS := if pe (carE c i) = none then T else (fillL T.1 c (carE c i), fillV T.1 T.2.1 (T.2.2 (carB c) 8) (clN (T.2.2 (carB c) 7)) c (carE c i), fillS T.2.2 (carE c i))
def okUp (n x k : Nat) (v : Int32) : Prop := (endN n x → (k = 8 → ∃ s, s ≤ 4 ∧ v = nI s) ∧ (k = 7 → v = nI 0 ∨ v = nI 1) ∧ (k = 0 → ∃ i, i < 512 ∧ v = nI i)) ∧ (∀ e, endN n e → x = e + 5 → (k = 4 → ∃ s, s < 512 ∧ v = nI s) ∧ (k = 5 → v = nI 0 ∨ v = nI 1)) ∧ (∀ c, c < n → x = carB c → (k = 7 → ∃ m, m ≤ 24 ∧ v = nI m) ∧ (k = 0 → ∃ i, i < 256 ∧ v = nI i))
/-- what the numbers of the bus keep to -/
def InvS (n : Nat) (S : Nat → Nat → Int32) : Prop := ∀ x k, okUp n x k (S x k)
theorem InvS.up {n : Nat} {S : Nat → Nat → Int32} {x k : Nat} {v : Int32} (h : InvS n S) (hv : okUp n x k v) : InvS n (up2 S x k v) := by
  intro y j
  unfold up2
  by_cases e : y = x
  · subst e
    rw [if_pos rfl]
    by_cases e2 : j = k
    · subst e2; rw [if_pos rfl]; exact hv
    · rw [if_neg e2]; exact h y j
  · rw [if_neg e]; exact h y j
theorem InvS.sil {n : Nat} {S : Nat → Nat → Int32} (h : InvS n S) {e : Nat} (he : endN n e) : ∃ s, s ≤ 4 ∧ S e 8 = nI s := ((h e 8).1 he).1 rfl
theorem InvS.whl {n : Nat} {S : Nat → Nat → Int32} (h : InvS n S) {e : Nat} (he : endN n e) : S e 7 = nI 0 ∨ S e 7 = nI 1 := ((h e 7).1 he).2.1 rfl
theorem InvS.item {n : Nat} {S : Nat → Nat → Int32} (h : InvS n S) {e : Nat} (he : endN n e) : ∃ i, i < 512 ∧ S e 0 = nI i := ((h e 0).1 he).2.2 rfl
theorem InvS.snd {n : Nat} {S : Nat → Nat → Int32} (h : InvS n S) {e : Nat} (he : endN n e) : ∃ s, s < 512 ∧ S (e + 5) 4 = nI s := ((h (e + 5) 4).2.1 e he rfl).1 rfl
theorem InvS.fwh {n : Nat} {S : Nat → Nat → Int32} (h : InvS n S) {e : Nat} (he : endN n e) : S (e + 5) 5 = nI 0 ∨ S (e + 5) 5 = nI 1 := ((h (e + 5) 5).2.1 e he rfl).2 rfl
theorem InvS.num {n : Nat} {S : Nat → Nat → Int32} (h : InvS n S) {c : Nat} (hc : c < n) : ∃ m, m ≤ 24 ∧ S (carB c) 7 = nI m := ((h (carB c) 7).2.2 c hc rfl).1 rfl
theorem InvS.id {n : Nat} {S : Nat → Nat → Int32} (h : InvS n S) {c : Nat} (hc : c < n) : ∃ i, i < 256 ∧ S (carB c) 0 = nI i := ((h (carB c) 0).2.2 c hc rfl).2 rfl
theorem okUp_e {n e k : Nat} {v : Int32} (he : endN n e) (h8 : k = 8 → ∃ s, s ≤ 4 ∧ v = nI s) (h7 : k = 7 → v = nI 0 ∨ v = nI 1) (h0 : k ≠ 0) : okUp n e k v :=
  ⟨fun _ => ⟨h8, h7, fun h => absurd h h0⟩, fun q hq h => by clear h8 h7; unfold endN at he hq; omega, fun c hc h => by clear h8 h7; unfold endN at he; simp only [carB] at h; omega⟩
theorem okUp_f {n e k : Nat} {v : Int32} (he : endN n e) (h4 : k = 4 → ∃ s, s < 512 ∧ v = nI s) (h5 : k = 5 → v = nI 0 ∨ v = nI 1) : okUp n (e + 5) k v :=
  ⟨fun h => by clear h4 h5; unfold endN at he h; omega, fun q hq h => ⟨h4, h5⟩, fun c hc h => by clear h4 h5; unfold endN at he; simp only [carB] at h; omega⟩
theorem okUp_c {n c k : Nat} {v : Int32} (h7 : k = 7 → ∃ m, m ≤ 24 ∧ v = nI m) (h0 : k ≠ 0) : okUp n (carB c) k v :=
  ⟨fun h => by clear h7; unfold endN at h; simp only [carB] at h; omega, fun q hq h => by clear h7; unfold endN at hq; simp only [carB] at h; omega, fun c hc h => ⟨h7, fun q => absurd q h0⟩⟩
theorem InvS.fill {n : Nat} {S : Nat → Nat → Int32} (h : InvS n S) {e : Nat} (he : endN n e) : InvS n (fillS S e) :=
  (h.up (okUp_f he (fun _ => h.item he) (fun q => by cases q))).up (okUp_f he (fun q => by cases q) (fun _ => h.whl (oppN he)))
theorem mkE_inv {n c i : Nat} {pe : Nat → Option Nat} {T : LVS} (h : InvS n T.2.2) (hc : c < n) : InvS n (mkE pe c i T).2.2 := by
  unfold mkE
  by_cases e : pe (carE c i) = none
  · rw [if_pos e]; exact h
  · rw [if_neg e]; exact h.fill (carE_N hc)
theorem d_C_makeFrames_0 : decode c_C_makeFrames 0 = .ok (.iconst 0, 1) := by decide +kernel
theorem d_C_makeFrames_1 : decode c_C_makeFrames 1 = .ok (.istore_n 1, 1) := by decide +kernel
theorem d_C_makeFrames_2 : decode c_C_makeFrames 2 = .ok (.iload_n 1, 1) := by decide +kernel
theorem d_C_makeFrames_3 : decode c_C_makeFrames 3 = .ok (.iconst 2, 1) := by decide +kernel
theorem d_C_makeFrames_4 : decode c_C_makeFrames 4 = .ok (.if_icmp .ge 31, 3) := by decide +kernel
theorem d_C_makeFrames_7 : decode c_C_makeFrames 7 = .ok (.aload_n 0, 1) := by decide +kernel
theorem d_C_makeFrames_8 : decode c_C_makeFrames 8 = .ok (.getfield 20, 3) := by decide +kernel
theorem d_C_makeFrames_11 : decode c_C_makeFrames 11 = .ok (.iload_n 1, 1) := by decide +kernel
theorem d_C_makeFrames_12 : decode c_C_makeFrames 12 = .ok (.aaload, 1) := by decide +kernel
theorem d_C_makeFrames_13 : decode c_C_makeFrames 13 = .ok (.getfield 108, 3) := by decide +kernel
theorem d_C_makeFrames_16 : decode c_C_makeFrames 16 = .ok (.ifnull 13, 3) := by decide +kernel
theorem d_C_makeFrames_19 : decode c_C_makeFrames 19 = .ok (.aload_n 0, 1) := by decide +kernel
theorem d_C_makeFrames_20 : decode c_C_makeFrames 20 = .ok (.aload_n 0, 1) := by decide +kernel
theorem d_C_makeFrames_21 : decode c_C_makeFrames 21 = .ok (.getfield 20, 3) := by decide +kernel
theorem d_C_makeFrames_24 : decode c_C_makeFrames 24 = .ok (.iload_n 1, 1) := by decide +kernel
theorem d_C_makeFrames_25 : decode c_C_makeFrames 25 = .ok (.aaload, 1) := by decide +kernel
theorem d_C_makeFrames_26 : decode c_C_makeFrames 26 = .ok (.invokevirtual 111, 3) := by decide +kernel
theorem d_C_makeFrames_29 : decode c_C_makeFrames 29 = .ok (.iinc 1 1, 3) := by decide +kernel
theorem d_C_makeFrames_32 : decode c_C_makeFrames 32 = .ok (.goto (-30), 3) := by decide +kernel
theorem d_C_makeFrames_35 : decode c_C_makeFrames 35 = .ok (.return_, 1) := by decide +kernel
set_option maxRecDepth 20000 in
set_option maxHeartbeats 2000000 in
theorem s_C_makeFrames {E : kx_E} {w w0 : va_W} {n : Nat} {ad : Nat → Nat} {pe bi : Nat → Option Nat} {T : LVS} (hC : Cls E w n ad T.1 T.2.1 T.2.2 pe bi) (hO : kx_off w0 w clsN) {c i : Nat} (hc : c < n) (hI : InvS n T.2.2) (hi : i < 2) {z : kx_Z} {Q : kx_O → va_W → Prop}
    (kk : ∀ w, Cls E w n ad (mkE pe c i T).1 (mkE pe c i T).2.1 (mkE pe c i T).2.2 pe bi → kx_off w0 w clsN → kx_R E Y_C_makeFrames z 2 [(0, .ref (ad (carB c))), (1, .int (nI (i + 1)))] [] w 0 0 Q) : kx_R E Y_C_makeFrames z 2 [(0, .ref (ad (carB c))), (1, .int (nI i))] [] w 0 0 Q := by
  refine kx_iload_n d_C_makeFrames_2 rfl ?_
  refine kx_iconst (nI 2) d_C_makeFrames_3 (by decide) ?_
  first | refine kx_icmp_ge_n 35 d_C_makeFrames_4 (by decide) (by omega) (by omega) ?_ ?_ | refine kx_icmp_ge 35 d_C_makeFrames_4 (by decide) ?_ ?_
  · intro h4
    exact absurd h4 (by omega)
  · intro h4
    refine kx_aload_n d_C_makeFrames_7 rfl (by first | rfl | exact kx_rf _) ?_
    refine kx_get _ d_C_makeFrames_8 f_C_20 (hC.car c hc) (by rfl) ?_
    refine kx_iload_n d_C_makeFrames_11 rfl ?_
    refine cA_end d_C_makeFrames_12 hC hc (by first | decide | omega) ?_
    refine kx_get _ d_C_makeFrames_13 f_C_108 (hC.endAt (carE_N hc)) (by rfl) ?_
    refine kx_ifnull 29 d_C_makeFrames_16 (by decide) ?_ ?_
    · intro h16
      have hp : pe (carE c i) = none := by
        cases hpe : pe (carE c i) with
        | none => rfl
        | some q => rw [hpe] at h16; cases h16
      have hC : Cls E w n ad (mkE pe c i T).1 (mkE pe c i T).2.1 (mkE pe c i T).2.2 pe bi := by unfold mkE; rw [if_pos hp]; exact hC
      refine kx_iinc _ d_C_makeFrames_29 rfl (by decide) (nI_1 _) ?_
      refine kx_goto 2 d_C_makeFrames_32 (by decide) ?_
      refine kx_loc (L1 := [(0, .ref (ad (carB c))), (1, .int (nI (i + 1)))]) ⟨rfl, rfl, trivial⟩ ?_
      exact kk w hC hO
    · intro a16 h16
      have hp : ¬ pe (carE c i) = none := fun e => by rw [e] at h16; cases h16
      obtain ⟨num, hn1, hn⟩ := hI.num hc
      refine kx_aload_n d_C_makeFrames_19 rfl (by first | rfl | exact kx_rf _) ?_
      refine kx_aload_n d_C_makeFrames_20 rfl (by first | rfl | exact kx_rf _) ?_
      refine kx_get _ d_C_makeFrames_21 f_C_20 (hC.car c hc) (by rfl) ?_
      refine kx_iload_n d_C_makeFrames_24 rfl ?_
      refine cA_end d_C_makeFrames_25 hC hc (by first | decide | omega) ?_
      refine kx_callV (as := [.ref (ad (carE c i))]) (rest := []) d_C_makeFrames_26 v_C_111 rfl (hC.car c hc) rfl rfl (by decide) (by decide) (by decide) (by decide) (by decide) rfl (m_C_fillFrame hC hc (carE_N hc) hn hn1 (hI.whl (oppN (carE_N hc)))) (fun X w1 h => by cases h.1) (fun v w hq9 => ?_)
      obtain ⟨hv, hC, hO9⟩ := hq9
      cases hv
      have hO := hO.tr hO9 (fun _ h => h) (fun _ h => h)
      have hC : Cls E w n ad (mkE pe c i T).1 (mkE pe c i T).2.1 (mkE pe c i T).2.2 pe bi := by unfold mkE; rw [if_neg hp, hn, clN_nI (by omega)]; exact hC
      refine kx_stk (st1 := []) rfl ?_
      refine kx_iinc _ d_C_makeFrames_29 rfl (by decide) (nI_1 _) ?_
      refine kx_goto 2 d_C_makeFrames_32 (by decide) ?_
      refine kx_loc (L1 := [(0, .ref (ad (carB c))), (1, .int (nI (i + 1)))]) ⟨rfl, rfl, trivial⟩ ?_
      exact kk w hC hO
set_option maxRecDepth 20000 in
set_option maxHeartbeats 2000000 in
theorem m_C_makeFrames {E : kx_E} {w : va_W} {n : Nat} {ad : Nat → Nat} {L : Nat → List Nat} {V S : Nat → Nat → Int32} {pe bi : Nat → Option Nat} (hC : Cls E w n ad L V S pe bi) {c : Nat} (hc : c < n) (hI : InvS n S) : kx_S E Y_C_makeFrames [.ref (ad (carB c))] w (CQ E w n ad (mkE pe c 1 (mkE pe c 0 (L, V, S))).1 (mkE pe c 1 (mkE pe c 0 (L, V, S))).2.1 (mkE pe c 1 (mkE pe c 0 (L, V, S))).2.2 pe bi none) := by
  refine kx_go (by decide) rfl rfl (Nat.le_of_ble_eq_true rfl) (kx_cc rfl kx_c0) (fun z => ?_)
  have hO : kx_off w w clsN := kx_off.rf
  refine kx_iconst (nI 0) d_C_makeFrames_0 (by decide) ?_
  refine kx_istore_n d_C_makeFrames_1 (by decide) ?_
  refine kx_loc (L1 := [(0, .ref (ad (carB c))), (1, .int (nI 0))]) ⟨rfl, rfl, trivial⟩ ?_
  refine s_C_makeFrames (T := (L, V, S)) hC hO hc hI (by decide) (fun w hC hO => ?_)
  refine s_C_makeFrames (i := 1) hC hO hc (mkE_inv (T := (L, V, S)) hI hc) (by decide) (fun w hC hO => ?_)
  refine kx_iload_n d_C_makeFrames_2 rfl ?_
  refine kx_iconst (nI 2) d_C_makeFrames_3 (by decide) ?_
  refine kx_icmp_ge_n 35 d_C_makeFrames_4 (by decide) (by decide) (by decide) ?_ ?_
  · intro h4
    refine kx_vret d_C_makeFrames_35 rfl (by decide) (by decide) ?_
    exact ⟨rfl, hC, hO⟩
  · intro h4
    exact absurd h4 (by decide)
end
section
/-! Car: the draft and the directory -/
/-- the run as a car sees it, out of its two views: empty if it has none -/
def draftI (l0 l1 : List Nat) (it : Nat) (b0 b1 : Int32) : List Nat :=
  if b0 = nI 0 ∨ b1 = nI 0 ∨ 24 < l0.length + 1 + l1.length then []
  else if rowTw (rowTurn l0 ++ [it] ++ l1) = 1 then []
  else if (rowTurn l0 ++ [it] ++ l1).getD (l0.length + l1.length) 0 / 2 < (rowTurn l0 ++ [it] ++ l1).getD 0 0 / 2 then rowTurn (rowTurn l0 ++ [it] ++ l1) else rowTurn l0 ++ [it] ++ l1
def draL (L : Nat → List Nat) (S : Nat → Nat → Int32) (c : Nat) : Nat → List Nat := up1 L (carB c + 28) (draftI (L (carE c 0 + 1)) (L (carE c 1 + 1)) (clN (S (carE c 0) 0)) (S (carE c 0) 7) (S (carE c 1) 7))
theorem d_C_draftDirectory_0 : decode c_C_draftDirectory 0 = .ok (.aload_n 0, 1) := by decide +kernel
theorem d_C_draftDirectory_1 : decode c_C_draftDirectory 1 = .ok (.getfield 20, 3) := by decide +kernel
theorem d_C_draftDirectory_4 : decode c_C_draftDirectory 4 = .ok (.iconst 0, 1) := by decide +kernel
theorem d_C_draftDirectory_5 : decode c_C_draftDirectory 5 = .ok (.aaload, 1) := by decide +kernel
theorem d_C_draftDirectory_6 : decode c_C_draftDirectory 6 = .ok (.getfield 90, 3) := by decide +kernel
theorem d_C_draftDirectory_9 : decode c_C_draftDirectory 9 = .ok (.astore_n 2, 1) := by decide +kernel
theorem d_C_draftDirectory_10 : decode c_C_draftDirectory 10 = .ok (.aload_n 0, 1) := by decide +kernel
theorem d_C_draftDirectory_11 : decode c_C_draftDirectory 11 = .ok (.getfield 20, 3) := by decide +kernel
theorem d_C_draftDirectory_14 : decode c_C_draftDirectory 14 = .ok (.iconst 1, 1) := by decide +kernel
theorem d_C_draftDirectory_15 : decode c_C_draftDirectory 15 = .ok (.aaload, 1) := by decide +kernel
theorem d_C_draftDirectory_16 : decode c_C_draftDirectory 16 = .ok (.getfield 90, 3) := by decide +kernel
theorem d_C_draftDirectory_19 : decode c_C_draftDirectory 19 = .ok (.astore_n 3, 1) := by decide +kernel
theorem d_C_draftDirectory_20 : decode c_C_draftDirectory 20 = .ok (.aload_n 2, 1) := by decide +kernel
theorem d_C_draftDirectory_21 : decode c_C_draftDirectory 21 = .ok (.getfield 76, 3) := by decide +kernel
theorem d_C_draftDirectory_24 : decode c_C_draftDirectory 24 = .ok (.iconst 1, 1) := by decide +kernel
theorem d_C_draftDirectory_25 : decode c_C_draftDirectory 25 = .ok (.iadd, 1) := by decide +kernel
theorem d_C_draftDirectory_26 : decode c_C_draftDirectory 26 = .ok (.aload_n 3, 1) := by decide +kernel
theorem d_C_draftDirectory_27 : decode c_C_draftDirectory 27 = .ok (.getfield 76, 3) := by decide +kernel
theorem d_C_draftDirectory_30 : decode c_C_draftDirectory 30 = .ok (.iadd, 1) := by decide +kernel
theorem d_C_draftDirectory_31 : decode c_C_draftDirectory 31 = .ok (.bipush 24, 2) := by decide +kernel
theorem d_C_draftDirectory_33 : decode c_C_draftDirectory 33 = .ok (.if_icmp .le 7, 3) := by decide +kernel
theorem d_C_draftDirectory_36 : decode c_C_draftDirectory 36 = .ok (.iconst 1, 1) := by decide +kernel
theorem d_C_draftDirectory_37 : decode c_C_draftDirectory 37 = .ok (.goto 4, 3) := by decide +kernel
theorem d_C_draftDirectory_40 : decode c_C_draftDirectory 40 = .ok (.iconst 0, 1) := by decide +kernel
theorem d_C_draftDirectory_41 : decode c_C_draftDirectory 41 = .ok (.istore 4, 2) := by decide +kernel
theorem d_C_draftDirectory_43 : decode c_C_draftDirectory 43 = .ok (.aload_n 0, 1) := by decide +kernel
theorem d_C_draftDirectory_44 : decode c_C_draftDirectory 44 = .ok (.getfield 20, 3) := by decide +kernel
theorem d_C_draftDirectory_47 : decode c_C_draftDirectory 47 = .ok (.iconst 0, 1) := by decide +kernel
theorem d_C_draftDirectory_48 : decode c_C_draftDirectory 48 = .ok (.aaload, 1) := by decide +kernel
theorem d_C_draftDirectory_49 : decode c_C_draftDirectory 49 = .ok (.getfield 93, 3) := by decide +kernel
theorem d_C_draftDirectory_52 : decode c_C_draftDirectory 52 = .ok (.ifCond .eq 20, 3) := by decide +kernel
theorem d_C_draftDirectory_55 : decode c_C_draftDirectory 55 = .ok (.aload_n 0, 1) := by decide +kernel
theorem d_C_draftDirectory_56 : decode c_C_draftDirectory 56 = .ok (.getfield 20, 3) := by decide +kernel
theorem d_C_draftDirectory_59 : decode c_C_draftDirectory 59 = .ok (.iconst 1, 1) := by decide +kernel
theorem d_C_draftDirectory_60 : decode c_C_draftDirectory 60 = .ok (.aaload, 1) := by decide +kernel
theorem d_C_draftDirectory_61 : decode c_C_draftDirectory 61 = .ok (.getfield 93, 3) := by decide +kernel
theorem d_C_draftDirectory_64 : decode c_C_draftDirectory 64 = .ok (.ifCond .eq 8, 3) := by decide +kernel
theorem d_C_draftDirectory_67 : decode c_C_draftDirectory 67 = .ok (.iload 4, 2) := by decide +kernel
theorem d_C_draftDirectory_69 : decode c_C_draftDirectory 69 = .ok (.ifCond .eq 11, 3) := by decide +kernel
theorem d_C_draftDirectory_72 : decode c_C_draftDirectory 72 = .ok (.aload_n 0, 1) := by decide +kernel
theorem d_C_draftDirectory_73 : decode c_C_draftDirectory 73 = .ok (.getfield 38, 3) := by decide +kernel
theorem d_C_draftDirectory_76 : decode c_C_draftDirectory 76 = .ok (.invokevirtual 57, 3) := by decide +kernel
theorem d_C_draftDirectory_79 : decode c_C_draftDirectory 79 = .ok (.return_, 1) := by decide +kernel
theorem d_C_draftDirectory_80 : decode c_C_draftDirectory 80 = .ok (.aload_n 0, 1) := by decide +kernel
theorem d_C_draftDirectory_81 : decode c_C_draftDirectory 81 = .ok (.getfield 38, 3) := by decide +kernel
theorem d_C_draftDirectory_84 : decode c_C_draftDirectory 84 = .ok (.aload_n 2, 1) := by decide +kernel
theorem d_C_draftDirectory_85 : decode c_C_draftDirectory 85 = .ok (.invokevirtual 128, 3) := by decide +kernel
theorem d_C_draftDirectory_88 : decode c_C_draftDirectory 88 = .ok (.aload_n 0, 1) := by decide +kernel
theorem d_C_draftDirectory_89 : decode c_C_draftDirectory 89 = .ok (.getfield 38, 3) := by decide +kernel
theorem d_C_draftDirectory_92 : decode c_C_draftDirectory 92 = .ok (.invokevirtual 167, 3) := by decide +kernel
theorem d_C_draftDirectory_95 : decode c_C_draftDirectory 95 = .ok (.aload_n 0, 1) := by decide +kernel
theorem d_C_draftDirectory_96 : decode c_C_draftDirectory 96 = .ok (.getfield 38, 3) := by decide +kernel
theorem d_C_draftDirectory_99 : decode c_C_draftDirectory 99 = .ok (.aload_n 0, 1) := by decide +kernel
theorem d_C_draftDirectory_100 : decode c_C_draftDirectory 100 = .ok (.getfield 20, 3) := by decide +kernel
theorem d_C_draftDirectory_103 : decode c_C_draftDirectory 103 = .ok (.iconst 0, 1) := by decide +kernel
theorem d_C_draftDirectory_104 : decode c_C_draftDirectory 104 = .ok (.aaload, 1) := by decide +kernel
theorem d_C_draftDirectory_105 : decode c_C_draftDirectory 105 = .ok (.getfield 119, 3) := by decide +kernel
theorem d_C_draftDirectory_108 : decode c_C_draftDirectory 108 = .ok (.invokevirtual 170, 3) := by decide +kernel
theorem d_C_draftDirectory_111 : decode c_C_draftDirectory 111 = .ok (.aload_n 0, 1) := by decide +kernel
theorem d_C_draftDirectory_112 : decode c_C_draftDirectory 112 = .ok (.getfield 38, 3) := by decide +kernel
theorem d_C_draftDirectory_115 : decode c_C_draftDirectory 115 = .ok (.aload_n 3, 1) := by decide +kernel
theorem d_C_draftDirectory_116 : decode c_C_draftDirectory 116 = .ok (.invokevirtual 173, 3) := by decide +kernel
theorem d_C_draftDirectory_119 : decode c_C_draftDirectory 119 = .ok (.aload_n 0, 1) := by decide +kernel
theorem d_C_draftDirectory_120 : decode c_C_draftDirectory 120 = .ok (.getfield 38, 3) := by decide +kernel
theorem d_C_draftDirectory_123 : decode c_C_draftDirectory 123 = .ok (.aload_n 1, 1) := by decide +kernel
theorem d_C_draftDirectory_124 : decode c_C_draftDirectory 124 = .ok (.invokevirtual 176, 3) := by decide +kernel
theorem d_C_draftDirectory_127 : decode c_C_draftDirectory 127 = .ok (.ifCond .eq 13, 3) := by decide +kernel
theorem d_C_draftDirectory_130 : decode c_C_draftDirectory 130 = .ok (.aload_n 0, 1) := by decide +kernel
theorem d_C_draftDirectory_131 : decode c_C_draftDirectory 131 = .ok (.getfield 38, 3) := by decide +kernel
theorem d_C_draftDirectory_134 : decode c_C_draftDirectory 134 = .ok (.invokevirtual 57, 3) := by decide +kernel
theorem d_C_draftDirectory_137 : decode c_C_draftDirectory 137 = .ok (.goto 35, 3) := by decide +kernel
theorem d_C_draftDirectory_140 : decode c_C_draftDirectory 140 = .ok (.aload_n 0, 1) := by decide +kernel
theorem d_C_draftDirectory_141 : decode c_C_draftDirectory 141 = .ok (.getfield 38, 3) := by decide +kernel
theorem d_C_draftDirectory_144 : decode c_C_draftDirectory 144 = .ok (.iconst 1, 1) := by decide +kernel
theorem d_C_draftDirectory_145 : decode c_C_draftDirectory 145 = .ok (.invokevirtual 180, 3) := by decide +kernel
theorem d_C_draftDirectory_148 : decode c_C_draftDirectory 148 = .ok (.aload_n 0, 1) := by decide +kernel
theorem d_C_draftDirectory_149 : decode c_C_draftDirectory 149 = .ok (.getfield 38, 3) := by decide +kernel
theorem d_C_draftDirectory_152 : decode c_C_draftDirectory 152 = .ok (.aload_n 0, 1) := by decide +kernel
theorem d_C_draftDirectory_153 : decode c_C_draftDirectory 153 = .ok (.getfield 38, 3) := by decide +kernel
theorem d_C_draftDirectory_156 : decode c_C_draftDirectory 156 = .ok (.getfield 76, 3) := by decide +kernel
theorem d_C_draftDirectory_159 : decode c_C_draftDirectory 159 = .ok (.invokevirtual 180, 3) := by decide +kernel
theorem d_C_draftDirectory_162 : decode c_C_draftDirectory 162 = .ok (.if_icmp .le 10, 3) := by decide +kernel
theorem d_C_draftDirectory_165 : decode c_C_draftDirectory 165 = .ok (.aload_n 0, 1) := by decide +kernel
theorem d_C_draftDirectory_166 : decode c_C_draftDirectory 166 = .ok (.getfield 38, 3) := by decide +kernel
theorem d_C_draftDirectory_169 : decode c_C_draftDirectory 169 = .ok (.invokevirtual 167, 3) := by decide +kernel
theorem d_C_draftDirectory_172 : decode c_C_draftDirectory 172 = .ok (.return_, 1) := by decide +kernel
set_option maxRecDepth 20000 in
set_option maxHeartbeats 4000000 in
theorem m_C_draftDirectory {E : kx_E} {w : va_W} {n : Nat} {ad : Nat → Nat} {L : Nat → List Nat} {V S : Nat → Nat → Int32} {pe bi : Nat → Option Nat} (hC : Cls E w n ad L V S pe bi) {c : Nat} (hc : c < n) (hI : InvS n S) : kx_S E Y_C_draftDirectory [.ref (ad (carB c)), .ref (ad 3)] w (CQ E w n ad (draL L S c) V S pe bi none) := by
  refine kx_go (by decide) rfl rfl (Nat.le_of_ble_eq_true rfl) (kx_cc rfl (kx_cc rfl kx_c0)) (fun z => ?_)
  have hO : kx_off w w clsN := kx_off.rf
  have he0 : endN n (carE c 0) := carE_N hc
  have he1 : endN n (carE c 1) := carE_N hc
  obtain ⟨it, hit, hit0⟩ := hI.item he0
  have hw0 := hI.whl he0
  have hw1 := hI.whl he1
  have hl0 := (hC.row _ (rowN_e1 he0)).2.2.1
  have hl1 := (hC.row _ (rowN_e1 he1)).2.2.1
  have r28 := rowN_28 hc
  have m0 : carB c + 28 ≠ carE c 0 + 1 := by unfold endN at he0; simp only [carB]; omega
  have m1 : carE c 1 + 1 ≠ carB c + 28 := by unfold endN at he1; simp only [carB]; omega
  have m2 : carB c + 28 ≠ carE c 1 + 1 := Ne.symm m1
  unfold draL
  rw [hit0, clN_nI (by omega)]
  generalize hG0 : L (carE c 0 + 1) = l0 at hl0 ⊢
  generalize hG1 : L (carE c 1 + 1) = l1 at hl1 ⊢
  have hv512 : ∀ v ∈ rowTurn l0 ++ [it] ++ l1, v < 512 := by
    intro v hv
    rcases List.mem_append.mp hv with hv | hv
    · rcases List.mem_append.mp hv with hv | hv
      · unfold rowTurn at hv
        obtain ⟨u, hu, rfl⟩ := List.mem_map.mp hv
        exact row_x1 ((hC.row _ (rowN_e1 he0)).2.2.2 u (by rw [hG0]; exact List.mem_reverse.mp hu))
      · rw [List.mem_singleton.mp hv]; exact hit
    · exact (hC.row _ (rowN_e1 he1)).2.2.2 v (by rw [hG1]; exact hv)
  have hno : ∀ w1 : va_W, (S (carE c 0) 7 = nI 0 ∨ S (carE c 1) 7 = nI 0 ∨ 24 < l0.length + 1 + l1.length) → Cls E w1 n ad (up1 L (carB c + 28) []) V S pe bi → kx_off w w1 clsN → CQ E w n ad (up1 L (carB c + 28) (draftI l0 l1 it (S (carE c 0) 7) (S (carE c 1) 7))) V S pe bi none (.inl none) w1 := by
    intro w1 h hC hO
    unfold draftI
    rw [if_pos h]
    exact ⟨rfl, hC, hO⟩
  have key : ∀ t : Nat, t = (if 24 < l0.length + 1 + l1.length then 1 else 0) → kx_R E Y_C_draftDirectory z 41 [(0, .ref (ad (carB c))), (1, .ref (ad 3)), (2, .ref (ad (carE c 0 + 1))), (3, .ref (ad (carE c 1 + 1)))] [.int (nI t)] w 0 0 (CQ E w n ad (up1 L (carB c + 28) (draftI l0 l1 it (S (carE c 0) 7) (S (carE c 1) 7))) V S pe bi none) := by
    intro t ht
    have ht2 : t < 2 := by rw [ht]; split <;> decide
    refine kx_istore d_C_draftDirectory_41 (by decide) ?_
    refine kx_aload_n d_C_draftDirectory_43 rfl (by first | rfl | exact kx_rf _) ?_
    refine kx_get _ d_C_draftDirectory_44 f_C_20 (hC.car c hc) (by rfl) ?_
    refine kx_iconst (nI 0) d_C_draftDirectory_47 (by decide) ?_
    refine cA_end d_C_draftDirectory_48 hC hc (by first | decide | omega) ?_
    refine kx_get _ d_C_draftDirectory_49 f_C_93 (hC.endAt (carE_N hc)) (by rfl) ?_
    refine kx_if_eq 72 d_C_draftDirectory_52 (by decide) ?_ ?_
    · intro h52
      refine kx_aload_n d_C_draftDirectory_72 rfl (by first | rfl | exact kx_rf _) ?_
      refine kx_get _ d_C_draftDirectory_73 f_C_38 (hC.car c hc) (by rfl) ?_
      refine cR_clear d_C_draftDirectory_76 v_C_57 hC hO r28 (by decide) (Nat.le_of_ble_eq_true rfl) (by decide) (by decide) (fun w hC hO => ?_)
      refine kx_vret d_C_draftDirectory_79 rfl (by decide) (by decide) (hno w ?_ hC hO)
      first
        | exact Or.inl h52
        | exact Or.inr (Or.inl h64)
        | exact Or.inr (Or.inr (Decidable.byContradiction (fun q => h69 (by rw [ht, if_neg q]))))
    · intro h52
      refine kx_aload_n d_C_draftDirectory_55 rfl (by first | rfl | exact kx_rf _) ?_
      refine kx_get _ d_C_draftDirectory_56 f_C_20 (hC.car c hc) (by rfl) ?_
      refine kx_iconst (nI 1) d_C_draftDirectory_59 (by decide) ?_
      refine cA_end d_C_draftDirectory_60 hC hc (by first | decide | omega) ?_
      refine kx_get _ d_C_draftDirectory_61 f_C_93 (hC.endAt (carE_N hc)) (by rfl) ?_
      refine kx_if_eq 72 d_C_draftDirectory_64 (by decide) ?_ ?_
      · intro h64
        refine kx_aload_n d_C_draftDirectory_72 rfl (by first | rfl | exact kx_rf _) ?_
        refine kx_get _ d_C_draftDirectory_73 f_C_38 (hC.car c hc) (by rfl) ?_
        refine cR_clear d_C_draftDirectory_76 v_C_57 hC hO r28 (by decide) (Nat.le_of_ble_eq_true rfl) (by decide) (by decide) (fun w hC hO => ?_)
        refine kx_vret d_C_draftDirectory_79 rfl (by decide) (by decide) (hno w ?_ hC hO)
        first
          | exact Or.inl h52
          | exact Or.inr (Or.inl h64)
          | exact Or.inr (Or.inr (Decidable.byContradiction (fun q => h69 (by rw [ht, if_neg q]))))
      · intro h64
        refine kx_iload d_C_draftDirectory_67 rfl ?_
        first | refine kx_if_eq_n 80 d_C_draftDirectory_69 (by decide) (by omega) ?_ ?_ | refine kx_if_eq 80 d_C_draftDirectory_69 (by decide) ?_ ?_
        · intro h69
          have hb0 : S (carE c 0) 7 = nI 1 := by rcases hw0 with h | h; exact absurd h (fun e => h52 e); exact h
          have hb1 : S (carE c 1) 7 = nI 1 := by rcases hw1 with h | h; exact absurd h (fun e => h64 e); exact h
          have hlen : l0.length + 1 + l1.length ≤ 24 := by rw [h69] at ht; split at ht; cases ht; omega
          have hd : ¬ (S (carE c 0) 7 = nI 0 ∨ S (carE c 1) 7 = nI 0 ∨ 24 < l0.length + 1 + l1.length) := fun q => by rcases q with q | q | q; exact h52 q; exact h64 q; omega
          unfold draftI
          rw [if_neg hd]
          generalize hR : rowTurn l0 ++ [it] ++ l1 = R
          have hRl : R.length = l0.length + 1 + l1.length := by rw [← hR, List.length_append, List.length_append, rowTurn_len]; rfl
          have hR512 : ∀ v ∈ R, v < 512 := by rw [← hR]; exact hv512
          refine kx_aload_n d_C_draftDirectory_80 rfl (by first | rfl | exact kx_rf _) ?_
          refine kx_get _ d_C_draftDirectory_81 f_C_38 (hC.car c hc) (by rfl) ?_
          refine kx_aload_n d_C_draftDirectory_84 rfl (by first | rfl | exact kx_rf _) ?_
          refine cR_copyFrom d_C_draftDirectory_85 v_C_128 hC hO r28 (rowN_e1 he0) m0 (by decide) (Nat.le_of_ble_eq_true rfl) (by decide) (by decide) (fun w hC hO => ?_)
          rw [hG0] at hC
          refine kx_aload_n d_C_draftDirectory_88 rfl (by first | rfl | exact kx_rf _) ?_
          refine kx_get _ d_C_draftDirectory_89 f_C_38 (hC.car c hc) (by rfl) ?_
          refine cR_turnRound d_C_draftDirectory_92 v_C_167 hC hO r28 (by decide) (Nat.le_of_ble_eq_true rfl) (by decide) (by decide) (fun w hC hO => ?_)
          rw [up1_s] at hC
          have hC := hC.cgL (show up1 (up1 L (carB c + 28) _) (carB c + 28) _ = up1 L (carB c + 28) (rowTurn l0) from up1_up1)
          refine kx_aload_n d_C_draftDirectory_95 rfl (by first | rfl | exact kx_rf _) ?_
          refine kx_get _ d_C_draftDirectory_96 f_C_38 (hC.car c hc) (by rfl) ?_
          refine kx_aload_n d_C_draftDirectory_99 rfl (by first | rfl | exact kx_rf _) ?_
          refine kx_get _ d_C_draftDirectory_100 f_C_20 (hC.car c hc) (by rfl) ?_
          refine kx_iconst (nI 0) d_C_draftDirectory_103 (by decide) ?_
          refine cA_end d_C_draftDirectory_104 hC hc (by first | decide | omega) ?_
          refine kx_get _ d_C_draftDirectory_105 f_C_119 (hC.endAt he0) (by rfl) ?_
          rw [hit0]
          refine cR_append d_C_draftDirectory_108 v_C_170 hC hO r28 hit (by decide) (Nat.le_of_ble_eq_true rfl) (by decide) (by decide) (fun w hC hO => ?_)
          rw [up1_s, rowTurn_len, if_pos (show l0.length < 24 by omega)] at hC
          have hC := hC.cgL (show up1 (up1 L (carB c + 28) _) (carB c + 28) _ = up1 L (carB c + 28) (rowTurn l0 ++ [it]) from up1_up1)
          refine kx_aload_n d_C_draftDirectory_111 rfl (by first | rfl | exact kx_rf _) ?_
          refine kx_get _ d_C_draftDirectory_112 f_C_38 (hC.car c hc) (by rfl) ?_
          refine kx_aload_n d_C_draftDirectory_115 rfl (by first | rfl | exact kx_rf _) ?_
          refine cR_appendAll d_C_draftDirectory_116 v_C_173 hC hO r28 (rowN_e1 he1) m2 (by decide) (Nat.le_of_ble_eq_true rfl) (by decide) (by decide) (fun w hC hO => ?_)
          rw [up1_s, up1_n m1, hG1, hR, List.take_of_length_le (by omega)] at hC
          have hC := hC.cgL (show up1 (up1 L (carB c + 28) _) (carB c + 28) _ = up1 L (carB c + 28) R from up1_up1)
          refine kx_aload_n d_C_draftDirectory_119 rfl (by first | rfl | exact kx_rf _) ?_
          refine kx_get _ d_C_draftDirectory_120 f_C_38 (hC.car c hc) (by rfl) ?_
          refine kx_aload_n d_C_draftDirectory_123 rfl (by first | rfl | exact kx_rf _) ?_
          refine cR_hasCarTwice d_C_draftDirectory_124 v_C_176 hC hO r28 (by decide) (Nat.le_of_ble_eq_true rfl) (by decide) (by decide) (fun w hC hO => ?_)
          rw [up1_s]
          have h01 := rowTw_01 R
          refine kx_if_eq_n 140 d_C_draftDirectory_127 (by decide) (by omega) ?_ ?_
          · intro h127
            refine kx_aload_n d_C_draftDirectory_140 rfl (by first | rfl | exact kx_rf _) ?_
            refine kx_get _ d_C_draftDirectory_141 f_C_38 (hC.car c hc) (by rfl) ?_
            refine kx_iconst (nI 1) d_C_draftDirectory_144 (by decide) ?_
            rw [if_neg (show ¬ rowTw R = 1 by omega)]
            refine cR_idAt (j := 0) d_C_draftDirectory_145 v_C_180 hC r28 (by rw [up1_s]; omega) (by decide) (Nat.le_of_ble_eq_true rfl) (by decide) (by decide) ?_
            rw [up1_s]
            refine kx_aload_n d_C_draftDirectory_148 rfl (by first | rfl | exact kx_rf _) ?_
            refine kx_get _ d_C_draftDirectory_149 f_C_38 (hC.car c hc) (by rfl) ?_
            refine kx_aload_n d_C_draftDirectory_152 rfl (by first | rfl | exact kx_rf _) ?_
            refine kx_get _ d_C_draftDirectory_153 f_C_38 (hC.car c hc) (by rfl) ?_
            refine kx_get _ d_C_draftDirectory_156 f_C_76 (hC.rowObj r28) (by rfl) ?_
            rw [up1_s, show R.length = (l0.length + l1.length) + 1 by omega]
            refine cR_idAt d_C_draftDirectory_159 v_C_180 hC r28 (by rw [up1_s]; omega) (by decide) (Nat.le_of_ble_eq_true rfl) (by decide) (by decide) ?_
            rw [up1_s]
            have hx0 := hR512 _ (row_get R (show 0 < R.length by omega))
            have hx1 := hR512 _ (row_get R (show l0.length + l1.length < R.length by omega))
            refine kx_icmp_le_n 172 d_C_draftDirectory_162 (by decide) (by omega) (by omega) ?_ ?_
            · intro h162
              rw [if_neg (by omega)]
              exact kx_vret d_C_draftDirectory_172 rfl (by decide) (by decide) ⟨rfl, hC, hO⟩
            · intro h162
              rw [if_pos h162]
              refine kx_aload_n d_C_draftDirectory_165 rfl (by first | rfl | exact kx_rf _) ?_
              refine kx_get _ d_C_draftDirectory_166 f_C_38 (hC.car c hc) (by rfl) ?_
              refine cR_turnRound d_C_draftDirectory_169 v_C_167 hC hO r28 (by decide) (Nat.le_of_ble_eq_true rfl) (by decide) (by decide) (fun w hC hO => ?_)
              rw [up1_s] at hC
              have hC := hC.cgL (show up1 (up1 L (carB c + 28) _) (carB c + 28) _ = up1 L (carB c + 28) (rowTurn R) from up1_up1)
              exact kx_vret d_C_draftDirectory_172 rfl (by decide) (by decide) ⟨rfl, hC, hO⟩
          · intro h127
            refine kx_aload_n d_C_draftDirectory_130 rfl (by first | rfl | exact kx_rf _) ?_
            refine kx_get _ d_C_draftDirectory_131 f_C_38 (hC.car c hc) (by rfl) ?_
            refine cR_clear d_C_draftDirectory_134 v_C_57 hC hO r28 (by decide) (Nat.le_of_ble_eq_true rfl) (by decide) (by decide) (fun w hC hO => ?_)
            rw [if_pos (show rowTw R = 1 by omega)]
            have hC := hC.cgL (show up1 (up1 L (carB c + 28) _) (carB c + 28) _ = up1 L (carB c + 28) [] from up1_up1)
            refine kx_goto 172 d_C_draftDirectory_137 (by decide) ?_
            exact kx_vret d_C_draftDirectory_172 rfl (by decide) (by decide) ⟨rfl, hC, hO⟩
        · intro h69
          refine kx_aload_n d_C_draftDirectory_72 rfl (by first | rfl | exact kx_rf _) ?_
          refine kx_get _ d_C_draftDirectory_73 f_C_38 (hC.car c hc) (by rfl) ?_
          refine cR_clear d_C_draftDirectory_76 v_C_57 hC hO r28 (by decide) (Nat.le_of_ble_eq_true rfl) (by decide) (by decide) (fun w hC hO => ?_)
          refine kx_vret d_C_draftDirectory_79 rfl (by decide) (by decide) (hno w ?_ hC hO)
          first
            | exact Or.inl h52
            | exact Or.inr (Or.inl h64)
            | exact Or.inr (Or.inr (Decidable.byContradiction (fun q => h69 (by rw [ht, if_neg q]))))
  refine kx_aload_n d_C_draftDirectory_0 rfl (by first | rfl | exact kx_rf _) ?_
  refine kx_get _ d_C_draftDirectory_1 f_C_20 (hC.car c hc) (by rfl) ?_
  refine kx_iconst (nI 0) d_C_draftDirectory_4 (by decide) ?_
  refine cA_end d_C_draftDirectory_5 hC hc (by first | decide | omega) ?_
  refine kx_get _ d_C_draftDirectory_6 f_C_90 (hC.endAt (carE_N hc)) (by rfl) ?_
  refine kx_astore_n d_C_draftDirectory_9 (by decide) (by first | rfl | exact kx_rf _) ?_
  refine kx_aload_n d_C_draftDirectory_10 rfl (by first | rfl | exact kx_rf _) ?_
  refine kx_get _ d_C_draftDirectory_11 f_C_20 (hC.car c hc) (by rfl) ?_
  refine kx_iconst (nI 1) d_C_draftDirectory_14 (by decide) ?_
  refine cA_end d_C_draftDirectory_15 hC hc (by first | decide | omega) ?_
  refine kx_get _ d_C_draftDirectory_16 f_C_90 (hC.endAt (carE_N hc)) (by rfl) ?_
  refine kx_astore_n d_C_draftDirectory_19 (by decide) (by first | rfl | exact kx_rf _) ?_
  refine kx_aload_n d_C_draftDirectory_20 rfl (by first | rfl | exact kx_rf _) ?_
  refine kx_get _ d_C_draftDirectory_21 f_C_76 (hC.rowObj (rowN_e1 he0)) (by rfl) ?_
  rw [hG0]
  refine kx_iconst (nI 1) d_C_draftDirectory_24 (by decide) ?_
  first | refine kx_iadd _ d_C_draftDirectory_25 (nI_add _ _) ?_ | refine kx_iadd _ d_C_draftDirectory_25 rfl ?_
  refine kx_aload_n d_C_draftDirectory_26 rfl (by first | rfl | exact kx_rf _) ?_
  refine kx_get _ d_C_draftDirectory_27 f_C_76 (hC.rowObj (rowN_e1 he1)) (by rfl) ?_
  rw [hG1]
  first | refine kx_iadd _ d_C_draftDirectory_30 (nI_add _ _) ?_ | refine kx_iadd _ d_C_draftDirectory_30 rfl ?_
  refine kx_bipush (nI 24) d_C_draftDirectory_31 (by decide) ?_
  first | refine kx_icmp_le_n 40 d_C_draftDirectory_33 (by decide) (by omega) (by omega) ?_ ?_ | refine kx_icmp_le 40 d_C_draftDirectory_33 (by decide) ?_ ?_
  · intro h33
    refine kx_iconst (nI 0) d_C_draftDirectory_40 (by decide) ?_
    refine kx_loc (L1 := [(0, .ref (ad (carB c))), (1, .ref (ad 3)), (2, .ref (ad (carE c 0 + 1))), (3, .ref (ad (carE c 1 + 1)))]) ⟨rfl, rfl, rfl, rfl, trivial⟩ ?_
    refine key _ ?_
    first
      | (rw [if_pos (by omega)]; done)
      | (rw [if_neg (by omega)])
  · intro h33
    refine kx_iconst (nI 1) d_C_draftDirectory_36 (by decide) ?_
    refine kx_goto 41 d_C_draftDirectory_37 (by decide) ?_
    refine kx_loc (L1 := [(0, .ref (ad (carB c))), (1, .ref (ad 3)), (2, .ref (ad (carE c 0 + 1))), (3, .ref (ad (carE c 1 + 1)))]) ⟨rfl, rfl, rfl, rfl, trivial⟩ ?_
    refine key _ ?_
    first
      | (rw [if_pos (by omega)]; done)
      | (rw [if_neg (by omega)])
end
section
/-! Car: the directory, listening, facts -/
theorem rowNo_le (id : Nat) : ∀ (l : List Nat) (k : Nat), rowNo id l k ≤ k + l.length
  | [], _ => Nat.zero_le _
  | v :: t, k => by
    unfold rowNo
    have := rowNo_le id t (k + 1)
    rw [List.length_cons]
    split <;> omega
def dftT (c : Nat) (T : LVS) : List Nat := draftI (T.1 (carE c 0 + 1)) (T.1 (carE c 1 + 1)) (clN (T.2.2 (carE c 0) 0)) (T.2.2 (carE c 0) 7) (T.2.2 (carE c 1) 7)
def renT (c : Nat) (T : LVS) : LVS := if dftT c T = T.1 (carB c + 26) then (up1 T.1 (carB c + 28) (dftT c T), T.2.1, T.2.2)
  else (up1 (up1 T.1 (carB c + 28) (dftT c T)) (carB c + 26) (dftT c T), up1 T.2.1 (carB c + 30) (fun _ => -1), up2 (up2 T.2.2 (carB c) 7 (nI (rowNo (clN (T.2.2 (carB c) 0)) (dftT c T) 0))) (carB c) 9 (T.2.2 (carB c) 9 + nI 1))
def CT (E : kx_E) (w0 : va_W) (n : Nat) (ad : Nat → Nat) (pe bi : Nat → Option Nat) (T : LVS) (r : Option Value) : kx_O → va_W → Prop := fun o w1 => o = .inl r ∧ Cls E w1 n ad T.1 T.2.1 T.2.2 pe bi ∧ kx_off w0 w1 clsN
theorem d_C_renewDirectory_0 : decode c_C_renewDirectory 0 = .ok (.aload_n 0, 1) := by decide +kernel
theorem d_C_renewDirectory_1 : decode c_C_renewDirectory 1 = .ok (.aload_n 1, 1) := by decide +kernel
theorem d_C_renewDirectory_2 : decode c_C_renewDirectory 2 = .ok (.invokevirtual 161, 3) := by decide +kernel
theorem d_C_renewDirectory_5 : decode c_C_renewDirectory 5 = .ok (.aload_n 0, 1) := by decide +kernel
theorem d_C_renewDirectory_6 : decode c_C_renewDirectory 6 = .ok (.getfield 38, 3) := by decide +kernel
theorem d_C_renewDirectory_9 : decode c_C_renewDirectory 9 = .ok (.aload_n 0, 1) := by decide +kernel
theorem d_C_renewDirectory_10 : decode c_C_renewDirectory 10 = .ok (.getfield 34, 3) := by decide +kernel
theorem d_C_renewDirectory_13 : decode c_C_renewDirectory 13 = .ok (.invokevirtual 104, 3) := by decide +kernel
theorem d_C_renewDirectory_16 : decode c_C_renewDirectory 16 = .ok (.ifCond .eq 4, 3) := by decide +kernel
theorem d_C_renewDirectory_19 : decode c_C_renewDirectory 19 = .ok (.return_, 1) := by decide +kernel
theorem d_C_renewDirectory_20 : decode c_C_renewDirectory 20 = .ok (.aload_n 0, 1) := by decide +kernel
theorem d_C_renewDirectory_21 : decode c_C_renewDirectory 21 = .ok (.getfield 34, 3) := by decide +kernel
theorem d_C_renewDirectory_24 : decode c_C_renewDirectory 24 = .ok (.aload_n 0, 1) := by decide +kernel
theorem d_C_renewDirectory_25 : decode c_C_renewDirectory 25 = .ok (.getfield 38, 3) := by decide +kernel
theorem d_C_renewDirectory_28 : decode c_C_renewDirectory 28 = .ok (.invokevirtual 128, 3) := by decide +kernel
theorem d_C_renewDirectory_31 : decode c_C_renewDirectory 31 = .ok (.aload_n 0, 1) := by decide +kernel
theorem d_C_renewDirectory_32 : decode c_C_renewDirectory 32 = .ok (.aload_n 0, 1) := by decide +kernel
theorem d_C_renewDirectory_33 : decode c_C_renewDirectory 33 = .ok (.getfield 34, 3) := by decide +kernel
theorem d_C_renewDirectory_36 : decode c_C_renewDirectory 36 = .ok (.aload_n 0, 1) := by decide +kernel
theorem d_C_renewDirectory_37 : decode c_C_renewDirectory 37 = .ok (.getfield 9, 3) := by decide +kernel
theorem d_C_renewDirectory_40 : decode c_C_renewDirectory 40 = .ok (.invokevirtual 164, 3) := by decide +kernel
theorem d_C_renewDirectory_43 : decode c_C_renewDirectory 43 = .ok (.putfield 60, 3) := by decide +kernel
theorem d_C_renewDirectory_46 : decode c_C_renewDirectory 46 = .ok (.aload_n 0, 1) := by decide +kernel
theorem d_C_renewDirectory_47 : decode c_C_renewDirectory 47 = .ok (.getfield 41, 3) := by decide +kernel
theorem d_C_renewDirectory_50 : decode c_C_renewDirectory 50 = .ok (.iconst (-1), 1) := by decide +kernel
theorem d_C_renewDirectory_51 : decode c_C_renewDirectory 51 = .ok (.invokestatic 48, 3) := by decide +kernel
theorem d_C_renewDirectory_54 : decode c_C_renewDirectory 54 = .ok (.aload_n 0, 1) := by decide +kernel
theorem d_C_renewDirectory_55 : decode c_C_renewDirectory 55 = .ok (.dup, 1) := by decide +kernel
theorem d_C_renewDirectory_56 : decode c_C_renewDirectory 56 = .ok (.getfield 63, 3) := by decide +kernel
theorem d_C_renewDirectory_59 : decode c_C_renewDirectory 59 = .ok (.iconst 1, 1) := by decide +kernel
theorem d_C_renewDirectory_60 : decode c_C_renewDirectory 60 = .ok (.iadd, 1) := by decide +kernel
theorem d_C_renewDirectory_61 : decode c_C_renewDirectory 61 = .ok (.putfield 63, 3) := by decide +kernel
theorem d_C_renewDirectory_64 : decode c_C_renewDirectory 64 = .ok (.return_, 1) := by decide +kernel
set_option maxRecDepth 20000 in
set_option maxHeartbeats 4000000 in
theorem m_C_renewDirectory {E : kx_E} {w : va_W} {n : Nat} {ad : Nat → Nat} {pe bi : Nat → Option Nat} {T : LVS} (hC : Cls E w n ad T.1 T.2.1 T.2.2 pe bi) {c : Nat} (hc : c < n) (hI : InvS n T.2.2) : kx_S E Y_C_renewDirectory [.ref (ad (carB c)), .ref (ad 3)] w (CT E w n ad pe bi (renT c T) none) := by
  refine kx_go (by decide) rfl rfl (Nat.le_of_ble_eq_true rfl) (kx_cc rfl (kx_cc rfl kx_c0)) (fun z => ?_)
  have hO : kx_off w w clsN := kx_off.rf
  obtain ⟨id, hid, hid0⟩ := hI.id hc
  have hL : draL T.1 T.2.2 c = up1 T.1 (carB c + 28) (dftT c T) := rfl
  unfold renT
  generalize dftT c T = dl at hL ⊢
  have a1 : carB c + 26 ≠ carB c + 28 := by omega
  refine kx_aload_n d_C_renewDirectory_0 rfl (by first | rfl | exact kx_rf _) ?_
  refine kx_aload_n d_C_renewDirectory_1 rfl (by first | rfl | exact kx_rf _) ?_
  refine kx_callV (as := [.ref (ad 3)]) (rest := []) d_C_renewDirectory_2 v_C_161 rfl (hC.car c hc) rfl rfl (by decide) (by decide) (by decide) (by decide) (by decide) rfl (m_C_draftDirectory hC hc hI) (fun X w1 h => by cases h.1) (fun v w hq9 => ?_)
  obtain ⟨hv, hC, hO9⟩ := hq9
  cases hv
  have hO := hO.tr hO9 (fun _ h => h) (fun _ h => h)
  rw [hL] at hC
  refine kx_stk (st1 := []) rfl ?_
  refine kx_aload_n d_C_renewDirectory_5 rfl (by first | rfl | exact kx_rf _) ?_
  refine kx_get _ d_C_renewDirectory_6 f_C_38 (hC.car c hc) (by rfl) ?_
  refine kx_aload_n d_C_renewDirectory_9 rfl (by first | rfl | exact kx_rf _) ?_
  refine kx_get _ d_C_renewDirectory_10 f_C_34 (hC.car c hc) (by rfl) ?_
  refine cR_isSameAs d_C_renewDirectory_13 v_C_104 hC (rowN_28 hc) (rowN_26 hc) (by decide) (Nat.le_of_ble_eq_true rfl) (by decide) (by decide) ?_
  rw [up1_s, up1_n a1]
  refine kx_if_eq_n 20 d_C_renewDirectory_16 (by decide) (by split <;> decide) ?_ ?_
  · intro h16
    have hne : ¬ dl = T.1 (carB c + 26) := fun e => by rw [if_pos e] at h16; cases h16
    rw [if_neg hne]
    refine kx_aload_n d_C_renewDirectory_20 rfl (by first | rfl | exact kx_rf _) ?_
    refine kx_get _ d_C_renewDirectory_21 f_C_34 (hC.car c hc) (by rfl) ?_
    refine kx_aload_n d_C_renewDirectory_24 rfl (by first | rfl | exact kx_rf _) ?_
    refine kx_get _ d_C_renewDirectory_25 f_C_38 (hC.car c hc) (by rfl) ?_
    refine cR_copyFrom d_C_renewDirectory_28 v_C_128 hC hO (rowN_26 hc) (rowN_28 hc) a1 (by decide) (Nat.le_of_ble_eq_true rfl) (by decide) (by decide) (fun w hC hO => ?_)
    rw [up1_s] at hC
    have hdl := (hC.row _ (rowN_26 hc)).2.2.1
    rw [up1_s] at hdl
    refine kx_aload_n d_C_renewDirectory_31 rfl (by first | rfl | exact kx_rf _) ?_
    refine kx_aload_n d_C_renewDirectory_32 rfl (by first | rfl | exact kx_rf _) ?_
    refine kx_get _ d_C_renewDirectory_33 f_C_34 (hC.car c hc) (by rfl) ?_
    refine kx_aload_n d_C_renewDirectory_36 rfl (by first | rfl | exact kx_rf _) ?_
    refine kx_get _ d_C_renewDirectory_37 f_C_9 (hC.car c hc) (by rfl) ?_
    rw [hid0]
    refine cR_numberOf d_C_renewDirectory_40 v_C_164 hC (rowN_26 hc) (by omega) (by decide) (Nat.le_of_ble_eq_true rfl) (by decide) (by decide) ?_
    rw [up1_s]
    refine cC_put7 d_C_renewDirectory_43 f_C_60 hC hO hc (fun w hC hO => ?_)
    refine kx_aload_n d_C_renewDirectory_46 rfl (by first | rfl | exact kx_rf _) ?_
    refine kx_get _ d_C_renewDirectory_47 f_C_41 (hC.car c hc) (by rfl) ?_
    refine kx_iconst (-1) d_C_renewDirectory_50 (by decide) ?_
    refine cV_fill d_C_renewDirectory_51 s_C_48 hC hO (intN_30 hc) (by decide) (Nat.le_of_ble_eq_true rfl) (by decide) (by decide) (fun w hC hO => ?_)
    refine kx_aload_n d_C_renewDirectory_54 rfl (by first | rfl | exact kx_rf _) ?_
    refine kx_dup d_C_renewDirectory_55 (by first | rfl | exact kx_rfc _) ?_
    refine kx_get _ d_C_renewDirectory_56 f_C_63 (hC.car c hc) (by rfl) ?_
    rw [up2_k (by decide)]
    refine kx_iconst (nI 1) d_C_renewDirectory_59 (by decide) ?_
    refine kx_iadd _ d_C_renewDirectory_60 rfl ?_
    refine cC_put9 d_C_renewDirectory_61 f_C_63 hC hO hc (fun w hC hO => ?_)
    refine kx_vret d_C_renewDirectory_64 rfl (by decide) (by decide) ?_
    rw [clN_nI (by omega)]
    exact ⟨rfl, hC, hO⟩
  · intro h16
    have he : dl = T.1 (carB c + 26) := Decidable.byContradiction (fun e => h16 (by rw [if_neg e]))
    rw [if_pos he]
    exact kx_vret d_C_renewDirectory_19 rfl (by decide) (by decide) ⟨rfl, hC, hO⟩
theorem dft_len {n c : Nat} {T : LVS} (h0 : (T.1 (carE c 0 + 1)).length ≤ 24) : (dftT c T).length ≤ 24 := by
  unfold dftT draftI
  split
  · exact Nat.zero_le _
  · rename_i h
    split
    · exact Nat.zero_le _
    · split
      · rw [rowTurn_len, List.length_append, List.length_append, rowTurn_len]; simp only [List.length_singleton]; omega
      · rw [List.length_append, List.length_append, rowTurn_len]; simp only [List.length_singleton]; omega
theorem renT_inv {n c : Nat} {T : LVS} (hI : InvS n T.2.2) (h0 : (T.1 (carE c 0 + 1)).length ≤ 24) : InvS n (renT c T).2.2 := by
  unfold renT
  split
  · exact hI
  · refine (hI.up (okUp_c (fun _ => ⟨_, ?_, rfl⟩) (by decide))).up (okUp_c (fun h => by cases h) (by decide))
    have := rowNo_le (clN (T.2.2 (carB c) 0)) (dftT c T) 0
    have := dft_len (n := n) (c := c) (T := T) h0
    omega
def incQ (pe : Nat → Option Nat) (S : Nat → Nat → Int32) (losses : Int32) (e : Nat) : Option Nat := match pe e with
  | none => none
  | some q => if lostI losses (S e 6) = true then none else some q
theorem incE_Q (pe : Nat → Option Nat) (S : Nat → Nat → Int32) (losses : Int32) (e : Nat) (ad : Nat → Nat) : (incE pe S losses e).map ad = (incQ pe S losses e).map (fun q => ad (q + 5)) := by
  unfold incE incQ
  cases pe e with
  | none => rfl
  | some q => dsimp only; split <;> rfl
theorem incQ_N {n : Nat} {pe : Nat → Option Nat} {S : Nat → Nat → Int32} {losses : Int32} {e : Nat} (hp : peOk n pe) (he : endN n e) : ∀ q, incQ pe S losses e = some q → endN n q := by
  intro q h
  unfold incQ at h
  cases hpe : pe e with
  | none => rw [hpe] at h; cases h
  | some r =>
    rw [hpe] at h
    dsimp only at h
    split at h
    · cases h
    · cases h; exact hp e _ he hpe
def lookT (e : Nat) (o : Option Nat) (T : LVS) : LVS := match o with
  | none => (silL T.1 e (clN (T.2.2 e 8)), T.2.1, silS T.2.2 e (clN (T.2.2 e 8)))
  | some q => (heaL T.1 e (q + 5) (clN (T.2.2 (q + 5) 4)), T.2.1, heaS T.2.2 e (q + 5))
def growT (c : Nat) (T : LVS) : LVS := (T.1, up1 T.2.1 (carB c + 30) (growV (T.2.1 (carB c + 30)) (T.1 (carB c + 26)).length), T.2.2)
def heeT (c : Nat) (o : Option Nat) (T : LVS) : LVS := match o with
  | none => T
  | some q => (T.1, heeV T.1 T.2.1 c q (clN (T.2.2 (carB c) 7)), heeS T.1 T.2.2 c q)
def oneI (o : Option Nat) : Nat := match o with
  | none => 0
  | some _ => 1
theorem lookT_inv {n e : Nat} {o : Option Nat} {T : LVS} (hI : InvS n T.2.2) (he : endN n e) (ho : ∀ q, o = some q → endN n q) : InvS n (lookT e o T).2.2 := by
  cases o with
  | none =>
    obtain ⟨s, h4, hs⟩ := hI.sil he
    show InvS n (silS T.2.2 e (clN (T.2.2 e 8)))
    rw [hs, clN_nI (by omega)]
    unfold silS
    split
    · exact hI.up (okUp_e he (fun _ => ⟨s + 1, by omega, rfl⟩) (fun h => by cases h) (by decide))
    · exact (hI.up (okUp_e he (fun _ => ⟨4, by omega, rfl⟩) (fun h => by cases h) (by decide))).up (okUp_e he (fun h => by cases h) (fun _ => Or.inr rfl) (by decide))
  | some q =>
    show InvS n (heaS T.2.2 e (q + 5))
    unfold heaS
    exact (hI.up (okUp_e he (fun _ => ⟨0, by omega, rfl⟩) (fun h => by cases h) (by decide))).up (okUp_e he (fun h => by cases h) (fun _ => hI.fwh (ho q rfl)) (by decide))
theorem heeT_inv {n c : Nat} {o : Option Nat} {T : LVS} (hI : InvS n T.2.2) : InvS n (heeT c o T).2.2 := by
  cases o with
  | none => exact hI
  | some q =>
    show InvS n (heeS T.1 T.2.2 c q)
    unfold heeS
    split
    · exact hI.up (okUp_c (fun h => by cases h) (by decide))
    · exact hI
set_option maxRecDepth 20000 in
set_option maxHeartbeats 4000000 in
theorem m_N_lookT {E : kx_E} {w : va_W} {n : Nat} {ad : Nat → Nat} {pe bi : Nat → Option Nat} {T : LVS} (hC : Cls E w n ad T.1 T.2.1 T.2.2 pe bi) {e : Nat} {o : Option Nat} (he : endN n e) (ho : ∀ q, o = some q → endN n q) (hI : InvS n T.2.2) : kx_S E Y_N_lookInto [.ref (ad e), va_rf (o.map (fun q => ad (q + 5)))] w (CT E w n ad pe bi (lookT e o T) none) := by
  cases o with
  | none =>
    obtain ⟨s, h4, hs⟩ := hI.sil he
    have h := m_N_lookInto_no hC he hs h4
    have e1 : lookT e none T = (silL T.1 e s, T.2.1, silS T.2.2 e s) := by unfold lookT; dsimp only; rw [hs, clN_nI (by omega)]
    rw [e1]
    exact h
  | some q =>
    obtain ⟨s, h5, hs⟩ := hI.snd (ho q rfl)
    have h := m_N_lookInto hC he (ho q rfl) hs h5 (hI.fwh (ho q rfl))
    have e1 : lookT e (some q) T = (heaL T.1 e (q + 5) s, T.2.1, heaS T.2.2 e (q + 5)) := by unfold lookT; dsimp only; rw [hs, clN_nI (by omega)]
    rw [e1]
    exact h
theorem m_C_heedT {E : kx_E} {w : va_W} {n : Nat} {ad : Nat → Nat} {pe bi : Nat → Option Nat} {T : LVS} (hC : Cls E w n ad T.1 T.2.1 T.2.2 pe bi) {c : Nat} {o : Option Nat} (hc : c < n) (ho : ∀ q, o = some q → endN n q) (hI : InvS n T.2.2) : kx_S E Y_C_heed [.ref (ad (carB c)), va_rf (o.map (fun q => ad (q + 5)))] w (CT E w n ad pe bi (heeT c o T) (some (.int (nI (oneI o))))) := by
  cases o with
  | none => exact m_C_heed_no hC hc
  | some q =>
    obtain ⟨num, h24, hn⟩ := hI.num hc
    have h := m_C_heed hC hc (ho q rfl) hn h24
    have e1 : heeT c (some q) T = (T.1, heeV T.1 T.2.1 c q num, heeS T.1 T.2.2 c q) := by unfold heeT; dsimp only; rw [hn, clN_nI (by omega)]
    rw [e1]
    exact h
def lisT (pe : Nat → Option Nat) (losses : Int32) (c : Nat) (T : LVS) : LVS :=
  heeT c (incQ pe T.2.2 losses (carE c 1)) (heeT c (incQ pe T.2.2 losses (carE c 0)) (growT c (renT c (lookT (carE c 1) (incQ pe T.2.2 losses (carE c 1)) (lookT (carE c 0) (incQ pe T.2.2 losses (carE c 0)) T)))))
def lisN (pe : Nat → Option Nat) (S : Nat → Nat → Int32) (losses : Int32) (c : Nat) : Nat := oneI (incQ pe S losses (carE c 0)) + oneI (incQ pe S losses (carE c 1))
theorem d_C_listen_0 : decode c_C_listen 0 = .ok (.aload_n 0, 1) := by decide +kernel
theorem d_C_listen_1 : decode c_C_listen 1 = .ok (.getfield 20, 3) := by decide +kernel
theorem d_C_listen_4 : decode c_C_listen 4 = .ok (.iconst 0, 1) := by decide +kernel
theorem d_C_listen_5 : decode c_C_listen 5 = .ok (.aaload, 1) := by decide +kernel
theorem d_C_listen_6 : decode c_C_listen 6 = .ok (.iload_n 1, 1) := by decide +kernel
theorem d_C_listen_7 : decode c_C_listen 7 = .ok (.invokevirtual 142, 3) := by decide +kernel
theorem d_C_listen_10 : decode c_C_listen 10 = .ok (.astore_n 3, 1) := by decide +kernel
theorem d_C_listen_11 : decode c_C_listen 11 = .ok (.aload_n 0, 1) := by decide +kernel
theorem d_C_listen_12 : decode c_C_listen 12 = .ok (.getfield 20, 3) := by decide +kernel
theorem d_C_listen_15 : decode c_C_listen 15 = .ok (.iconst 1, 1) := by decide +kernel
theorem d_C_listen_16 : decode c_C_listen 16 = .ok (.aaload, 1) := by decide +kernel
theorem d_C_listen_17 : decode c_C_listen 17 = .ok (.iload_n 1, 1) := by decide +kernel
theorem d_C_listen_18 : decode c_C_listen 18 = .ok (.invokevirtual 142, 3) := by decide +kernel
theorem d_C_listen_21 : decode c_C_listen 21 = .ok (.astore 4, 2) := by decide +kernel
theorem d_C_listen_23 : decode c_C_listen 23 = .ok (.aload_n 0, 1) := by decide +kernel
theorem d_C_listen_24 : decode c_C_listen 24 = .ok (.getfield 20, 3) := by decide +kernel
theorem d_C_listen_27 : decode c_C_listen 27 = .ok (.iconst 0, 1) := by decide +kernel
theorem d_C_listen_28 : decode c_C_listen 28 = .ok (.aaload, 1) := by decide +kernel
theorem d_C_listen_29 : decode c_C_listen 29 = .ok (.aload_n 3, 1) := by decide +kernel
theorem d_C_listen_30 : decode c_C_listen 30 = .ok (.invokevirtual 146, 3) := by decide +kernel
theorem d_C_listen_33 : decode c_C_listen 33 = .ok (.aload_n 0, 1) := by decide +kernel
theorem d_C_listen_34 : decode c_C_listen 34 = .ok (.getfield 20, 3) := by decide +kernel
theorem d_C_listen_37 : decode c_C_listen 37 = .ok (.iconst 1, 1) := by decide +kernel
theorem d_C_listen_38 : decode c_C_listen 38 = .ok (.aaload, 1) := by decide +kernel
theorem d_C_listen_39 : decode c_C_listen 39 = .ok (.aload 4, 2) := by decide +kernel
theorem d_C_listen_41 : decode c_C_listen 41 = .ok (.invokevirtual 146, 3) := by decide +kernel
theorem d_C_listen_44 : decode c_C_listen 44 = .ok (.aload_n 0, 1) := by decide +kernel
theorem d_C_listen_45 : decode c_C_listen 45 = .ok (.aload_n 2, 1) := by decide +kernel
theorem d_C_listen_46 : decode c_C_listen 46 = .ok (.invokevirtual 150, 3) := by decide +kernel
theorem d_C_listen_49 : decode c_C_listen 49 = .ok (.aload_n 0, 1) := by decide +kernel
theorem d_C_listen_50 : decode c_C_listen 50 = .ok (.invokevirtual 154, 3) := by decide +kernel
theorem d_C_listen_53 : decode c_C_listen 53 = .ok (.aload_n 0, 1) := by decide +kernel
theorem d_C_listen_54 : decode c_C_listen 54 = .ok (.aload_n 3, 1) := by decide +kernel
theorem d_C_listen_55 : decode c_C_listen 55 = .ok (.invokevirtual 157, 3) := by decide +kernel
theorem d_C_listen_58 : decode c_C_listen 58 = .ok (.aload_n 0, 1) := by decide +kernel
theorem d_C_listen_59 : decode c_C_listen 59 = .ok (.aload 4, 2) := by decide +kernel
theorem d_C_listen_61 : decode c_C_listen 61 = .ok (.invokevirtual 157, 3) := by decide +kernel
theorem d_C_listen_64 : decode c_C_listen 64 = .ok (.iadd, 1) := by decide +kernel
theorem d_C_listen_65 : decode c_C_listen 65 = .ok (.ireturn, 1) := by decide +kernel
set_option maxRecDepth 20000 in
set_option maxHeartbeats 4000000 in
theorem m_C_listen {E : kx_E} {w : va_W} {n : Nat} {ad : Nat → Nat} {pe bi : Nat → Option Nat} {T : LVS} (hC : Cls E w n ad T.1 T.2.1 T.2.2 pe bi) (hp : peOk n pe) {c : Nat} (hc : c < n) (hI : InvS n T.2.2) (losses : Int32) : kx_S E Y_C_listen [.ref (ad (carB c)), .int losses, .ref (ad 3)] w (fun o w1 => CT E w n ad pe bi (lisT pe losses c T) (some (.int (nI (lisN pe T.2.2 losses c)))) o w1) := by
  refine kx_go (by decide) rfl rfl (Nat.le_of_ble_eq_true rfl) (kx_cc rfl (kx_cc rfl (kx_cc rfl kx_c0))) (fun z => ?_)
  have hO : kx_off w w clsN := kx_off.rf
  unfold lisT lisN
  obtain ⟨o0, hq0⟩ : ∃ o, incQ pe T.2.2 losses (carE c 0) = o := ⟨_, rfl⟩
  obtain ⟨o1, hq1⟩ : ∃ o, incQ pe T.2.2 losses (carE c 1) = o := ⟨_, rfl⟩
  rw [hq0, hq1]
  have ho0 : ∀ q, o0 = some q → endN n q := by rw [← hq0]; exact incQ_N hp (carE_N hc)
  have ho1 : ∀ q, o1 = some q → endN n q := by rw [← hq1]; exact incQ_N hp (carE_N hc)
  have e0 : endN n (carE c 0) := carE_N hc
  have e1 : endN n (carE c 1) := carE_N hc
  have I1 := lookT_inv hI e0 ho0
  have I2 := lookT_inv I1 e1 ho1
  refine kx_aload_n d_C_listen_0 rfl (by first | rfl | exact kx_rf _) ?_
  refine kx_get _ d_C_listen_1 f_C_20 (hC.car c hc) (by rfl) ?_
  refine kx_iconst (nI 0) d_C_listen_4 (by decide) ?_
  refine cA_end d_C_listen_5 hC hc (by first | decide | omega) ?_
  refine kx_iload_n d_C_listen_6 rfl ?_
  refine kx_callV (as := [.int losses]) (rest := []) d_C_listen_7 v_C_142 rfl (hC.endAt (carE_N hc)) rfl rfl (by decide) (by decide) (by decide) (by decide) (by decide) rfl (m_N_incoming hC hp (carE_N (i := 0) hc)) (fun X w1 h => by cases h.1) (fun v w1 hq9 => ?_)
  obtain ⟨hv, hw9⟩ := hq9
  cases hv
  subst hw9
  rw [incE_Q, hq0]
  refine kx_stk (st1 := [va_rf (o0.map (fun q => ad (q + 5)))]) rfl ?_
  refine kx_astore_n d_C_listen_10 (by decide) (by first | rfl | exact kx_rf _) ?_
  refine kx_aload_n d_C_listen_11 rfl (by first | rfl | exact kx_rf _) ?_
  refine kx_get _ d_C_listen_12 f_C_20 (hC.car c hc) (by rfl) ?_
  refine kx_iconst (nI 1) d_C_listen_15 (by decide) ?_
  refine cA_end d_C_listen_16 hC hc (by first | decide | omega) ?_
  refine kx_iload_n d_C_listen_17 rfl ?_
  refine kx_callV (as := [.int losses]) (rest := []) d_C_listen_18 v_C_142 rfl (hC.endAt (carE_N hc)) rfl rfl (by decide) (by decide) (by decide) (by decide) (by decide) rfl (m_N_incoming hC hp (carE_N (i := 1) hc)) (fun X w1 h => by cases h.1) (fun v w1 hq9 => ?_)
  obtain ⟨hv, hw9⟩ := hq9
  cases hv
  subst hw9
  rw [incE_Q, hq1]
  refine kx_stk (st1 := [va_rf (o1.map (fun q => ad (q + 5)))]) rfl ?_
  refine kx_astore d_C_listen_21 (by decide) (by first | rfl | exact kx_rf _) ?_
  refine kx_aload_n d_C_listen_23 rfl (by first | rfl | exact kx_rf _) ?_
  refine kx_get _ d_C_listen_24 f_C_20 (hC.car c hc) (by rfl) ?_
  refine kx_iconst (nI 0) d_C_listen_27 (by decide) ?_
  refine cA_end d_C_listen_28 hC hc (by first | decide | omega) ?_
  refine kx_aload_n d_C_listen_29 rfl (by first | rfl | exact kx_rf _) ?_
  refine kx_callV (as := [va_rf (o0.map (fun q => ad (q + 5)))]) (rest := []) d_C_listen_30 v_C_146 rfl (hC.endAt e0) rfl rfl (by decide) (by decide) (Nat.le_of_ble_eq_true rfl) (by decide) (by decide) rfl (m_N_lookT hC e0 ho0 hI) (fun X w1 h => by cases h.1) (fun v w hq9 => ?_)
  obtain ⟨hv, hC, hO9⟩ := hq9
  cases hv
  have hO := hO.tr hO9 (fun _ h => h) (fun _ h => h)
  refine kx_stk (st1 := []) rfl ?_
  refine kx_aload_n d_C_listen_33 rfl (by first | rfl | exact kx_rf _) ?_
  refine kx_get _ d_C_listen_34 f_C_20 (hC.car c hc) (by rfl) ?_
  refine kx_iconst (nI 1) d_C_listen_37 (by decide) ?_
  refine cA_end d_C_listen_38 hC hc (by first | decide | omega) ?_
  refine kx_aload d_C_listen_39 rfl (by first | rfl | exact kx_rf _) ?_
  refine kx_callV (as := [va_rf (o1.map (fun q => ad (q + 5)))]) (rest := []) d_C_listen_41 v_C_146 rfl (hC.endAt e1) rfl rfl (by decide) (by decide) (Nat.le_of_ble_eq_true rfl) (by decide) (by decide) rfl (m_N_lookT hC e1 ho1 I1) (fun X w1 h => by cases h.1) (fun v w hq9 => ?_)
  obtain ⟨hv, hC, hO9⟩ := hq9
  cases hv
  have hO := hO.tr hO9 (fun _ h => h) (fun _ h => h)
  refine kx_stk (st1 := []) rfl ?_
  have I3 := renT_inv (c := c) I2 (hC.row _ (rowN_e1 e0)).2.2.1
  refine kx_aload_n d_C_listen_44 rfl (by first | rfl | exact kx_rf _) ?_
  refine kx_aload_n d_C_listen_45 rfl (by first | rfl | exact kx_rf _) ?_
  refine kx_callV (as := [.ref (ad 3)]) (rest := []) d_C_listen_46 v_C_150 rfl (hC.car c hc) rfl rfl (by decide) (by decide) (Nat.le_of_ble_eq_true rfl) (by decide) (by decide) rfl (m_C_renewDirectory hC hc I2) (fun X w1 h => by cases h.1) (fun v w hq9 => ?_)
  obtain ⟨hv, hC, hO9⟩ := hq9
  cases hv
  have hO := hO.tr hO9 (fun _ h => h) (fun _ h => h)
  refine kx_stk (st1 := []) rfl ?_
  refine kx_aload_n d_C_listen_49 rfl (by first | rfl | exact kx_rf _) ?_
  refine kx_callV (as := []) (rest := []) d_C_listen_50 v_C_154 rfl (hC.car c hc) rfl rfl (by decide) (by decide) (Nat.le_of_ble_eq_true rfl) (by decide) (by decide) rfl (m_C_growOlder hC hc) (fun X w1 h => by cases h.1) (fun v w hq9 => ?_)
  obtain ⟨hv, hC, hO9⟩ := hq9
  cases hv
  have hO := hO.tr hO9 (fun _ h => h) (fun _ h => h)
  refine kx_stk (st1 := []) rfl ?_
  have hC : Cls E w n ad (growT c (renT c (lookT (carE c 1) o1 (lookT (carE c 0) o0 T)))).1 (growT c (renT c (lookT (carE c 1) o1 (lookT (carE c 0) o0 T)))).2.1 (growT c (renT c (lookT (carE c 1) o1 (lookT (carE c 0) o0 T)))).2.2 pe bi := hC
  refine kx_aload_n d_C_listen_53 rfl (by first | rfl | exact kx_rf _) ?_
  refine kx_aload_n d_C_listen_54 rfl (by first | rfl | exact kx_rf _) ?_
  refine kx_callV (as := [va_rf (o0.map (fun q => ad (q + 5)))]) (rest := []) d_C_listen_55 v_C_157 rfl (hC.car c hc) rfl rfl (by decide) (by decide) (Nat.le_of_ble_eq_true rfl) (by decide) (by decide) rfl (m_C_heedT hC hc ho0 I3) (fun X w1 h => by cases h.1) (fun v w hq9 => ?_)
  obtain ⟨hv, hC, hO9⟩ := hq9
  cases hv
  have hO := hO.tr hO9 (fun _ h => h) (fun _ h => h)
  refine kx_stk (st1 := [.int (nI (oneI o0))]) rfl ?_
  have I4 := heeT_inv (c := c) (o := o0) (T := growT c (renT c (lookT (carE c 1) o1 (lookT (carE c 0) o0 T)))) I3
  refine kx_aload_n d_C_listen_58 rfl (by first | rfl | exact kx_rf _) ?_
  refine kx_aload d_C_listen_59 rfl (by first | rfl | exact kx_rf _) ?_
  refine kx_callV (as := [va_rf (o1.map (fun q => ad (q + 5)))]) (rest := [.int (nI (oneI o0))]) d_C_listen_61 v_C_157 rfl (hC.car c hc) rfl rfl (by decide) (by decide) (Nat.le_of_ble_eq_true rfl) (by decide) (by decide) rfl (m_C_heedT hC hc ho1 I4) (fun X w1 h => by cases h.1) (fun v w hq9 => ?_)
  obtain ⟨hv, hC, hO9⟩ := hq9
  cases hv
  have hO := hO.tr hO9 (fun _ h => h) (fun _ h => h)
  refine kx_stk (st1 := [.int (nI (oneI o1)), .int (nI (oneI o0))]) rfl ?_
  first | refine kx_iadd _ d_C_listen_64 (nI_add _ _) ?_ | refine kx_iadd _ d_C_listen_64 rfl ?_
  refine kx_iret d_C_listen_65 rfl (by decide) (by decide) ?_
  exact ⟨rfl, hC, hO⟩
def flipI (l : List Nat) (num : Nat) : Nat := if 1 ≤ num ∧ num ≤ l.length ∧ l.getD (num - 1) 0 % 2 = 1 then 1 else 0
def boolI (b : Int32) : Nat := if b = 0 then 0 else 1
theorem d_C_fact_0 : decode c_C_fact 0 = .ok (.iload_n 1, 1) := by decide +kernel
theorem d_C_fact_1 : decode c_C_fact 1 = .ok (.tableswitch 162 0 11 #[63, 68, 73, 94, 102, 107, 112, 112, 125, 125, 141, 141], 63) := by decide +kernel
theorem d_C_fact_64 : decode c_C_fact 64 = .ok (.aload_n 0, 1) := by decide +kernel
theorem d_C_fact_65 : decode c_C_fact 65 = .ok (.invokevirtual 79, 3) := by decide +kernel
theorem d_C_fact_68 : decode c_C_fact 68 = .ok (.ireturn, 1) := by decide +kernel
theorem d_C_fact_69 : decode c_C_fact 69 = .ok (.aload_n 0, 1) := by decide +kernel
theorem d_C_fact_70 : decode c_C_fact 70 = .ok (.getfield 60, 3) := by decide +kernel
theorem d_C_fact_73 : decode c_C_fact 73 = .ok (.ireturn, 1) := by decide +kernel
theorem d_C_fact_74 : decode c_C_fact 74 = .ok (.aload_n 0, 1) := by decide +kernel
theorem d_C_fact_75 : decode c_C_fact 75 = .ok (.getfield 34, 3) := by decide +kernel
theorem d_C_fact_78 : decode c_C_fact 78 = .ok (.aload_n 0, 1) := by decide +kernel
theorem d_C_fact_79 : decode c_C_fact 79 = .ok (.getfield 60, 3) := by decide +kernel
theorem d_C_fact_82 : decode c_C_fact 82 = .ok (.invokevirtual 83, 3) := by decide +kernel
theorem d_C_fact_85 : decode c_C_fact 85 = .ok (.iconst 1, 1) := by decide +kernel
theorem d_C_fact_86 : decode c_C_fact 86 = .ok (.if_icmp .ne 7, 3) := by decide +kernel
theorem d_C_fact_89 : decode c_C_fact 89 = .ok (.iconst 1, 1) := by decide +kernel
theorem d_C_fact_90 : decode c_C_fact 90 = .ok (.goto 4, 3) := by decide +kernel
theorem d_C_fact_93 : decode c_C_fact 93 = .ok (.iconst 0, 1) := by decide +kernel
theorem d_C_fact_94 : decode c_C_fact 94 = .ok (.ireturn, 1) := by decide +kernel
theorem d_C_fact_95 : decode c_C_fact 95 = .ok (.aload_n 0, 1) := by decide +kernel
theorem d_C_fact_96 : decode c_C_fact 96 = .ok (.getfield 34, 3) := by decide +kernel
theorem d_C_fact_99 : decode c_C_fact 99 = .ok (.getfield 76, 3) := by decide +kernel
theorem d_C_fact_102 : decode c_C_fact 102 = .ok (.ireturn, 1) := by decide +kernel
theorem d_C_fact_103 : decode c_C_fact 103 = .ok (.aload_n 0, 1) := by decide +kernel
theorem d_C_fact_104 : decode c_C_fact 104 = .ok (.getfield 66, 3) := by decide +kernel
theorem d_C_fact_107 : decode c_C_fact 107 = .ok (.ireturn, 1) := by decide +kernel
theorem d_C_fact_108 : decode c_C_fact 108 = .ok (.aload_n 0, 1) := by decide +kernel
theorem d_C_fact_109 : decode c_C_fact 109 = .ok (.getfield 63, 3) := by decide +kernel
theorem d_C_fact_112 : decode c_C_fact 112 = .ok (.ireturn, 1) := by decide +kernel
theorem d_C_fact_113 : decode c_C_fact 113 = .ok (.aload_n 0, 1) := by decide +kernel
theorem d_C_fact_114 : decode c_C_fact 114 = .ok (.getfield 20, 3) := by decide +kernel
theorem d_C_fact_117 : decode c_C_fact 117 = .ok (.iload_n 1, 1) := by decide +kernel
theorem d_C_fact_118 : decode c_C_fact 118 = .ok (.bipush 6, 2) := by decide +kernel
theorem d_C_fact_120 : decode c_C_fact 120 = .ok (.isub, 1) := by decide +kernel
theorem d_C_fact_121 : decode c_C_fact 121 = .ok (.aaload, 1) := by decide +kernel
theorem d_C_fact_122 : decode c_C_fact 122 = .ok (.getfield 87, 3) := by decide +kernel
theorem d_C_fact_125 : decode c_C_fact 125 = .ok (.ireturn, 1) := by decide +kernel
theorem d_C_fact_126 : decode c_C_fact 126 = .ok (.aload_n 0, 1) := by decide +kernel
theorem d_C_fact_127 : decode c_C_fact 127 = .ok (.getfield 20, 3) := by decide +kernel
theorem d_C_fact_130 : decode c_C_fact 130 = .ok (.iload_n 1, 1) := by decide +kernel
theorem d_C_fact_131 : decode c_C_fact 131 = .ok (.bipush 8, 2) := by decide +kernel
theorem d_C_fact_133 : decode c_C_fact 133 = .ok (.isub, 1) := by decide +kernel
theorem d_C_fact_134 : decode c_C_fact 134 = .ok (.aaload, 1) := by decide +kernel
theorem d_C_fact_135 : decode c_C_fact 135 = .ok (.getfield 90, 3) := by decide +kernel
theorem d_C_fact_138 : decode c_C_fact 138 = .ok (.getfield 76, 3) := by decide +kernel
theorem d_C_fact_141 : decode c_C_fact 141 = .ok (.ireturn, 1) := by decide +kernel
theorem d_C_fact_142 : decode c_C_fact 142 = .ok (.aload_n 0, 1) := by decide +kernel
theorem d_C_fact_143 : decode c_C_fact 143 = .ok (.getfield 20, 3) := by decide +kernel
theorem d_C_fact_146 : decode c_C_fact 146 = .ok (.iload_n 1, 1) := by decide +kernel
theorem d_C_fact_147 : decode c_C_fact 147 = .ok (.bipush 10, 2) := by decide +kernel
theorem d_C_fact_149 : decode c_C_fact 149 = .ok (.isub, 1) := by decide +kernel
theorem d_C_fact_150 : decode c_C_fact 150 = .ok (.aaload, 1) := by decide +kernel
theorem d_C_fact_151 : decode c_C_fact 151 = .ok (.getfield 93, 3) := by decide +kernel
theorem d_C_fact_154 : decode c_C_fact 154 = .ok (.ifCond .eq 7, 3) := by decide +kernel
theorem d_C_fact_157 : decode c_C_fact 157 = .ok (.iconst 1, 1) := by decide +kernel
theorem d_C_fact_158 : decode c_C_fact 158 = .ok (.goto 4, 3) := by decide +kernel
theorem d_C_fact_161 : decode c_C_fact 161 = .ok (.iconst 0, 1) := by decide +kernel
theorem d_C_fact_162 : decode c_C_fact 162 = .ok (.ireturn, 1) := by decide +kernel
theorem d_C_fact_163 : decode c_C_fact 163 = .ok (.iconst (-1), 1) := by decide +kernel
theorem d_C_fact_164 : decode c_C_fact 164 = .ok (.ireturn, 1) := by decide +kernel
set_option maxRecDepth 20000 in
set_option maxHeartbeats 4000000 in
theorem m_C_fact_0 {E : kx_E} {w : va_W} {n : Nat} {ad : Nat → Nat} {pe bi : Nat → Option Nat} {T : LVS} (hC : Cls E w n ad T.1 T.2.1 T.2.2 pe bi) {c : Nat} (hc : c < n) (hI : InvS n T.2.2) : kx_S E Y_C_fact [.ref (ad (carB c)), .int (nI 0)] w (kx_Qi w (nI (staI T.1 c (clN (T.2.2 (carE c 0) 8)) (clN (T.2.2 (carE c 1) 8))))) := by
  refine kx_go (by decide) rfl rfl (Nat.le_of_ble_eq_true rfl) (kx_cc rfl (kx_cc rfl kx_c0)) (fun z => ?_)
  have hO : kx_off w w clsN := kx_off.rf
  obtain ⟨s0, h40, hs0⟩ := hI.sil (carE_N (i := 0) hc)
  obtain ⟨s1, h41, hs1⟩ := hI.sil (carE_N (i := 1) hc)
  rw [hs0, hs1, clN_nI (by omega), clN_nI (by omega)]
  refine kx_iload_n d_C_fact_0 rfl ?_
  refine kx_tabIn (off := 63) 64 d_C_fact_1 (by decide) (by decide) (by decide) (by decide) ?_
  refine kx_aload_n d_C_fact_64 rfl (by first | rfl | exact kx_rf _) ?_
  refine kx_callV (as := []) (rest := []) d_C_fact_65 v_C_79 rfl (hC.car c hc) rfl rfl (by decide) (by decide) (by decide) (by decide) (by decide) rfl (m_C_state hC hc hs0 hs1 h40 h41) (fun X w1 h => by cases h.1) (fun v w1 hq9 => ?_)
  obtain ⟨hv, hw9⟩ := hq9
  cases hv
  subst hw9
  refine kx_stk (st1 := [.int (nI (staI T.1 c s0 s1))]) rfl ?_
  refine kx_iret d_C_fact_68 rfl (by decide) (by decide) ?_
  exact ⟨rfl, rfl⟩
set_option maxRecDepth 20000 in
set_option maxHeartbeats 4000000 in
theorem m_C_fact_1 {E : kx_E} {w : va_W} {n : Nat} {ad : Nat → Nat} {pe bi : Nat → Option Nat} {T : LVS} (hC : Cls E w n ad T.1 T.2.1 T.2.2 pe bi) {c : Nat} (hc : c < n) (hI : InvS n T.2.2) : kx_S E Y_C_fact [.ref (ad (carB c)), .int (nI 1)] w (kx_Qi w (T.2.2 (carB c) 7)) := by
  refine kx_go (by decide) rfl rfl (Nat.le_of_ble_eq_true rfl) (kx_cc rfl (kx_cc rfl kx_c0)) (fun z => ?_)
  have hO : kx_off w w clsN := kx_off.rf
  refine kx_iload_n d_C_fact_0 rfl ?_
  refine kx_tabIn (off := 68) 69 d_C_fact_1 (by decide) (by decide) (by decide) (by decide) ?_
  refine kx_aload_n d_C_fact_69 rfl (by first | rfl | exact kx_rf _) ?_
  refine kx_get _ d_C_fact_70 f_C_60 (hC.car c hc) (by rfl) ?_
  refine kx_iret d_C_fact_73 rfl (by decide) (by decide) ?_
  exact ⟨rfl, rfl⟩
set_option maxRecDepth 20000 in
set_option maxHeartbeats 4000000 in
theorem m_C_fact_2 {E : kx_E} {w : va_W} {n : Nat} {ad : Nat → Nat} {pe bi : Nat → Option Nat} {T : LVS} (hC : Cls E w n ad T.1 T.2.1 T.2.2 pe bi) {c : Nat} (hc : c < n) (hI : InvS n T.2.2) : kx_S E Y_C_fact [.ref (ad (carB c)), .int (nI 2)] w (kx_Qi w (nI (flipI (T.1 (carB c + 26)) (clN (T.2.2 (carB c) 7))))) := by
  refine kx_go (by decide) rfl rfl (Nat.le_of_ble_eq_true rfl) (kx_cc rfl (kx_cc rfl kx_c0)) (fun z => ?_)
  have hO : kx_off w w clsN := kx_off.rf
  obtain ⟨num, h24, hn⟩ := hI.num hc
  rw [hn, clN_nI (by omega)]
  have hl := (hC.row _ (rowN_26 hc)).2.2.1
  have kno : (num < 1 ∨ (T.1 (carB c + 26)).length < num) → flipI (T.1 (carB c + 26)) num = 0 := by intro h; unfold flipI; rw [if_neg (fun q => by omega)]
  refine kx_iload_n d_C_fact_0 rfl ?_
  refine kx_tabIn (off := 73) 74 d_C_fact_1 (by decide) (by decide) (by decide) (by decide) ?_
  refine kx_aload_n d_C_fact_74 rfl (by first | rfl | exact kx_rf _) ?_
  refine kx_get _ d_C_fact_75 f_C_34 (hC.car c hc) (by rfl) ?_
  refine kx_aload_n d_C_fact_78 rfl (by first | rfl | exact kx_rf _) ?_
  refine kx_get _ d_C_fact_79 f_C_60 (hC.car c hc) (by rfl) ?_
  rw [hn]
  by_cases hq : num < 1 ∨ (T.1 (carB c + 26)).length < num
  · refine cR_endAt_no d_C_fact_82 v_C_83 hC (rowN_26 hc) (by rcases hq with h | h; exact Or.inl ((nI_ltI (by omega) (by decide)).mpr h); exact Or.inr ((nI_ltI (by omega) (by omega)).mpr h)) (by decide) (Nat.le_of_ble_eq_true rfl) (by decide) (by decide) ?_
    refine kx_iconst (nI 1) d_C_fact_85 (by decide) ?_
    refine kx_icmp_ne 93 d_C_fact_86 (by decide) ?_ ?_
    · intro h86
      refine kx_iconst (nI 0) d_C_fact_93 (by decide) ?_
      refine kx_iret d_C_fact_94 rfl (by decide) (by decide) ?_
      rw [kno hq]
      first
        | exact ⟨rfl, rfl⟩
        | exact absurd h86 (by decide)
    · intro h86
      refine kx_iconst (nI 1) d_C_fact_89 (by decide) ?_
      refine kx_goto 94 d_C_fact_90 (by decide) ?_
      refine kx_iret d_C_fact_94 rfl (by decide) (by decide) ?_
      rw [kno hq]
      first
        | exact ⟨rfl, rfl⟩
        | exact absurd h86 (by decide)
  · obtain ⟨j, rfl⟩ : ∃ j, num = j + 1 := ⟨num - 1, by omega⟩
    have hm := Nat.mod_lt ((T.1 (carB c + 26)).getD j 0) (show 2 > 0 by decide)
    refine cR_endAt d_C_fact_82 v_C_83 hC (rowN_26 hc) (by omega) (by decide) (Nat.le_of_ble_eq_true rfl) (by decide) (by decide) ?_
    refine kx_iconst (nI 1) d_C_fact_85 (by decide) ?_
    first | refine kx_icmp_ne_n 93 d_C_fact_86 (by decide) (by omega) (by omega) ?_ ?_ | refine kx_icmp_ne 93 d_C_fact_86 (by decide) ?_ ?_
    · intro h86
      refine kx_iconst (nI 0) d_C_fact_93 (by decide) ?_
      refine kx_iret d_C_fact_94 rfl (by decide) (by decide) ?_
      unfold flipI
      rw [Nat.add_sub_cancel]
      first
        | (rw [if_pos ⟨by omega, by omega, h86⟩]; exact ⟨rfl, rfl⟩)
        | (rw [if_neg (fun q => h86 q.2.2)]; exact ⟨rfl, rfl⟩)
    · intro h86
      refine kx_iconst (nI 1) d_C_fact_89 (by decide) ?_
      refine kx_goto 94 d_C_fact_90 (by decide) ?_
      refine kx_iret d_C_fact_94 rfl (by decide) (by decide) ?_
      unfold flipI
      rw [Nat.add_sub_cancel]
      first
        | (rw [if_pos ⟨by omega, by omega, h86⟩]; exact ⟨rfl, rfl⟩)
        | (rw [if_neg (fun q => h86 q.2.2)]; exact ⟨rfl, rfl⟩)
set_option maxRecDepth 20000 in
set_option maxHeartbeats 4000000 in
theorem m_C_fact_3 {E : kx_E} {w : va_W} {n : Nat} {ad : Nat → Nat} {pe bi : Nat → Option Nat} {T : LVS} (hC : Cls E w n ad T.1 T.2.1 T.2.2 pe bi) {c : Nat} (hc : c < n) (hI : InvS n T.2.2) : kx_S E Y_C_fact [.ref (ad (carB c)), .int (nI 3)] w (kx_Qi w (nI (T.1 (carB c + 26)).length)) := by
  refine kx_go (by decide) rfl rfl (Nat.le_of_ble_eq_true rfl) (kx_cc rfl (kx_cc rfl kx_c0)) (fun z => ?_)
  have hO : kx_off w w clsN := kx_off.rf
  refine kx_iload_n d_C_fact_0 rfl ?_
  refine kx_tabIn (off := 94) 95 d_C_fact_1 (by decide) (by decide) (by decide) (by decide) ?_
  refine kx_aload_n d_C_fact_95 rfl (by first | rfl | exact kx_rf _) ?_
  refine kx_get _ d_C_fact_96 f_C_34 (hC.car c hc) (by rfl) ?_
  refine kx_get _ d_C_fact_99 f_C_76 (hC.rowObj (rowN_26 hc)) (by rfl) ?_
  refine kx_iret d_C_fact_102 rfl (by decide) (by decide) ?_
  exact ⟨rfl, rfl⟩
set_option maxRecDepth 20000 in
set_option maxHeartbeats 4000000 in
theorem m_C_fact_4 {E : kx_E} {w : va_W} {n : Nat} {ad : Nat → Nat} {pe bi : Nat → Option Nat} {T : LVS} (hC : Cls E w n ad T.1 T.2.1 T.2.2 pe bi) {c : Nat} (hc : c < n) (hI : InvS n T.2.2) : kx_S E Y_C_fact [.ref (ad (carB c)), .int (nI 4)] w (kx_Qi w (T.2.2 (carB c) 10)) := by
  refine kx_go (by decide) rfl rfl (Nat.le_of_ble_eq_true rfl) (kx_cc rfl (kx_cc rfl kx_c0)) (fun z => ?_)
  have hO : kx_off w w clsN := kx_off.rf
  refine kx_iload_n d_C_fact_0 rfl ?_
  refine kx_tabIn (off := 102) 103 d_C_fact_1 (by decide) (by decide) (by decide) (by decide) ?_
  refine kx_aload_n d_C_fact_103 rfl (by first | rfl | exact kx_rf _) ?_
  refine kx_get _ d_C_fact_104 f_C_66 (hC.car c hc) (by rfl) ?_
  refine kx_iret d_C_fact_107 rfl (by decide) (by decide) ?_
  exact ⟨rfl, rfl⟩
set_option maxRecDepth 20000 in
set_option maxHeartbeats 4000000 in
theorem m_C_fact_5 {E : kx_E} {w : va_W} {n : Nat} {ad : Nat → Nat} {pe bi : Nat → Option Nat} {T : LVS} (hC : Cls E w n ad T.1 T.2.1 T.2.2 pe bi) {c : Nat} (hc : c < n) (hI : InvS n T.2.2) : kx_S E Y_C_fact [.ref (ad (carB c)), .int (nI 5)] w (kx_Qi w (T.2.2 (carB c) 9)) := by
  refine kx_go (by decide) rfl rfl (Nat.le_of_ble_eq_true rfl) (kx_cc rfl (kx_cc rfl kx_c0)) (fun z => ?_)
  have hO : kx_off w w clsN := kx_off.rf
  refine kx_iload_n d_C_fact_0 rfl ?_
  refine kx_tabIn (off := 107) 108 d_C_fact_1 (by decide) (by decide) (by decide) (by decide) ?_
  refine kx_aload_n d_C_fact_108 rfl (by first | rfl | exact kx_rf _) ?_
  refine kx_get _ d_C_fact_109 f_C_63 (hC.car c hc) (by rfl) ?_
  refine kx_iret d_C_fact_112 rfl (by decide) (by decide) ?_
  exact ⟨rfl, rfl⟩
set_option maxRecDepth 20000 in
set_option maxHeartbeats 4000000 in
theorem m_C_fact_6 {E : kx_E} {w : va_W} {n : Nat} {ad : Nat → Nat} {pe bi : Nat → Option Nat} {T : LVS} (hC : Cls E w n ad T.1 T.2.1 T.2.2 pe bi) {c : Nat} (hc : c < n) (hI : InvS n T.2.2) : kx_S E Y_C_fact [.ref (ad (carB c)), .int (nI 6)] w (kx_Qi w (T.2.2 (carE c 0) 8)) := by
  refine kx_go (by decide) rfl rfl (Nat.le_of_ble_eq_true rfl) (kx_cc rfl (kx_cc rfl kx_c0)) (fun z => ?_)
  have hO : kx_off w w clsN := kx_off.rf
  refine kx_iload_n d_C_fact_0 rfl ?_
  refine kx_tabIn (off := 112) 113 d_C_fact_1 (by decide) (by decide) (by decide) (by decide) ?_
  refine kx_aload_n d_C_fact_113 rfl (by first | rfl | exact kx_rf _) ?_
  refine kx_get _ d_C_fact_114 f_C_20 (hC.car c hc) (by rfl) ?_
  refine kx_iload_n d_C_fact_117 rfl ?_
  refine kx_bipush (nI 6) d_C_fact_118 (by decide) ?_
  refine kx_isub (nI 0) d_C_fact_120 (by decide) ?_
  refine cA_end d_C_fact_121 hC hc (by first | decide | omega) ?_
  refine kx_get _ d_C_fact_122 f_C_87 (hC.endAt (carE_N hc)) (by rfl) ?_
  refine kx_iret d_C_fact_125 rfl (by decide) (by decide) ?_
  exact ⟨rfl, rfl⟩
set_option maxRecDepth 20000 in
set_option maxHeartbeats 4000000 in
theorem m_C_fact_7 {E : kx_E} {w : va_W} {n : Nat} {ad : Nat → Nat} {pe bi : Nat → Option Nat} {T : LVS} (hC : Cls E w n ad T.1 T.2.1 T.2.2 pe bi) {c : Nat} (hc : c < n) (hI : InvS n T.2.2) : kx_S E Y_C_fact [.ref (ad (carB c)), .int (nI 7)] w (kx_Qi w (T.2.2 (carE c 1) 8)) := by
  refine kx_go (by decide) rfl rfl (Nat.le_of_ble_eq_true rfl) (kx_cc rfl (kx_cc rfl kx_c0)) (fun z => ?_)
  have hO : kx_off w w clsN := kx_off.rf
  refine kx_iload_n d_C_fact_0 rfl ?_
  refine kx_tabIn (off := 112) 113 d_C_fact_1 (by decide) (by decide) (by decide) (by decide) ?_
  refine kx_aload_n d_C_fact_113 rfl (by first | rfl | exact kx_rf _) ?_
  refine kx_get _ d_C_fact_114 f_C_20 (hC.car c hc) (by rfl) ?_
  refine kx_iload_n d_C_fact_117 rfl ?_
  refine kx_bipush (nI 6) d_C_fact_118 (by decide) ?_
  refine kx_isub (nI 1) d_C_fact_120 (by decide) ?_
  refine cA_end d_C_fact_121 hC hc (by first | decide | omega) ?_
  refine kx_get _ d_C_fact_122 f_C_87 (hC.endAt (carE_N hc)) (by rfl) ?_
  refine kx_iret d_C_fact_125 rfl (by decide) (by decide) ?_
  exact ⟨rfl, rfl⟩
set_option maxRecDepth 20000 in
set_option maxHeartbeats 4000000 in
theorem m_C_fact_8 {E : kx_E} {w : va_W} {n : Nat} {ad : Nat → Nat} {pe bi : Nat → Option Nat} {T : LVS} (hC : Cls E w n ad T.1 T.2.1 T.2.2 pe bi) {c : Nat} (hc : c < n) (hI : InvS n T.2.2) : kx_S E Y_C_fact [.ref (ad (carB c)), .int (nI 8)] w (kx_Qi w (nI (T.1 (carE c 0 + 1)).length)) := by
  refine kx_go (by decide) rfl rfl (Nat.le_of_ble_eq_true rfl) (kx_cc rfl (kx_cc rfl kx_c0)) (fun z => ?_)
  have hO : kx_off w w clsN := kx_off.rf
  refine kx_iload_n d_C_fact_0 rfl ?_
  refine kx_tabIn (off := 125) 126 d_C_fact_1 (by decide) (by decide) (by decide) (by decide) ?_
  refine kx_aload_n d_C_fact_126 rfl (by first | rfl | exact kx_rf _) ?_
  refine kx_get _ d_C_fact_127 f_C_20 (hC.car c hc) (by rfl) ?_
  refine kx_iload_n d_C_fact_130 rfl ?_
  refine kx_bipush (nI 8) d_C_fact_131 (by decide) ?_
  refine kx_isub (nI 0) d_C_fact_133 (by decide) ?_
  refine cA_end d_C_fact_134 hC hc (by first | decide | omega) ?_
  refine kx_get _ d_C_fact_135 f_C_90 (hC.endAt (carE_N hc)) (by rfl) ?_
  refine kx_get _ d_C_fact_138 f_C_76 (hC.rowObj (rowN_e1 (carE_N hc))) (by rfl) ?_
  refine kx_iret d_C_fact_141 rfl (by decide) (by decide) ?_
  exact ⟨rfl, rfl⟩
set_option maxRecDepth 20000 in
set_option maxHeartbeats 4000000 in
theorem m_C_fact_9 {E : kx_E} {w : va_W} {n : Nat} {ad : Nat → Nat} {pe bi : Nat → Option Nat} {T : LVS} (hC : Cls E w n ad T.1 T.2.1 T.2.2 pe bi) {c : Nat} (hc : c < n) (hI : InvS n T.2.2) : kx_S E Y_C_fact [.ref (ad (carB c)), .int (nI 9)] w (kx_Qi w (nI (T.1 (carE c 1 + 1)).length)) := by
  refine kx_go (by decide) rfl rfl (Nat.le_of_ble_eq_true rfl) (kx_cc rfl (kx_cc rfl kx_c0)) (fun z => ?_)
  have hO : kx_off w w clsN := kx_off.rf
  refine kx_iload_n d_C_fact_0 rfl ?_
  refine kx_tabIn (off := 125) 126 d_C_fact_1 (by decide) (by decide) (by decide) (by decide) ?_
  refine kx_aload_n d_C_fact_126 rfl (by first | rfl | exact kx_rf _) ?_
  refine kx_get _ d_C_fact_127 f_C_20 (hC.car c hc) (by rfl) ?_
  refine kx_iload_n d_C_fact_130 rfl ?_
  refine kx_bipush (nI 8) d_C_fact_131 (by decide) ?_
  refine kx_isub (nI 1) d_C_fact_133 (by decide) ?_
  refine cA_end d_C_fact_134 hC hc (by first | decide | omega) ?_
  refine kx_get _ d_C_fact_135 f_C_90 (hC.endAt (carE_N hc)) (by rfl) ?_
  refine kx_get _ d_C_fact_138 f_C_76 (hC.rowObj (rowN_e1 (carE_N hc))) (by rfl) ?_
  refine kx_iret d_C_fact_141 rfl (by decide) (by decide) ?_
  exact ⟨rfl, rfl⟩
set_option maxRecDepth 20000 in
set_option maxHeartbeats 4000000 in
theorem m_C_fact_10 {E : kx_E} {w : va_W} {n : Nat} {ad : Nat → Nat} {pe bi : Nat → Option Nat} {T : LVS} (hC : Cls E w n ad T.1 T.2.1 T.2.2 pe bi) {c : Nat} (hc : c < n) (hI : InvS n T.2.2) : kx_S E Y_C_fact [.ref (ad (carB c)), .int (nI 10)] w (kx_Qi w (nI (boolI (T.2.2 (carE c 0) 7)))) := by
  refine kx_go (by decide) rfl rfl (Nat.le_of_ble_eq_true rfl) (kx_cc rfl (kx_cc rfl kx_c0)) (fun z => ?_)
  have hO : kx_off w w clsN := kx_off.rf
  refine kx_iload_n d_C_fact_0 rfl ?_
  refine kx_tabIn (off := 141) 142 d_C_fact_1 (by decide) (by decide) (by decide) (by decide) ?_
  refine kx_aload_n d_C_fact_142 rfl (by first | rfl | exact kx_rf _) ?_
  refine kx_get _ d_C_fact_143 f_C_20 (hC.car c hc) (by rfl) ?_
  refine kx_iload_n d_C_fact_146 rfl ?_
  refine kx_bipush (nI 10) d_C_fact_147 (by decide) ?_
  refine kx_isub (nI 0) d_C_fact_149 (by decide) ?_
  refine cA_end d_C_fact_150 hC hc (by first | decide | omega) ?_
  refine kx_get _ d_C_fact_151 f_C_93 (hC.endAt (carE_N hc)) (by rfl) ?_
  refine kx_if_eq 161 d_C_fact_154 (by decide) ?_ ?_
  · intro h154
    refine kx_iconst (nI 0) d_C_fact_161 (by decide) ?_
    refine kx_iret d_C_fact_162 rfl (by decide) (by decide) ?_
    unfold boolI
    first
      | (rw [if_pos h154]; exact ⟨rfl, rfl⟩)
      | (rw [if_neg h154]; exact ⟨rfl, rfl⟩)
  · intro h154
    refine kx_iconst (nI 1) d_C_fact_157 (by decide) ?_
    refine kx_goto 162 d_C_fact_158 (by decide) ?_
    refine kx_iret d_C_fact_162 rfl (by decide) (by decide) ?_
    unfold boolI
    first
      | (rw [if_pos h154]; exact ⟨rfl, rfl⟩)
      | (rw [if_neg h154]; exact ⟨rfl, rfl⟩)
set_option maxRecDepth 20000 in
set_option maxHeartbeats 4000000 in
theorem m_C_fact_11 {E : kx_E} {w : va_W} {n : Nat} {ad : Nat → Nat} {pe bi : Nat → Option Nat} {T : LVS} (hC : Cls E w n ad T.1 T.2.1 T.2.2 pe bi) {c : Nat} (hc : c < n) (hI : InvS n T.2.2) : kx_S E Y_C_fact [.ref (ad (carB c)), .int (nI 11)] w (kx_Qi w (nI (boolI (T.2.2 (carE c 1) 7)))) := by
  refine kx_go (by decide) rfl rfl (Nat.le_of_ble_eq_true rfl) (kx_cc rfl (kx_cc rfl kx_c0)) (fun z => ?_)
  have hO : kx_off w w clsN := kx_off.rf
  refine kx_iload_n d_C_fact_0 rfl ?_
  refine kx_tabIn (off := 141) 142 d_C_fact_1 (by decide) (by decide) (by decide) (by decide) ?_
  refine kx_aload_n d_C_fact_142 rfl (by first | rfl | exact kx_rf _) ?_
  refine kx_get _ d_C_fact_143 f_C_20 (hC.car c hc) (by rfl) ?_
  refine kx_iload_n d_C_fact_146 rfl ?_
  refine kx_bipush (nI 10) d_C_fact_147 (by decide) ?_
  refine kx_isub (nI 1) d_C_fact_149 (by decide) ?_
  refine cA_end d_C_fact_150 hC hc (by first | decide | omega) ?_
  refine kx_get _ d_C_fact_151 f_C_93 (hC.endAt (carE_N hc)) (by rfl) ?_
  refine kx_if_eq 161 d_C_fact_154 (by decide) ?_ ?_
  · intro h154
    refine kx_iconst (nI 0) d_C_fact_161 (by decide) ?_
    refine kx_iret d_C_fact_162 rfl (by decide) (by decide) ?_
    unfold boolI
    first
      | (rw [if_pos h154]; exact ⟨rfl, rfl⟩)
      | (rw [if_neg h154]; exact ⟨rfl, rfl⟩)
  · intro h154
    refine kx_iconst (nI 1) d_C_fact_157 (by decide) ?_
    refine kx_goto 162 d_C_fact_158 (by decide) ?_
    refine kx_iret d_C_fact_162 rfl (by decide) (by decide) ?_
    unfold boolI
    first
      | (rw [if_pos h154]; exact ⟨rfl, rfl⟩)
      | (rw [if_neg h154]; exact ⟨rfl, rfl⟩)
end
section
/-! ConsistBus: finding, the true run, rounds -/
def carI (bi : Nat → Option Nat) (id : Int32) : Option Nat := if id < nI 1 ∨ nI 255 < id then none else bi (clN id)
def biOk (n : Nat) (bi : Nat → Option Nat) : Prop := ∀ i c, bi i = some c → c < n
theorem carI_c {n : Nat} {bi : Nat → Option Nat} {id : Int32} {c : Nat} (hb : biOk n bi) (h : carI bi id = some c) : c < n := by
  unfold carI at h
  split at h
  · cases h
  · exact hb _ _ h
theorem i32_nlt {x y : Int32} : ¬ y < x ↔ x ≤ y := ⟨fun h => Int32.le_iff_toInt_le.mpr (Int.not_lt.mp (fun q => h (Int32.lt_iff_toInt_lt.mpr q))), fun h q => absurd (Int32.lt_iff_toInt_lt.mp q) (Int.not_lt.mpr (Int32.le_iff_toInt_le.mp h))⟩
theorem i32_in {x : Int32} {a b : Nat} (ha : a < 2 ^ 31) (hb : b < 2 ^ 31) (h1 : ¬ x < nI a) (h2 : ¬ nI b < x) : ∃ j, a ≤ j ∧ j ≤ b ∧ x = nI j := by
  have e1 : (nI a).toInt ≤ x.toInt := Int.not_lt.mp (fun q => h1 (Int32.lt_iff_toInt_lt.mpr q))
  have e2 : x.toInt ≤ (nI b).toInt := Int.not_lt.mp (fun q => h2 (Int32.lt_iff_toInt_lt.mpr q))
  rw [nI_toInt ha] at e1
  rw [nI_toInt hb] at e2
  refine ⟨x.toInt.toNat, by omega, by omega, ?_⟩
  apply Int32.toInt_inj.mp
  rw [nI_toInt (by omega)]
  omega
theorem carI_j (bi : Nat → Option Nat) {j : Nat} (h1 : 1 ≤ j) (h2 : j ≤ 255) : carI bi (nI j) = bi j := by
  unfold carI
  rw [if_neg, clN_nI (by omega)]
  rintro (h | h)
  · exact absurd ((nI_ltI (by omega) (by decide)).mp h) (by omega)
  · exact absurd ((nI_ltI (by decide) (by omega)).mp h) (by omega)
theorem d_B_carWithId_0 : decode c_B_carWithId 0 = .ok (.iload_n 1, 1) := by decide +kernel
theorem d_B_carWithId_1 : decode c_B_carWithId 1 = .ok (.iconst 1, 1) := by decide +kernel
theorem d_B_carWithId_2 : decode c_B_carWithId 2 = .ok (.if_icmp .lt 10, 3) := by decide +kernel
theorem d_B_carWithId_5 : decode c_B_carWithId 5 = .ok (.iload_n 1, 1) := by decide +kernel
theorem d_B_carWithId_6 : decode c_B_carWithId 6 = .ok (.sipush 255, 3) := by decide +kernel
theorem d_B_carWithId_9 : decode c_B_carWithId 9 = .ok (.if_icmp .le 7, 3) := by decide +kernel
theorem d_B_carWithId_12 : decode c_B_carWithId 12 = .ok (.aconst_null, 1) := by decide +kernel
theorem d_B_carWithId_13 : decode c_B_carWithId 13 = .ok (.goto 9, 3) := by decide +kernel
theorem d_B_carWithId_16 : decode c_B_carWithId 16 = .ok (.aload_n 0, 1) := by decide +kernel
theorem d_B_carWithId_17 : decode c_B_carWithId 17 = .ok (.getfield 15, 3) := by decide +kernel
theorem d_B_carWithId_20 : decode c_B_carWithId 20 = .ok (.iload_n 1, 1) := by decide +kernel
theorem d_B_carWithId_21 : decode c_B_carWithId 21 = .ok (.aaload, 1) := by decide +kernel
theorem d_B_carWithId_22 : decode c_B_carWithId 22 = .ok (.areturn, 1) := by decide +kernel
set_option maxRecDepth 20000 in
set_option maxHeartbeats 4000000 in
theorem m_B_carWithId {E : kx_E} {w : va_W} {n : Nat} {ad : Nat → Nat} {L : Nat → List Nat} {V S : Nat → Nat → Int32} {pe bi : Nat → Option Nat} (hC : Cls E w n ad L V S pe bi) (id : Int32) : kx_S E Y_B_carWithId [.ref (ad 0), .int id] w (fun o w1 => o = .inl (some (va_rf ((carI bi id).map (fun c => ad (carB c))))) ∧ w1 = w) := by
  refine kx_go (by decide) rfl rfl (Nat.le_of_ble_eq_true rfl) (kx_cc rfl (kx_cc rfl kx_c0)) (fun z => ?_)
  have hO : kx_off w w clsN := kx_off.rf
  refine kx_iload_n d_B_carWithId_0 rfl ?_
  refine kx_iconst (nI 1) d_B_carWithId_1 (by decide) ?_
  refine kx_icmp_lt 12 d_B_carWithId_2 (by decide) ?_ ?_
  · intro h2
    refine kx_null d_B_carWithId_12 ?_
    have hn : carI bi id = none := by unfold carI; rw [if_pos (by first | exact Or.inl h2 | exact Or.inr (Decidable.byContradiction (fun q => h9 (i32_nlt.mp q))))]
    rw [hn]
    refine kx_goto 22 d_B_carWithId_13 (by decide) ?_
    exact kx_aret d_B_carWithId_22 rfl (by first | rfl | exact kx_rf _) (by decide) (by decide) ⟨rfl, rfl⟩
  · intro h2
    refine kx_iload_n d_B_carWithId_5 rfl ?_
    refine kx_sipush (nI 255) d_B_carWithId_6 (by decide) ?_
    refine kx_icmp_le 16 d_B_carWithId_9 (by decide) ?_ ?_
    · intro h9
      refine kx_aload_n d_B_carWithId_16 rfl (by first | rfl | exact kx_rf _) ?_
      refine kx_get _ d_B_carWithId_17 f_B_15 hC.bus (by rfl) ?_
      refine kx_iload_n d_B_carWithId_20 rfl ?_
      obtain ⟨j, hj1, hj2, rfl⟩ := i32_in (a := 1) (b := 255) (by decide) (by decide) h2 (i32_nlt.mpr h9)
      rw [carI_j bi hj1 hj2]
      obtain ⟨f, hf1, hf2⟩ := hC.byId
      refine kx_aald d_B_carWithId_21 hf1 rfl (by omega) (by decide) ?_
      rw [hf2 j (by omega)]
      exact kx_aret d_B_carWithId_22 rfl (by first | rfl | exact kx_rf _) (by decide) (by decide) ⟨rfl, rfl⟩
    · intro h9
      refine kx_null d_B_carWithId_12 ?_
      have hn : carI bi id = none := by unfold carI; rw [if_pos (by first | exact Or.inl h2 | exact Or.inr (Decidable.byContradiction (fun q => h9 (i32_nlt.mp q))))]
      rw [hn]
      refine kx_goto 22 d_B_carWithId_13 (by decide) ?_
      exact kx_aret d_B_carWithId_22 rfl (by first | rfl | exact kx_rf _) (by decide) (by decide) ⟨rfl, rfl⟩
theorem d_B_carOf_0 : decode c_B_carOf 0 = .ok (.aload_n 0, 1) := by decide +kernel
theorem d_B_carOf_1 : decode c_B_carOf 1 = .ok (.iload_n 1, 1) := by decide +kernel
theorem d_B_carOf_2 : decode c_B_carOf 2 = .ok (.invokevirtual 139, 3) := by decide +kernel
theorem d_B_carOf_5 : decode c_B_carOf 5 = .ok (.astore_n 2, 1) := by decide +kernel
theorem d_B_carOf_6 : decode c_B_carOf 6 = .ok (.aload_n 2, 1) := by decide +kernel
theorem d_B_carOf_7 : decode c_B_carOf 7 = .ok (.ifnonnull 13, 3) := by decide +kernel
theorem d_B_carOf_10 : decode c_B_carOf 10 = .ok (.new 158, 3) := by decide +kernel
theorem d_B_carOf_13 : decode c_B_carOf 13 = .ok (.dup, 1) := by decide +kernel
theorem d_B_carOf_14 : decode c_B_carOf 14 = .ok (.ldc 160, 2) := by decide +kernel
theorem d_B_carOf_16 : decode c_B_carOf 16 = .ok (.invokespecial 162, 3) := by decide +kernel
theorem d_B_carOf_19 : decode c_B_carOf 19 = .ok (.athrow, 1) := by decide +kernel
theorem d_B_carOf_20 : decode c_B_carOf 20 = .ok (.aload_n 2, 1) := by decide +kernel
theorem d_B_carOf_21 : decode c_B_carOf 21 = .ok (.areturn, 1) := by decide +kernel
set_option maxRecDepth 20000 in
set_option maxHeartbeats 4000000 in
theorem m_B_carOf {E : kx_E} {w : va_W} {n : Nat} {ad : Nat → Nat} {L : Nat → List Nat} {V S : Nat → Nat → Int32} {pe bi : Nat → Option Nat} (hC : Cls E w n ad L V S pe bi) {id : Int32} {c : Nat} (h : carI bi id = some c) : kx_S E Y_B_carOf [.ref (ad 0), .int id] w (fun o w1 => o = .inl (some (.ref (ad (carB c)))) ∧ w1 = w) := by
  refine kx_go (by decide) rfl rfl (Nat.le_of_ble_eq_true rfl) (kx_cc rfl (kx_cc rfl kx_c0)) (fun z => ?_)
  have hO : kx_off w w clsN := kx_off.rf
  refine kx_aload_n d_B_carOf_0 rfl (by first | rfl | exact kx_rf _) ?_
  refine kx_iload_n d_B_carOf_1 rfl ?_
  refine kx_callV (as := [.int id]) (rest := []) d_B_carOf_2 v_B_139 rfl (hC.bus) rfl rfl (by decide) (by decide) (Nat.le_of_ble_eq_true rfl) (by decide) (by decide) rfl (m_B_carWithId hC id) (fun X w1 h => by cases h.1) (fun v w1 hq9 => ?_)
  obtain ⟨hv, hw9⟩ := hq9
  cases hv
  subst hw9
  rw [h]
  refine kx_stk (st1 := [va_rf (some (ad (carB c)))]) rfl ?_
  refine kx_astore_n d_B_carOf_5 (by decide) (by first | rfl | exact kx_rf _) ?_
  refine kx_aload_n d_B_carOf_6 rfl (by first | rfl | exact kx_rf _) ?_
  refine kx_ifnonnull (o := some (ad (carB c))) 20 d_B_carOf_7 (by decide) (fun _ _ => ?_) (fun h => by cases h)
  refine kx_aload_n d_B_carOf_20 rfl (by first | rfl | exact kx_rf _) ?_
  refine kx_aret d_B_carOf_21 rfl (by first | rfl | exact kx_rf _) (by decide) (by decide) ?_
  exact ⟨rfl, rfl⟩
set_option maxRecDepth 20000 in
set_option maxHeartbeats 4000000 in
theorem m_B_carOf_no {E : kx_E} {w : va_W} {n : Nat} {ad : Nat → Nat} {L : Nat → List Nat} {V S : Nat → Nat → Int32} {pe bi : Nat → Option Nat} (hC : Cls E w n ad L V S pe bi) {id : Int32} (h : carI bi id = none) : kx_S E Y_B_carOf [.ref (ad 0), .int id] w (fun o w1 => o = .inr kx_nse ∧ w1 = w) := by
  refine kx_go (by decide) rfl rfl (Nat.le_of_ble_eq_true rfl) (kx_cc rfl (kx_cc rfl kx_c0)) (fun z => ?_)
  have hO : kx_off w w clsN := kx_off.rf
  refine kx_aload_n d_B_carOf_0 rfl (by first | rfl | exact kx_rf _) ?_
  refine kx_iload_n d_B_carOf_1 rfl ?_
  refine kx_callV (as := [.int id]) (rest := []) d_B_carOf_2 v_B_139 rfl (hC.bus) rfl rfl (by decide) (by decide) (Nat.le_of_ble_eq_true rfl) (by decide) (by decide) rfl (m_B_carWithId hC id) (fun X w1 h => by cases h.1) (fun v w1 hq9 => ?_)
  obtain ⟨hv, hw9⟩ := hq9
  cases hv
  subst hw9
  rw [h]
  refine kx_stk (st1 := [va_rf (none)]) rfl ?_
  refine kx_astore_n d_B_carOf_5 (by decide) (by first | rfl | exact kx_rf _) ?_
  refine kx_aload_n d_B_carOf_6 rfl (by first | rfl | exact kx_rf _) ?_
  refine kx_ifnonnull (o := none) 20 d_B_carOf_7 (by decide) (fun a h => by cases h) (fun _ => ?_)
  exact kx_throwN d_B_carOf_10 d_B_carOf_13 d_B_carOf_14 d_B_carOf_16 d_B_carOf_19 t_B_160 rfl (by decide) (Nat.le_of_ble_eq_true rfl) (by decide) (by decide) ⟨rfl, rfl⟩
def endQ (bi : Nat → Option Nat) (id e : Int32) : Option Nat := match carI bi id with
  | none => none
  | some c => if e = nI 0 then some (carE c 0) else if e = nI 1 then some (carE c 1) else none
theorem endQ_N {n : Nat} {bi : Nat → Option Nat} {id e : Int32} {x : Nat} (hb : biOk n bi) (h : endQ bi id e = some x) : endN n x := by
  unfold endQ at h
  cases hc : carI bi id with
  | none => rw [hc] at h; cases h
  | some c =>
    rw [hc] at h
    dsimp only at h
    have := carI_c hb hc
    split at h
    · cases h; exact carE_N this
    · split at h
      · cases h; exact carE_N this
      · cases h
theorem d_B_endOf_0 : decode c_B_endOf 0 = .ok (.aload_n 0, 1) := by decide +kernel
theorem d_B_endOf_1 : decode c_B_endOf 1 = .ok (.iload_n 1, 1) := by decide +kernel
theorem d_B_endOf_2 : decode c_B_endOf 2 = .ok (.invokevirtual 59, 3) := by decide +kernel
theorem d_B_endOf_5 : decode c_B_endOf 5 = .ok (.astore_n 3, 1) := by decide +kernel
theorem d_B_endOf_6 : decode c_B_endOf 6 = .ok (.iload_n 2, 1) := by decide +kernel
theorem d_B_endOf_7 : decode c_B_endOf 7 = .ok (.ifCond .eq 18, 3) := by decide +kernel
theorem d_B_endOf_10 : decode c_B_endOf 10 = .ok (.iload_n 2, 1) := by decide +kernel
theorem d_B_endOf_11 : decode c_B_endOf 11 = .ok (.iconst 1, 1) := by decide +kernel
theorem d_B_endOf_12 : decode c_B_endOf 12 = .ok (.if_icmp .eq 13, 3) := by decide +kernel
theorem d_B_endOf_15 : decode c_B_endOf 15 = .ok (.new 158, 3) := by decide +kernel
theorem d_B_endOf_18 : decode c_B_endOf 18 = .ok (.dup, 1) := by decide +kernel
theorem d_B_endOf_19 : decode c_B_endOf 19 = .ok (.ldc 163, 2) := by decide +kernel
theorem d_B_endOf_21 : decode c_B_endOf 21 = .ok (.invokespecial 162, 3) := by decide +kernel
theorem d_B_endOf_24 : decode c_B_endOf 24 = .ok (.athrow, 1) := by decide +kernel
theorem d_B_endOf_25 : decode c_B_endOf 25 = .ok (.aload_n 3, 1) := by decide +kernel
theorem d_B_endOf_26 : decode c_B_endOf 26 = .ok (.getfield 165, 3) := by decide +kernel
theorem d_B_endOf_29 : decode c_B_endOf 29 = .ok (.iload_n 2, 1) := by decide +kernel
theorem d_B_endOf_30 : decode c_B_endOf 30 = .ok (.aaload, 1) := by decide +kernel
theorem d_B_endOf_31 : decode c_B_endOf 31 = .ok (.areturn, 1) := by decide +kernel
set_option maxRecDepth 20000 in
set_option maxHeartbeats 4000000 in
theorem m_B_endOf_no {E : kx_E} {w : va_W} {n : Nat} {ad : Nat → Nat} {L : Nat → List Nat} {V S : Nat → Nat → Int32} {pe bi : Nat → Option Nat} (hC : Cls E w n ad L V S pe bi) (hb : biOk n bi) {id e : Int32} (h : endQ bi id e = none) : kx_S E Y_B_endOf [.ref (ad 0), .int id, .int e] w (fun o w1 => o = .inr kx_nse ∧ w1 = w) := by
  refine kx_go (by decide) rfl rfl (Nat.le_of_ble_eq_true rfl) (kx_cc rfl (kx_cc rfl (kx_cc rfl kx_c0))) (fun z => ?_)
  have hO : kx_off w w clsN := kx_off.rf
  cases hc : carI bi id with
  | none =>
    refine kx_aload_n d_B_endOf_0 rfl (by first | rfl | exact kx_rf _) ?_
    refine kx_iload_n d_B_endOf_1 rfl ?_
    refine kx_callV (as := [.int id]) (rest := []) d_B_endOf_2 v_B_59 rfl (hC.bus) rfl rfl (by decide) (by decide) (Nat.le_of_ble_eq_true rfl) (by decide) (by decide) rfl (m_B_carOf_no hC hc) (fun X w1 hq => ⟨rfl, by cases hq.1; exact ⟨rfl, hq.2⟩⟩) (fun v w1 hq => by cases hq.1)
  | some c =>
    unfold endQ at h
    rw [hc] at h
    dsimp only at h
    refine kx_aload_n d_B_endOf_0 rfl (by first | rfl | exact kx_rf _) ?_
    refine kx_iload_n d_B_endOf_1 rfl ?_
    refine kx_callV (as := [.int id]) (rest := []) d_B_endOf_2 v_B_59 rfl (hC.bus) rfl rfl (by decide) (by decide) (Nat.le_of_ble_eq_true rfl) (by decide) (by decide) rfl (m_B_carOf hC hc) (fun X w1 h => by cases h.1) (fun v w1 hq9 => ?_)
    obtain ⟨hv, hw9⟩ := hq9
    cases hv
    subst hw9
    refine kx_stk (st1 := [.ref (ad (carB c))]) rfl ?_
    refine kx_astore_n d_B_endOf_5 (by decide) (by first | rfl | exact kx_rf _) ?_
    refine kx_iload_n d_B_endOf_6 rfl ?_
    refine kx_if_eq 25 d_B_endOf_7 (by decide) ?_ ?_
    · intro h7
      first
        | (have h7 : e = nI 0 := h7
           rw [if_pos h7] at h; cases h)
        | (have h7 : ¬ e = nI 0 := h7
           rw [if_neg h7, if_pos h12] at h; cases h)
    · intro h7
      refine kx_iload_n d_B_endOf_10 rfl ?_
      refine kx_iconst (nI 1) d_B_endOf_11 (by decide) ?_
      refine kx_icmp_eq 25 d_B_endOf_12 (by decide) ?_ ?_
      · intro h12
        first
          | (have h7 : e = nI 0 := h7
             rw [if_pos h7] at h; cases h)
          | (have h7 : ¬ e = nI 0 := h7
             rw [if_neg h7, if_pos h12] at h; cases h)
      · intro h12
        exact kx_throwN d_B_endOf_15 d_B_endOf_18 d_B_endOf_19 d_B_endOf_21 d_B_endOf_24 t_B_163 rfl (by decide) (Nat.le_of_ble_eq_true rfl) (by decide) (by decide) ⟨rfl, rfl⟩
set_option maxRecDepth 20000 in
set_option maxHeartbeats 4000000 in
theorem m_B_endOf {E : kx_E} {w : va_W} {n : Nat} {ad : Nat → Nat} {L : Nat → List Nat} {V S : Nat → Nat → Int32} {pe bi : Nat → Option Nat} (hC : Cls E w n ad L V S pe bi) (hb : biOk n bi) {id e : Int32} {x : Nat} (h : endQ bi id e = some x) : kx_S E Y_B_endOf [.ref (ad 0), .int id, .int e] w (fun o w1 => o = .inl (some (.ref (ad x))) ∧ w1 = w) := by
  refine kx_go (by decide) rfl rfl (Nat.le_of_ble_eq_true rfl) (kx_cc rfl (kx_cc rfl (kx_cc rfl kx_c0))) (fun z => ?_)
  have hO : kx_off w w clsN := kx_off.rf
  cases hc : carI bi id with
  | none => unfold endQ at h; rw [hc] at h; cases h
  | some c =>
    have hcn := carI_c hb hc
    unfold endQ at h
    rw [hc] at h
    dsimp only at h
    refine kx_aload_n d_B_endOf_0 rfl (by first | rfl | exact kx_rf _) ?_
    refine kx_iload_n d_B_endOf_1 rfl ?_
    refine kx_callV (as := [.int id]) (rest := []) d_B_endOf_2 v_B_59 rfl (hC.bus) rfl rfl (by decide) (by decide) (Nat.le_of_ble_eq_true rfl) (by decide) (by decide) rfl (m_B_carOf hC hc) (fun X w1 h => by cases h.1) (fun v w1 hq9 => ?_)
    obtain ⟨hv, hw9⟩ := hq9
    cases hv
    subst hw9
    refine kx_stk (st1 := [.ref (ad (carB c))]) rfl ?_
    refine kx_astore_n d_B_endOf_5 (by decide) (by first | rfl | exact kx_rf _) ?_
    refine kx_iload_n d_B_endOf_6 rfl ?_
    refine kx_if_eq 25 d_B_endOf_7 (by decide) ?_ ?_
    · intro h7
      refine kx_aload_n d_B_endOf_25 rfl (by first | rfl | exact kx_rf _) ?_
      refine kx_get _ d_B_endOf_26 f_B_165 (hC.car c hcn) (by rfl) ?_
      refine kx_iload_n d_B_endOf_29 rfl ?_
      first
        | (have h7 : e = nI 0 := h7
           rw [if_pos h7] at h
           subst h7
           cases h
           refine cA_end d_B_endOf_30 hC hcn (by decide) ?_
           exact kx_aret d_B_endOf_31 rfl rfl (by decide) (by decide) ⟨rfl, rfl⟩)
        | (have h7 : ¬ e = nI 0 := h7
           rw [if_neg h7, if_pos h12] at h
           subst h12
           cases h
           refine cA_end d_B_endOf_30 hC hcn (by decide) ?_
           exact kx_aret d_B_endOf_31 rfl rfl (by decide) (by decide) ⟨rfl, rfl⟩)
    · intro h7
      refine kx_iload_n d_B_endOf_10 rfl ?_
      refine kx_iconst (nI 1) d_B_endOf_11 (by decide) ?_
      refine kx_icmp_eq 25 d_B_endOf_12 (by decide) ?_ ?_
      · intro h12
        refine kx_aload_n d_B_endOf_25 rfl (by first | rfl | exact kx_rf _) ?_
        refine kx_get _ d_B_endOf_26 f_B_165 (hC.car c hcn) (by rfl) ?_
        refine kx_iload_n d_B_endOf_29 rfl ?_
        first
          | (have h7 : e = nI 0 := h7
             rw [if_pos h7] at h
             subst h7
             cases h
             refine cA_end d_B_endOf_30 hC hcn (by decide) ?_
             exact kx_aret d_B_endOf_31 rfl rfl (by decide) (by decide) ⟨rfl, rfl⟩)
          | (have h7 : ¬ e = nI 0 := h7
             rw [if_neg h7, if_pos h12] at h
             subst h12
             cases h
             refine cA_end d_B_endOf_30 hC hcn (by decide) ?_
             exact kx_aret d_B_endOf_31 rfl rfl (by decide) (by decide) ⟨rfl, rfl⟩)
      · intro h12
        have h7 : ¬ e = nI 0 := h7
        rw [if_neg h7, if_neg h12] at h; cases h
def takI (t : Int32) (k : Nat) : Bool := decide (¬ (t >>> (nI k &&& 31) &&& nI 1) = 0)
def freeI (t : Int32) : Nat → Nat → Nat
  | 0, k => k
  | m + 1, k => if takI t k = true then freeI t m (k + 1) else k
theorem d_B_freeNumber_0 : decode c_B_freeNumber 0 = .ok (.iconst 0, 1) := by decide +kernel
theorem d_B_freeNumber_1 : decode c_B_freeNumber 1 = .ok (.istore_n 1, 1) := by decide +kernel
theorem d_B_freeNumber_2 : decode c_B_freeNumber 2 = .ok (.iload_n 1, 1) := by decide +kernel
theorem d_B_freeNumber_3 : decode c_B_freeNumber 3 = .ok (.bipush 24, 2) := by decide +kernel
theorem d_B_freeNumber_5 : decode c_B_freeNumber 5 = .ok (.if_icmp .ge 20, 3) := by decide +kernel
theorem d_B_freeNumber_8 : decode c_B_freeNumber 8 = .ok (.aload_n 0, 1) := by decide +kernel
theorem d_B_freeNumber_9 : decode c_B_freeNumber 9 = .ok (.getfield 77, 3) := by decide +kernel
theorem d_B_freeNumber_12 : decode c_B_freeNumber 12 = .ok (.iload_n 1, 1) := by decide +kernel
theorem d_B_freeNumber_13 : decode c_B_freeNumber 13 = .ok (.ishr, 1) := by decide +kernel
theorem d_B_freeNumber_14 : decode c_B_freeNumber 14 = .ok (.iconst 1, 1) := by decide +kernel
theorem d_B_freeNumber_15 : decode c_B_freeNumber 15 = .ok (.iand, 1) := by decide +kernel
theorem d_B_freeNumber_16 : decode c_B_freeNumber 16 = .ok (.ifCond .eq 9, 3) := by decide +kernel
theorem d_B_freeNumber_19 : decode c_B_freeNumber 19 = .ok (.iinc 1 1, 3) := by decide +kernel
theorem d_B_freeNumber_22 : decode c_B_freeNumber 22 = .ok (.goto (-20), 3) := by decide +kernel
theorem d_B_freeNumber_25 : decode c_B_freeNumber 25 = .ok (.iload_n 1, 1) := by decide +kernel
theorem d_B_freeNumber_26 : decode c_B_freeNumber 26 = .ok (.ireturn, 1) := by decide +kernel
set_option maxRecDepth 20000 in
set_option maxHeartbeats 4000000 in
theorem l_B_freeNumber {E : kx_E} {w : va_W} {n : Nat} {ad : Nat → Nat} {L : Nat → List Nat} {V S : Nat → Nat → Int32} {pe bi : Nat → Option Nat} (hC : Cls E w n ad L V S pe bi) {z : kx_Z} {Q : kx_O → va_W → Prop} (hQ : Q (.inl (some (.int (nI (freeI (S 0 6) 24 0))))) w) : ∀ (m k : Nat), m + k = 24 → freeI (S 0 6) 24 0 = freeI (S 0 6) m k → kx_R E Y_B_freeNumber z 2 [(0, .ref (ad 0)), (1, .int (nI k))] [] w 0 0 Q := by
  intro m
  induction m with
  | zero =>
    intro k hk hr
    have hk : k = 24 := by omega
    subst hk
    refine kx_iload_n d_B_freeNumber_2 rfl ?_
    refine kx_bipush (nI 24) d_B_freeNumber_3 (by decide) ?_
    first | refine kx_icmp_ge_n 25 d_B_freeNumber_5 (by decide) (by omega) (by omega) ?_ ?_ | refine kx_icmp_ge 25 d_B_freeNumber_5 (by decide) ?_ ?_
    · intro h5
      refine kx_iload_n d_B_freeNumber_25 rfl ?_
      refine kx_iret d_B_freeNumber_26 rfl (by decide) (by decide) ?_
      rw [hr] at hQ
      exact hQ
    · intro h5
      exact absurd h5 (by omega)
  | succ m ih =>
    intro k hk hr
    refine kx_iload_n d_B_freeNumber_2 rfl ?_
    refine kx_bipush (nI 24) d_B_freeNumber_3 (by decide) ?_
    first | refine kx_icmp_ge_n 25 d_B_freeNumber_5 (by decide) (by omega) (by omega) ?_ ?_ | refine kx_icmp_ge 25 d_B_freeNumber_5 (by decide) ?_ ?_
    · intro h5
      first
        | exact absurd h5 (by omega)
        | (have ht : ¬ takI (S 0 6) k = true := by unfold takI; simp [h16]
           have hr2 : freeI (S 0 6) 24 0 = k := by rw [hr]; unfold freeI; rw [if_neg ht]
           rw [hr2] at hQ
           refine kx_iload_n d_B_freeNumber_25 rfl ?_
           exact kx_iret d_B_freeNumber_26 rfl (by decide) (by decide) hQ)
    · intro h5
      refine kx_aload_n d_B_freeNumber_8 rfl (by first | rfl | exact kx_rf _) ?_
      refine kx_get _ d_B_freeNumber_9 f_B_77 hC.bus (by rfl) ?_
      refine kx_iload_n d_B_freeNumber_12 rfl ?_
      refine kx_ishr _ d_B_freeNumber_13 rfl ?_
      refine kx_iconst (nI 1) d_B_freeNumber_14 (by decide) ?_
      refine kx_iand _ d_B_freeNumber_15 rfl ?_
      refine kx_if_eq 25 d_B_freeNumber_16 (by decide) ?_ ?_
      · intro h16
        first
          | exact absurd h5 (by omega)
          | (have ht : ¬ takI (S 0 6) k = true := by unfold takI; simp [h16]
             have hr2 : freeI (S 0 6) 24 0 = k := by rw [hr]; unfold freeI; rw [if_neg ht]
             rw [hr2] at hQ
             refine kx_iload_n d_B_freeNumber_25 rfl ?_
             exact kx_iret d_B_freeNumber_26 rfl (by decide) (by decide) hQ)
      · intro h16
        refine kx_iinc _ d_B_freeNumber_19 rfl (by decide) (nI_1 _) ?_
        refine kx_goto 2 d_B_freeNumber_22 (by decide) ?_
        refine kx_loc (L1 := [(0, .ref (ad 0)), (1, .int (nI (k + 1)))]) ⟨rfl, rfl, trivial⟩ ?_
        have ht : takI (S 0 6) k = true := by unfold takI; simp [h16]
        exact ih (k + 1) (by omega) (by rw [hr]; conv => lhs; unfold freeI; rw [if_pos ht])
theorem m_B_freeNumber {E : kx_E} {w : va_W} {n : Nat} {ad : Nat → Nat} {L : Nat → List Nat} {V S : Nat → Nat → Int32} {pe bi : Nat → Option Nat} (hC : Cls E w n ad L V S pe bi) : kx_S E Y_B_freeNumber [.ref (ad 0)] w (kx_Qi w (nI (freeI (S 0 6) 24 0))) := by
  refine kx_go (by decide) rfl rfl (Nat.le_of_ble_eq_true rfl) (kx_cc rfl kx_c0) (fun z => ?_)
  have hO : kx_off w w clsN := kx_off.rf
  refine kx_iconst (nI 0) d_B_freeNumber_0 (by decide) ?_
  refine kx_istore_n d_B_freeNumber_1 (by decide) ?_
  refine kx_loc (L1 := [(0, .ref (ad 0)), (1, .int (nI 0))]) ⟨rfl, rfl, trivial⟩ ?_
  exact l_B_freeNumber hC ⟨rfl, rfl⟩ 24 0 rfl rfl
end
section
/-! ConsistBus: the true run, a round -/
theorem outE_N {n : Nat} {pe : Nat → Option Nat} (hp : peOk n pe) : ∀ (k e : Nat), endN n e → endN n (outE pe k e)
  | 0, e, h => h
  | k + 1, e, h => by
    unfold outE
    cases hq : pe e with
    | none => exact h
    | some q => exact outE_N hp k _ (oppN (hp e q h hq))
def runL (pe : Nat → Option Nat) (S : Nat → Nat → Int32) : Nat → Option Nat → List Nat
  | 0, _ => []
  | _ + 1, none => []
  | m + 1, some x => clN (S x 0) :: runL pe S m (pe (opp x))
def truX (pe : Nat → Option Nat) (S : Nat → Nat → Int32) (c : Nat) : Nat := if clN (S (outE pe 24 (carE c 0)) 0) / 2 ≤ clN (S (outE pe 24 (carE c 1)) 0) / 2 then outE pe 24 (carE c 0) else outE pe 24 (carE c 1)
def truL (pe : Nat → Option Nat) (S : Nat → Nat → Int32) (c : Nat) : List Nat := runL pe S 24 (some (truX pe S c))
theorem rowN_4 (n : Nat) : rowN n 4 := Or.inl rfl
theorem truX_N {n : Nat} {pe : Nat → Option Nat} {S : Nat → Nat → Int32} {c : Nat} (hp : peOk n pe) (hc : c < n) : endN n (truX pe S c) := by
  unfold truX
  split <;> exact outE_N hp _ _ (carE_N hc)
theorem runL_len (pe : Nat → Option Nat) (S : Nat → Nat → Int32) : ∀ (m : Nat) (o : Option Nat), (runL pe S m o).length ≤ m
  | 0, _ => Nat.le_refl _
  | _ + 1, none => Nat.zero_le _
  | m + 1, some x => Nat.succ_le_succ (runL_len pe S m _)
theorem d_B_trueRun_0 : decode c_B_trueRun 0 = .ok (.aload_n 1, 1) := by decide +kernel
theorem d_B_trueRun_1 : decode c_B_trueRun 1 = .ok (.getfield 165, 3) := by decide +kernel
theorem d_B_trueRun_4 : decode c_B_trueRun 4 = .ok (.iconst 0, 1) := by decide +kernel
theorem d_B_trueRun_5 : decode c_B_trueRun 5 = .ok (.aaload, 1) := by decide +kernel
theorem d_B_trueRun_6 : decode c_B_trueRun 6 = .ok (.invokevirtual 169, 3) := by decide +kernel
theorem d_B_trueRun_9 : decode c_B_trueRun 9 = .ok (.astore_n 2, 1) := by decide +kernel
theorem d_B_trueRun_10 : decode c_B_trueRun 10 = .ok (.aload_n 1, 1) := by decide +kernel
theorem d_B_trueRun_11 : decode c_B_trueRun 11 = .ok (.getfield 165, 3) := by decide +kernel
theorem d_B_trueRun_14 : decode c_B_trueRun 14 = .ok (.iconst 1, 1) := by decide +kernel
theorem d_B_trueRun_15 : decode c_B_trueRun 15 = .ok (.aaload, 1) := by decide +kernel
theorem d_B_trueRun_16 : decode c_B_trueRun 16 = .ok (.invokevirtual 169, 3) := by decide +kernel
theorem d_B_trueRun_19 : decode c_B_trueRun 19 = .ok (.astore_n 3, 1) := by decide +kernel
theorem d_B_trueRun_20 : decode c_B_trueRun 20 = .ok (.aload_n 2, 1) := by decide +kernel
theorem d_B_trueRun_21 : decode c_B_trueRun 21 = .ok (.getfield 173, 3) := by decide +kernel
theorem d_B_trueRun_24 : decode c_B_trueRun 24 = .ok (.iconst 1, 1) := by decide +kernel
theorem d_B_trueRun_25 : decode c_B_trueRun 25 = .ok (.ishr, 1) := by decide +kernel
theorem d_B_trueRun_26 : decode c_B_trueRun 26 = .ok (.aload_n 3, 1) := by decide +kernel
theorem d_B_trueRun_27 : decode c_B_trueRun 27 = .ok (.getfield 173, 3) := by decide +kernel
theorem d_B_trueRun_30 : decode c_B_trueRun 30 = .ok (.iconst 1, 1) := by decide +kernel
theorem d_B_trueRun_31 : decode c_B_trueRun 31 = .ok (.ishr, 1) := by decide +kernel
theorem d_B_trueRun_32 : decode c_B_trueRun 32 = .ok (.if_icmp .gt 7, 3) := by decide +kernel
theorem d_B_trueRun_35 : decode c_B_trueRun 35 = .ok (.aload_n 2, 1) := by decide +kernel
theorem d_B_trueRun_36 : decode c_B_trueRun 36 = .ok (.goto 4, 3) := by decide +kernel
theorem d_B_trueRun_39 : decode c_B_trueRun 39 = .ok (.aload_n 3, 1) := by decide +kernel
theorem d_B_trueRun_40 : decode c_B_trueRun 40 = .ok (.astore 4, 2) := by decide +kernel
theorem d_B_trueRun_42 : decode c_B_trueRun 42 = .ok (.aload_n 0, 1) := by decide +kernel
theorem d_B_trueRun_43 : decode c_B_trueRun 43 = .ok (.getfield 25, 3) := by decide +kernel
theorem d_B_trueRun_46 : decode c_B_trueRun 46 = .ok (.invokevirtual 176, 3) := by decide +kernel
theorem d_B_trueRun_49 : decode c_B_trueRun 49 = .ok (.iconst 0, 1) := by decide +kernel
theorem d_B_trueRun_50 : decode c_B_trueRun 50 = .ok (.istore 5, 2) := by decide +kernel
theorem d_B_trueRun_52 : decode c_B_trueRun 52 = .ok (.iload 5, 2) := by decide +kernel
theorem d_B_trueRun_54 : decode c_B_trueRun 54 = .ok (.bipush 24, 2) := by decide +kernel
theorem d_B_trueRun_56 : decode c_B_trueRun 56 = .ok (.if_icmp .ge 36, 3) := by decide +kernel
theorem d_B_trueRun_59 : decode c_B_trueRun 59 = .ok (.aload 4, 2) := by decide +kernel
theorem d_B_trueRun_61 : decode c_B_trueRun 61 = .ok (.ifnull 31, 3) := by decide +kernel
theorem d_B_trueRun_64 : decode c_B_trueRun 64 = .ok (.aload_n 0, 1) := by decide +kernel
theorem d_B_trueRun_65 : decode c_B_trueRun 65 = .ok (.getfield 25, 3) := by decide +kernel
theorem d_B_trueRun_68 : decode c_B_trueRun 68 = .ok (.aload 4, 2) := by decide +kernel
theorem d_B_trueRun_70 : decode c_B_trueRun 70 = .ok (.getfield 173, 3) := by decide +kernel
theorem d_B_trueRun_73 : decode c_B_trueRun 73 = .ok (.invokevirtual 179, 3) := by decide +kernel
theorem d_B_trueRun_76 : decode c_B_trueRun 76 = .ok (.aload 4, 2) := by decide +kernel
theorem d_B_trueRun_78 : decode c_B_trueRun 78 = .ok (.getfield 183, 3) := by decide +kernel
theorem d_B_trueRun_81 : decode c_B_trueRun 81 = .ok (.getfield 53, 3) := by decide +kernel
theorem d_B_trueRun_84 : decode c_B_trueRun 84 = .ok (.astore 4, 2) := by decide +kernel
theorem d_B_trueRun_86 : decode c_B_trueRun 86 = .ok (.iinc 5 1, 3) := by decide +kernel
theorem d_B_trueRun_89 : decode c_B_trueRun 89 = .ok (.goto (-37), 3) := by decide +kernel
theorem d_B_trueRun_92 : decode c_B_trueRun 92 = .ok (.aload_n 0, 1) := by decide +kernel
theorem d_B_trueRun_93 : decode c_B_trueRun 93 = .ok (.getfield 25, 3) := by decide +kernel
theorem d_B_trueRun_96 : decode c_B_trueRun 96 = .ok (.areturn, 1) := by decide +kernel
set_option maxRecDepth 20000 in
set_option maxHeartbeats 4000000 in
theorem l_B_trueRun {E : kx_E} {n : Nat} {ad : Nat → Nat} {w0 : va_W} {L : Nat → List Nat} {V S : Nat → Nat → Int32} {pe bi : Nat → Option Nat} (hp : peOk n pe) (hI : InvS n S) {t : List Nat} {z : kx_Z} {Q : kx_O → va_W → Prop} (hQ : ∀ w, Cls E w n ad (up1 L 4 t) V S pe bi → kx_off w0 w clsN → Q (.inl (some (.ref (ad 4)))) w) :
    ∀ (m k : Nat) (o : Option Nat) (l : List Nat) (w : va_W), m + k = 24 → (∀ x, o = some x → endN n x) → Cls E w n ad (up1 L 4 l) V S pe bi → kx_off w0 w clsN → l.length = k → l ++ runL pe S m o = t → kx_R E Y_B_trueRun z 52 [(0, .ref (ad 0)), (4, va_rf (o.map ad)), (5, .int (nI k))] [] w 0 0 Q := by
  intro m
  induction m with
  | zero =>
    intro k o l w hk ho hC hO hl ht
    have hr : l = t := by rw [← ht]; unfold runL; rw [List.append_nil]
    clear ho
    refine kx_iload d_B_trueRun_52 rfl ?_
    refine kx_bipush (nI 24) d_B_trueRun_54 (by decide) ?_
    first | refine kx_icmp_ge_n 92 d_B_trueRun_56 (by decide) (by omega) (by omega) ?_ ?_ | refine kx_icmp_ge 92 d_B_trueRun_56 (by decide) ?_ ?_
    · intro h56
      refine kx_aload_n d_B_trueRun_92 rfl rfl ?_
      refine kx_get _ d_B_trueRun_93 f_B_25 hC.bus (by rfl) ?_
      exact kx_aret d_B_trueRun_96 rfl rfl (by decide) (by decide) (hQ w (hr ▸ hC) hO)
    · intro h56
      exact absurd h56 (by omega)
  | succ m ih =>
    intro k o l w hk ho hC hO hl ht
    refine kx_iload d_B_trueRun_52 rfl ?_
    refine kx_bipush (nI 24) d_B_trueRun_54 (by decide) ?_
    first | refine kx_icmp_ge_n 92 d_B_trueRun_56 (by decide) (by omega) (by omega) ?_ ?_ | refine kx_icmp_ge 92 d_B_trueRun_56 (by decide) ?_ ?_
    · intro h56
      first
        | exact absurd h56 (by omega)
        | (have hn : o = none := by cases o with | none => rfl | some x => cases h61
           subst hn
           have hr : l = t := by rw [← ht]; unfold runL; rw [List.append_nil]
           refine kx_aload_n d_B_trueRun_92 rfl rfl ?_
           refine kx_get _ d_B_trueRun_93 f_B_25 hC.bus (by rfl) ?_
           exact kx_aret d_B_trueRun_96 rfl rfl (by decide) (by decide) (hQ w (hr ▸ hC) hO))
    · intro h56
      refine kx_aload d_B_trueRun_59 rfl (by first | rfl | exact kx_rf _) ?_
      refine kx_ifnull (o := o.map ad) 92 d_B_trueRun_61 (by decide) ?_ ?_
      · intro h61
        first
          | exact absurd h56 (by omega)
          | (have hn : o = none := by cases o with | none => rfl | some x => cases h61
             subst hn
             have hr : l = t := by rw [← ht]; unfold runL; rw [List.append_nil]
             refine kx_aload_n d_B_trueRun_92 rfl rfl ?_
             refine kx_get _ d_B_trueRun_93 f_B_25 hC.bus (by rfl) ?_
             exact kx_aret d_B_trueRun_96 rfl rfl (by decide) (by decide) (hQ w (hr ▸ hC) hO))
      · intro a61 h61
        obtain ⟨x, rfl⟩ : ∃ x, o = some x := by
          cases o with
          | none => cases h61
          | some x => exact ⟨x, rfl⟩
        have hx := ho x rfl
        clear ho
        obtain ⟨i, h512, hi⟩ := hI.item hx
        refine kx_aload_n d_B_trueRun_64 rfl (by first | rfl | exact kx_rf _) ?_
        refine kx_get _ d_B_trueRun_65 f_B_25 hC.bus (by rfl) ?_
        refine kx_aload d_B_trueRun_68 rfl (kx_rf _) ?_
        refine kx_stk (st1 := [.ref (ad x), .ref (ad 4)]) rfl ?_
        refine kx_get _ d_B_trueRun_70 f_B_173 (hC.endAt hx) (by rfl) ?_
        rw [hi]
        refine cR_append d_B_trueRun_73 v_B_179 hC hO (rowN_4 n) h512 (by decide) (Nat.le_of_ble_eq_true rfl) (by decide) (by decide) (fun w hC hO => ?_)
        rw [up1_s, if_pos (by omega), up1_up1] at hC
        refine kx_aload d_B_trueRun_76 rfl (kx_rf _) ?_
        refine kx_stk (st1 := [.ref (ad x)]) rfl ?_
        refine kx_get _ d_B_trueRun_78 f_B_183 (hC.endAt hx) (by rfl) ?_
        refine kx_get _ d_B_trueRun_81 f_B_53 (hC.endAt (oppN hx)) (by rfl) ?_
        refine kx_astore d_B_trueRun_84 (by decide) (by first | rfl | exact kx_rf _) ?_
        refine kx_iinc _ d_B_trueRun_86 rfl (by decide) (nI_1 _) ?_
        refine kx_goto 52 d_B_trueRun_89 (by decide) ?_
        refine kx_loc (L1 := [(0, .ref (ad 0)), (4, va_rf ((pe (opp x)).map ad)), (5, .int (nI (k + 1)))]) ⟨rfl, rfl, rfl, trivial⟩ ?_
        exact ih (k + 1) (pe (opp x)) _ w (by omega) (fun y hy => hp _ y (oppN hx) hy) hC hO (by rw [List.length_append, hl]; rfl) (by rw [← ht, List.append_assoc]; congr 1; conv => rhs; unfold runL
                                                                                                                                       rw [hi, clN_nI (by omega)]; rfl)
set_option maxRecDepth 20000 in
set_option maxHeartbeats 4000000 in
theorem m_B_trueRun {E : kx_E} {w : va_W} {n : Nat} {ad : Nat → Nat} {L : Nat → List Nat} {V S : Nat → Nat → Int32} {pe bi : Nat → Option Nat} (hC : Cls E w n ad L V S pe bi) (hp : peOk n pe) (hI : InvS n S) {c : Nat} (hc : c < n) : kx_S E Y_B_trueRun [.ref (ad 0), .ref (ad (carB c))] w (CQ E w n ad (up1 L 4 (truL pe S c)) V S pe bi (some (.ref (ad 4)))) := by
  refine kx_go (by decide) rfl rfl (Nat.le_of_ble_eq_true rfl) (kx_cc rfl (kx_cc rfl kx_c0)) (fun z => ?_)
  have hO : kx_off w w clsN := kx_off.rf
  have e0 : endN n (outE pe 24 (carE c 0)) := outE_N hp _ _ (carE_N hc)
  have e1 : endN n (outE pe 24 (carE c 1)) := outE_N hp _ _ (carE_N hc)
  obtain ⟨i0, h50, hi0⟩ := hI.item e0
  obtain ⟨i1, h51, hi1⟩ := hI.item e1
  refine kx_aload_n d_B_trueRun_0 rfl (by first | rfl | exact kx_rf _) ?_
  refine kx_get _ d_B_trueRun_1 f_B_165 (hC.car c hc) (by rfl) ?_
  refine kx_iconst (nI 0) d_B_trueRun_4 (by decide) ?_
  refine cA_end d_B_trueRun_5 hC hc (by decide) ?_
  refine kx_callV (as := []) (rest := []) d_B_trueRun_6 v_B_169 rfl (hC.endAt (carE_N hc)) rfl rfl (by decide) (by decide) (by decide) (by decide) (by decide) rfl (m_N_outermost hC hp (carE_N (i := 0) hc)) (fun X w1 h => by cases h.1) (fun v w1 hq9 => ?_)
  obtain ⟨hv, hw9⟩ := hq9
  cases hv
  subst hw9
  refine kx_stk (st1 := [.ref (ad (outE pe 24 (carE c 0)))]) rfl ?_
  refine kx_astore_n d_B_trueRun_9 (by decide) (by first | rfl | exact kx_rf _) ?_
  refine kx_aload_n d_B_trueRun_10 rfl (by first | rfl | exact kx_rf _) ?_
  refine kx_get _ d_B_trueRun_11 f_B_165 (hC.car c hc) (by rfl) ?_
  refine kx_iconst (nI 1) d_B_trueRun_14 (by decide) ?_
  refine cA_end d_B_trueRun_15 hC hc (by decide) ?_
  refine kx_callV (as := []) (rest := []) d_B_trueRun_16 v_B_169 rfl (hC.endAt (carE_N hc)) rfl rfl (by decide) (by decide) (by decide) (by decide) (by decide) rfl (m_N_outermost hC hp (carE_N (i := 1) hc)) (fun X w1 h => by cases h.1) (fun v w1 hq9 => ?_)
  obtain ⟨hv, hw9⟩ := hq9
  cases hv
  subst hw9
  refine kx_stk (st1 := [.ref (ad (outE pe 24 (carE c 1)))]) rfl ?_
  refine kx_astore_n d_B_trueRun_19 (by decide) (by first | rfl | exact kx_rf _) ?_
  refine kx_aload_n d_B_trueRun_20 rfl (by first | rfl | exact kx_rf _) ?_
  refine kx_get _ d_B_trueRun_21 f_B_173 (hC.endAt e0) (by rfl) ?_
  rw [hi0]
  refine kx_iconst (nI 1) d_B_trueRun_24 (by decide) ?_
  first | refine kx_ishr _ d_B_trueRun_25 (kx_shr1 (by omega)) ?_ | refine kx_ishr _ d_B_trueRun_25 rfl ?_
  refine kx_aload_n d_B_trueRun_26 rfl (by first | rfl | exact kx_rf _) ?_
  refine kx_get _ d_B_trueRun_27 f_B_173 (hC.endAt e1) (by rfl) ?_
  rw [hi1]
  refine kx_iconst (nI 1) d_B_trueRun_30 (by decide) ?_
  first | refine kx_ishr _ d_B_trueRun_31 (kx_shr1 (by omega)) ?_ | refine kx_ishr _ d_B_trueRun_31 rfl ?_
  first | refine kx_icmp_gt_n 39 d_B_trueRun_32 (by decide) (by omega) (by omega) ?_ ?_ | refine kx_icmp_gt 39 d_B_trueRun_32 (by decide) ?_ ?_
  · intro h32
    obtain ⟨x9, he9, hx9⟩ : ∃ x9, (if i0 / 2 ≤ i1 / 2 then outE pe 24 (carE c 0) else outE pe 24 (carE c 1)) = x9 ∧ endN n x9 := ⟨_, if_neg (by omega), e1⟩
    refine kx_aload_n d_B_trueRun_39 rfl rfl ?_
    refine kx_stk (st1 := [.ref (ad x9)]) (by rw [← he9, if_neg (by omega)]) ?_
    refine kx_astore d_B_trueRun_40 (by decide) (by first | rfl | exact kx_rf _) ?_
    refine kx_aload_n d_B_trueRun_42 rfl (by first | rfl | exact kx_rf _) ?_
    refine kx_get _ d_B_trueRun_43 f_B_25 hC.bus (by rfl) ?_
    refine cR_clear d_B_trueRun_46 v_B_176 hC hO (rowN_4 n) (by decide) (Nat.le_of_ble_eq_true rfl) (by decide) (by decide) (fun w hC hO => ?_)
    refine kx_iconst (nI 0) d_B_trueRun_49 (by decide) ?_
    refine kx_istore d_B_trueRun_50 (by decide) ?_
    refine kx_loc (L1 := [(0, .ref (ad 0)), (4, va_rf ((some x9).map ad)), (5, .int (nI 0))]) ⟨rfl, rfl, rfl, trivial⟩ ?_
    exact l_B_trueRun (t := truL pe S c) hp hI (fun w h1 h2 => ⟨rfl, h1, h2⟩) 24 0 (some x9) _ w rfl (fun x hx => by cases hx; exact hx9) hC hO rfl (by unfold truL truX; rw [hi0, hi1, clN_nI (by omega), clN_nI (by omega), he9]; rfl)
  · intro h32
    obtain ⟨x9, he9, hx9⟩ : ∃ x9, (if i0 / 2 ≤ i1 / 2 then outE pe 24 (carE c 0) else outE pe 24 (carE c 1)) = x9 ∧ endN n x9 := ⟨_, if_pos (by omega), e0⟩
    refine kx_aload_n d_B_trueRun_35 rfl rfl ?_
    refine kx_stk (st1 := [.ref (ad x9)]) (by rw [← he9, if_pos (by omega)]) ?_
    refine kx_goto 40 d_B_trueRun_36 (by decide) ?_
    refine kx_astore d_B_trueRun_40 (by decide) (by first | rfl | exact kx_rf _) ?_
    refine kx_aload_n d_B_trueRun_42 rfl (by first | rfl | exact kx_rf _) ?_
    refine kx_get _ d_B_trueRun_43 f_B_25 hC.bus (by rfl) ?_
    refine cR_clear d_B_trueRun_46 v_B_176 hC hO (rowN_4 n) (by decide) (Nat.le_of_ble_eq_true rfl) (by decide) (by decide) (fun w hC hO => ?_)
    refine kx_iconst (nI 0) d_B_trueRun_49 (by decide) ?_
    refine kx_istore d_B_trueRun_50 (by decide) ?_
    refine kx_loc (L1 := [(0, .ref (ad 0)), (4, va_rf ((some x9).map ad)), (5, .int (nI 0))]) ⟨rfl, rfl, rfl, trivial⟩ ?_
    exact l_B_trueRun (t := truL pe S c) hp hI (fun w h1 h2 => ⟨rfl, h1, h2⟩) 24 0 (some x9) _ w rfl (fun x hx => by cases hx; exact hx9) hC hO rfl (by unfold truL truX; rw [hi0, hi1, clN_nI (by omega), clN_nI (by omega), he9]; rfl)
end
section
/-! ConsistBus: a round, rounds -/
abbrev kx_iae : String := "java/lang/IllegalArgumentException"
abbrev kx_ise : String := "java/lang/IllegalStateException"
def mkC (pe : Nat → Option Nat) (c : Nat) (T : LVS) : LVS := mkE pe c 1 (mkE pe c 0 T)
def mkR (pe : Nat → Option Nat) : Nat → LVS → LVS
  | 0, T => T
  | k + 1, T => mkC pe k (mkR pe k T)
def lisR (pe : Nat → Option Nat) (losses : Int32) : Nat → LVS → LVS
  | 0, T => T
  | k + 1, T => lisT pe losses k (lisR pe losses k T)
def lisK (pe : Nat → Option Nat) (losses : Int32) : Nat → LVS → Nat
  | 0, _ => 0
  | k + 1, T => lisK pe losses k T + lisN pe (lisR pe losses k T).2.2 losses k
theorem mkE_0 (pe : Nat → Option Nat) (c i : Nat) (T : LVS) : (mkE pe c i T).2.2 0 = T.2.2 0 := by
  unfold mkE
  split
  · rfl
  · funext j
    show fillS T.2.2 (carE c i) 0 j = T.2.2 0 j
    unfold fillS
    rw [up2_n (by omega), up2_n (by omega)]
theorem carE_p (c i : Nat) : 0 ≠ carE c i := by unfold carE; split <;> simp only [carB] <;> omega
theorem lookT_0 (e : Nat) (o : Option Nat) (T : LVS) (he : 0 ≠ e) : (lookT e o T).2.2 0 = T.2.2 0 := by
  funext j
  cases o with
  | none =>
    show silS T.2.2 e _ 0 j = _
    unfold silS
    split
    · rw [up2_n he]
    · rw [up2_n he, up2_n he]
  | some q =>
    show heaS T.2.2 e _ 0 j = _
    unfold heaS
    rw [up2_n he, up2_n he]
theorem renT_0 (c : Nat) (T : LVS) : (renT c T).2.2 0 = T.2.2 0 := by
  funext j
  unfold renT
  split
  · rfl
  · dsimp only
    rw [up2_n (by simp only [carB]; omega), up2_n (by simp only [carB]; omega)]
theorem heeT_0 (c : Nat) (o : Option Nat) (T : LVS) : (heeT c o T).2.2 0 = T.2.2 0 := by
  funext j
  cases o with
  | none => rfl
  | some q =>
    show heeS T.1 T.2.2 c q 0 j = _
    unfold heeS
    split
    · rw [up2_n (by simp only [carB]; omega)]
    · rfl
theorem lisT_0 (pe : Nat → Option Nat) (losses : Int32) (c : Nat) (T : LVS) : (lisT pe losses c T).2.2 0 = T.2.2 0 := by
  unfold lisT
  rw [heeT_0, heeT_0]
  show (renT c _).2.2 0 = _
  rw [renT_0, lookT_0 _ _ _ (carE_p c 1), lookT_0 _ _ _ (carE_p c 0)]
theorem lookT_l (e : Nat) (o : Option Nat) (T : LVS) {x : Nat} (h : (T.1 x).length ≤ 24) (h3 : x ≠ e + 3) : ((lookT e o T).1 x).length ≤ 24 := by
  cases o with
  | none =>
    show (silL T.1 e _ x).length ≤ 24
    unfold silL
    split
    · exact h
    · unfold up1
      split
      · exact Nat.zero_le _
      · exact h
  | some q =>
    show (heaL T.1 e _ _ x).length ≤ 24
    unfold heaL
    rw [up1_n h3]
    unfold up1
    split
    · rw [List.length_take]; omega
    · exact h
theorem lisT_inv {n c : Nat} {pe : Nat → Option Nat} {losses : Int32} {T : LVS} (hI : InvS n T.2.2) (hp : peOk n pe) (hc : c < n) (hl : (T.1 (carE c 0 + 1)).length ≤ 24) : InvS n (lisT pe losses c T).2.2 := by
  unfold lisT
  refine heeT_inv (heeT_inv ?_)
  show InvS n (renT c _).2.2
  refine renT_inv (lookT_inv (lookT_inv hI (carE_N hc) (incQ_N hp (carE_N hc))) (carE_N hc) (incQ_N hp (carE_N hc))) ?_
  exact lookT_l _ _ _ (lookT_l _ _ _ hl (by omega)) (by unfold carE; simp only [carB]; split <;> split <;> omega)
theorem mkR_0 (pe : Nat → Option Nat) : ∀ (k : Nat) (T : LVS), (mkR pe k T).2.2 0 = T.2.2 0
  | 0, T => rfl
  | k + 1, T => by
    show (mkE pe k 1 (mkE pe k 0 (mkR pe k T))).2.2 0 = T.2.2 0
    rw [mkE_0, mkE_0, mkR_0 pe k T]
theorem lisR_0 (pe : Nat → Option Nat) (losses : Int32) : ∀ (k : Nat) (T : LVS), (lisR pe losses k T).2.2 0 = T.2.2 0
  | 0, T => rfl
  | k + 1, T => by
    show (lisT pe losses k (lisR pe losses k T)).2.2 0 = T.2.2 0
    rw [lisT_0, lisR_0 pe losses k T]
theorem mkR_inv {n : Nat} {pe : Nat → Option Nat} {T : LVS} (hI : InvS n T.2.2) : ∀ k, k ≤ n → InvS n (mkR pe k T).2.2
  | 0, _ => hI
  | k + 1, h => mkE_inv (mkE_inv (mkR_inv hI k (by omega)) (by omega)) (by omega)
theorem d_B_playRound_0 : decode c_B_playRound 0 = .ok (.iconst 0, 1) := by decide +kernel
theorem d_B_playRound_1 : decode c_B_playRound 1 = .ok (.istore_n 2, 1) := by decide +kernel
theorem d_B_playRound_2 : decode c_B_playRound 2 = .ok (.iload_n 2, 1) := by decide +kernel
theorem d_B_playRound_3 : decode c_B_playRound 3 = .ok (.aload_n 0, 1) := by decide +kernel
theorem d_B_playRound_4 : decode c_B_playRound 4 = .ok (.getfield 37, 3) := by decide +kernel
theorem d_B_playRound_7 : decode c_B_playRound 7 = .ok (.if_icmp .ge 18, 3) := by decide +kernel
theorem d_B_playRound_10 : decode c_B_playRound 10 = .ok (.aload_n 0, 1) := by decide +kernel
theorem d_B_playRound_11 : decode c_B_playRound 11 = .ok (.getfield 11, 3) := by decide +kernel
theorem d_B_playRound_14 : decode c_B_playRound 14 = .ok (.iload_n 2, 1) := by decide +kernel
theorem d_B_playRound_15 : decode c_B_playRound 15 = .ok (.aaload, 1) := by decide +kernel
theorem d_B_playRound_16 : decode c_B_playRound 16 = .ok (.invokevirtual 186, 3) := by decide +kernel
theorem d_B_playRound_19 : decode c_B_playRound 19 = .ok (.iinc 2 1, 3) := by decide +kernel
theorem d_B_playRound_22 : decode c_B_playRound 22 = .ok (.goto (-20), 3) := by decide +kernel
theorem d_B_playRound_25 : decode c_B_playRound 25 = .ok (.iconst 0, 1) := by decide +kernel
theorem d_B_playRound_26 : decode c_B_playRound 26 = .ok (.istore_n 2, 1) := by decide +kernel
theorem d_B_playRound_27 : decode c_B_playRound 27 = .ok (.iconst 0, 1) := by decide +kernel
theorem d_B_playRound_28 : decode c_B_playRound 28 = .ok (.istore_n 3, 1) := by decide +kernel
theorem d_B_playRound_29 : decode c_B_playRound 29 = .ok (.iload_n 3, 1) := by decide +kernel
theorem d_B_playRound_30 : decode c_B_playRound 30 = .ok (.aload_n 0, 1) := by decide +kernel
theorem d_B_playRound_31 : decode c_B_playRound 31 = .ok (.getfield 37, 3) := by decide +kernel
theorem d_B_playRound_34 : decode c_B_playRound 34 = .ok (.if_icmp .ge 26, 3) := by decide +kernel
theorem d_B_playRound_37 : decode c_B_playRound 37 = .ok (.iload_n 2, 1) := by decide +kernel
theorem d_B_playRound_38 : decode c_B_playRound 38 = .ok (.aload_n 0, 1) := by decide +kernel
theorem d_B_playRound_39 : decode c_B_playRound 39 = .ok (.getfield 11, 3) := by decide +kernel
theorem d_B_playRound_42 : decode c_B_playRound 42 = .ok (.iload_n 3, 1) := by decide +kernel
theorem d_B_playRound_43 : decode c_B_playRound 43 = .ok (.aaload, 1) := by decide +kernel
theorem d_B_playRound_44 : decode c_B_playRound 44 = .ok (.iload_n 1, 1) := by decide +kernel
theorem d_B_playRound_45 : decode c_B_playRound 45 = .ok (.aload_n 0, 1) := by decide +kernel
theorem d_B_playRound_46 : decode c_B_playRound 46 = .ok (.getfield 18, 3) := by decide +kernel
theorem d_B_playRound_49 : decode c_B_playRound 49 = .ok (.invokevirtual 189, 3) := by decide +kernel
theorem d_B_playRound_52 : decode c_B_playRound 52 = .ok (.iadd, 1) := by decide +kernel
theorem d_B_playRound_53 : decode c_B_playRound 53 = .ok (.istore_n 2, 1) := by decide +kernel
theorem d_B_playRound_54 : decode c_B_playRound 54 = .ok (.iinc 3 1, 3) := by decide +kernel
theorem d_B_playRound_57 : decode c_B_playRound 57 = .ok (.goto (-28), 3) := by decide +kernel
theorem d_B_playRound_60 : decode c_B_playRound 60 = .ok (.iload_n 2, 1) := by decide +kernel
theorem d_B_playRound_61 : decode c_B_playRound 61 = .ok (.ireturn, 1) := by decide +kernel
set_option maxRecDepth 20000 in
set_option maxHeartbeats 4000000 in
theorem l_B_playRound_2 {E : kx_E} {n : Nat} {ad : Nat → Nat} {w0 : va_W} {T : LVS} {pe bi : Nat → Option Nat} (hp : peOk n pe) (h24 : n ≤ 24) (hn : T.2.2 0 4 = nI n) {losses : Int32} {z : kx_Z} {Q : kx_O → va_W → Prop} (hT : InvS n T.2.2) (hQ : ∀ w, Cls E w n ad (lisR pe losses n T).1 (lisR pe losses n T).2.1 (lisR pe losses n T).2.2 pe bi → kx_off w0 w clsN → InvS n (lisR pe losses n T).2.2 → Q (.inl (some (.int (nI (lisK pe losses n T))))) w) :
    ∀ (m k : Nat) (w : va_W), m + k = n → Cls E w n ad (lisR pe losses k T).1 (lisR pe losses k T).2.1 (lisR pe losses k T).2.2 pe bi → kx_off w0 w clsN → InvS n (lisR pe losses k T).2.2 → kx_R E Y_B_playRound z 29 [(0, .ref (ad 0)), (1, .int losses), (2, .int (nI (lisK pe losses k T))), (3, .int (nI k))] [] w 0 0 Q := by
  intro m
  induction m with
  | zero =>
    intro k w hk hC hO hI
    have hk : k = n := by omega
    subst hk
    have hn9 : (lisR pe losses k T).2.2 0 4 = nI k := by rw [lisR_0]; exact hn
    refine kx_iload_n d_B_playRound_29 rfl ?_
    refine kx_aload_n d_B_playRound_30 rfl (by first | rfl | exact kx_rf _) ?_
    refine kx_get _ d_B_playRound_31 f_B_37 hC.bus (by rfl) ?_
    rw [hn9]
    first | refine kx_icmp_ge_n 60 d_B_playRound_34 (by decide) (by omega) (by omega) ?_ ?_ | refine kx_icmp_ge 60 d_B_playRound_34 (by decide) ?_ ?_
    · intro h34
      refine kx_iload_n d_B_playRound_60 rfl ?_
      refine kx_iret d_B_playRound_61 rfl (by decide) (by decide) ?_
      exact hQ w hC hO hI
    · intro h34
      exact absurd h34 (by omega)
  | succ m ih =>
    intro k w hk hC hO hI
    have hn9 : (lisR pe losses k T).2.2 0 4 = nI n := by rw [lisR_0]; exact hn
    have hkn : k < n := by omega
    have hI2 := lisT_inv (losses := losses) hI hp hkn (hC.row _ (rowN_e1 (carE_N hkn))).2.2.1
    refine kx_iload_n d_B_playRound_29 rfl ?_
    refine kx_aload_n d_B_playRound_30 rfl (by first | rfl | exact kx_rf _) ?_
    refine kx_get _ d_B_playRound_31 f_B_37 hC.bus (by rfl) ?_
    rw [hn9]
    first | refine kx_icmp_ge_n 60 d_B_playRound_34 (by decide) (by omega) (by omega) ?_ ?_ | refine kx_icmp_ge 60 d_B_playRound_34 (by decide) ?_ ?_
    · intro h34
      exact absurd h34 (by omega)
    · intro h34
      refine kx_iload_n d_B_playRound_37 rfl ?_
      refine kx_aload_n d_B_playRound_38 rfl (by first | rfl | exact kx_rf _) ?_
      refine kx_get _ d_B_playRound_39 f_B_11 hC.bus (by rfl) ?_
      refine kx_iload_n d_B_playRound_42 rfl ?_
      obtain ⟨f9, hf1, hf2⟩ := hC.cars
      refine kx_aald d_B_playRound_43 hf1 rfl (by omega) (by decide) ?_
      rw [hf2 k (by omega)]
      refine kx_stk (st1 := [.ref (ad (carB k)), .int (nI (lisK pe losses k T))]) rfl ?_
      refine kx_iload_n d_B_playRound_44 rfl ?_
      refine kx_aload_n d_B_playRound_45 rfl (by first | rfl | exact kx_rf _) ?_
      refine kx_get _ d_B_playRound_46 f_B_18 hC.bus (by rfl) ?_
      refine kx_callV (as := [.int losses, .ref (ad 3)]) (rest := [.int (nI (lisK pe losses k T))]) d_B_playRound_49 v_B_189 rfl (hC.car k hkn) rfl rfl (by decide) (by decide) (Nat.le_of_ble_eq_true rfl) (by decide) (by decide) rfl (m_C_listen hC hp hkn hI losses) (fun X w1 h => by cases h.1) (fun v w hq9 => ?_)
      obtain ⟨hv, hC, hO9⟩ := hq9
      cases hv
      have hO := hO.tr hO9 (fun _ h => h) (fun _ h => h)
      refine kx_stk (st1 := [.int (nI (lisN pe (lisR pe losses k T).2.2 losses k)), .int (nI (lisK pe losses k T))]) rfl ?_
      first | refine kx_iadd _ d_B_playRound_52 (nI_add _ _) ?_ | refine kx_iadd _ d_B_playRound_52 rfl ?_
      refine kx_istore_n d_B_playRound_53 (by decide) ?_
      refine kx_iinc _ d_B_playRound_54 rfl (by decide) (nI_1 _) ?_
      refine kx_goto 29 d_B_playRound_57 (by decide) ?_
      refine kx_loc (L1 := [(0, .ref (ad 0)), (1, .int losses), (2, .int (nI (lisK pe losses (k + 1) T))), (3, .int (nI (k + 1)))]) ⟨rfl, rfl, rfl, rfl, trivial⟩ ?_
      exact ih (k + 1) w (by omega) hC hO hI2
set_option maxRecDepth 20000 in
set_option maxHeartbeats 4000000 in
theorem l_B_playRound_1 {E : kx_E} {n : Nat} {ad : Nat → Nat} {w0 : va_W} {T : LVS} {pe bi : Nat → Option Nat} (hp : peOk n pe) (h24 : n ≤ 24) (hn : T.2.2 0 4 = nI n) {losses : Int32} {z : kx_Z} {Q : kx_O → va_W → Prop} (hT : InvS n T.2.2) (hQ : ∀ w, Cls E w n ad (mkR pe n T).1 (mkR pe n T).2.1 (mkR pe n T).2.2 pe bi → kx_off w0 w clsN → kx_R E Y_B_playRound z 25 [(0, .ref (ad 0)), (1, .int losses)] [] w 0 0 Q) :
    ∀ (m k : Nat) (w : va_W), m + k = n → Cls E w n ad (mkR pe k T).1 (mkR pe k T).2.1 (mkR pe k T).2.2 pe bi → kx_off w0 w clsN → kx_R E Y_B_playRound z 2 [(0, .ref (ad 0)), (1, .int losses), (2, .int (nI k))] [] w 0 0 Q := by
  intro m
  induction m with
  | zero =>
    intro k w hk hC hO
    have hk : k = n := by omega
    subst hk
    have hn9 : (mkR pe k T).2.2 0 4 = nI k := by rw [mkR_0]; exact hn
    refine kx_iload_n d_B_playRound_2 rfl ?_
    refine kx_aload_n d_B_playRound_3 rfl (by first | rfl | exact kx_rf _) ?_
    refine kx_get _ d_B_playRound_4 f_B_37 hC.bus (by rfl) ?_
    rw [hn9]
    first | refine kx_icmp_ge_n 25 d_B_playRound_7 (by decide) (by omega) (by omega) ?_ ?_ | refine kx_icmp_ge 25 d_B_playRound_7 (by decide) ?_ ?_
    · intro h7
      refine kx_loc (L1 := [(0, .ref (ad 0)), (1, .int losses)]) ⟨rfl, rfl, trivial⟩ ?_
      exact hQ w hC hO
    · intro h7
      exact absurd h7 (by omega)
  | succ m ih =>
    intro k w hk hC hO
    have hn9 : (mkR pe k T).2.2 0 4 = nI n := by rw [mkR_0]; exact hn
    have hkn : k < n := by omega
    have hI := mkR_inv (pe := pe) hT k (by omega)
    refine kx_iload_n d_B_playRound_2 rfl ?_
    refine kx_aload_n d_B_playRound_3 rfl (by first | rfl | exact kx_rf _) ?_
    refine kx_get _ d_B_playRound_4 f_B_37 hC.bus (by rfl) ?_
    rw [hn9]
    first | refine kx_icmp_ge_n 25 d_B_playRound_7 (by decide) (by omega) (by omega) ?_ ?_ | refine kx_icmp_ge 25 d_B_playRound_7 (by decide) ?_ ?_
    · intro h7
      exact absurd h7 (by omega)
    · intro h7
      refine kx_aload_n d_B_playRound_10 rfl (by first | rfl | exact kx_rf _) ?_
      refine kx_get _ d_B_playRound_11 f_B_11 hC.bus (by rfl) ?_
      refine kx_iload_n d_B_playRound_14 rfl ?_
      obtain ⟨f9, hf1, hf2⟩ := hC.cars
      refine kx_aald d_B_playRound_15 hf1 rfl (by omega) (by decide) ?_
      rw [hf2 k (by omega)]
      refine kx_stk (st1 := [.ref (ad (carB k))]) rfl ?_
      refine kx_callV (as := []) (rest := []) d_B_playRound_16 v_B_186 rfl (hC.car k hkn) rfl rfl (by decide) (by decide) (Nat.le_of_ble_eq_true rfl) (by decide) (by decide) rfl (m_C_makeFrames hC hkn hI) (fun X w1 h => by cases h.1) (fun v w hq9 => ?_)
      obtain ⟨hv, hC, hO9⟩ := hq9
      cases hv
      have hO := hO.tr hO9 (fun _ h => h) (fun _ h => h)
      refine kx_stk (st1 := []) rfl ?_
      refine kx_iinc _ d_B_playRound_19 rfl (by decide) (nI_1 _) ?_
      refine kx_goto 2 d_B_playRound_22 (by decide) ?_
      refine kx_loc (L1 := [(0, .ref (ad 0)), (1, .int losses), (2, .int (nI (k + 1)))]) ⟨rfl, rfl, rfl, trivial⟩ ?_
      exact ih (k + 1) w (by omega) hC hO
def plT (n : Nat) (pe : Nat → Option Nat) (losses : Int32) (T : LVS) : LVS := lisR pe losses n (mkR pe n T)
def plN (n : Nat) (pe : Nat → Option Nat) (losses : Int32) (T : LVS) : Nat := lisK pe losses n (mkR pe n T)
set_option maxRecDepth 20000 in
set_option maxHeartbeats 4000000 in
theorem m_B_playRound {E : kx_E} {w : va_W} {n : Nat} {ad : Nat → Nat} {pe bi : Nat → Option Nat} {T : LVS} (hC : Cls E w n ad T.1 T.2.1 T.2.2 pe bi) (hp : peOk n pe) (hI : InvS n T.2.2) (h24 : n ≤ 24) (hn : T.2.2 0 4 = nI n) (losses : Int32) : kx_S E Y_B_playRound [.ref (ad 0), .int losses] w (fun o w1 => CT E w n ad pe bi (plT n pe losses T) (some (.int (nI (plN n pe losses T)))) o w1 ∧ InvS n (plT n pe losses T).2.2) := by
  refine kx_go (by decide) rfl rfl (Nat.le_of_ble_eq_true rfl) (kx_cc rfl (kx_cc rfl kx_c0)) (fun z => ?_)
  have hO : kx_off w w clsN := kx_off.rf
  refine kx_iconst (nI 0) d_B_playRound_0 (by decide) ?_
  refine kx_istore_n d_B_playRound_1 (by decide) ?_
  refine kx_loc (L1 := [(0, .ref (ad 0)), (1, .int losses), (2, .int (nI 0))]) ⟨rfl, rfl, rfl, trivial⟩ ?_
  refine l_B_playRound_1 hp h24 hn hI (fun w hC hO => ?_) n 0 w rfl hC hO
  refine kx_iconst (nI 0) d_B_playRound_25 (by decide) ?_
  refine kx_istore_n d_B_playRound_26 (by decide) ?_
  refine kx_iconst (nI 0) d_B_playRound_27 (by decide) ?_
  refine kx_istore_n d_B_playRound_28 (by decide) ?_
  refine kx_loc (L1 := [(0, .ref (ad 0)), (1, .int losses), (2, .int (nI 0)), (3, .int (nI 0))]) ⟨rfl, rfl, rfl, rfl, trivial⟩ ?_
  exact l_B_playRound_2 hp h24 (by rw [mkR_0]; exact hn) (mkR_inv hI n (Nat.le_refl n)) (fun w hC hO hI9 => ⟨⟨rfl, hC, hO⟩, hI9⟩) n 0 w rfl hC hO (mkR_inv hI n (Nat.le_refl n))
theorem okUp_0 {n k : Nat} (v : Int32) (hk : k ≠ 99) : okUp n 0 k v := ⟨fun h => by unfold endN at h; omega, fun e he h => by omega, fun c hc h => by simp only [carB] at h; omega⟩
theorem i32_nle {x y : Int32} : ¬ y ≤ x ↔ x < y := ⟨fun h => Decidable.byContradiction (fun q => h (i32_nlt.mp q)), fun h q => i32_nlt.mpr q h⟩
def rdsT (n : Nat) (pe : Nat → Option Nat) (losses : Int32) : Nat → LVS → LVS
  | 0, T => T
  | k + 1, T => plT n pe losses (rdsT n pe losses k T)
def rdsN (n : Nat) (pe : Nat → Option Nat) (losses : Int32) : Nat → LVS → Nat
  | 0, _ => 0
  | k + 1, T => rdsN n pe losses k T + plN n pe losses (rdsT n pe losses k T)
theorem rdsT_0 (n : Nat) (pe : Nat → Option Nat) (losses : Int32) : ∀ (k : Nat) (T : LVS), (rdsT n pe losses k T).2.2 0 = T.2.2 0
  | 0, T => rfl
  | k + 1, T => by
    show (lisR pe losses n (mkR pe n (rdsT n pe losses k T))).2.2 0 = T.2.2 0
    rw [lisR_0, mkR_0, rdsT_0 n pe losses k T]
def rdT (n : Nat) (pe : Nat → Option Nat) (losses : Int32) (k : Nat) (T : LVS) : LVS := ((rdsT n pe losses k T).1, (rdsT n pe losses k T).2.1, up2 (up2 (rdsT n pe losses k T).2.2 0 7 (T.2.2 0 7 + nI k)) 0 8 (T.2.2 0 8 + nI (rdsN n pe losses k T)))
theorem d_B_rounds_0 : decode c_B_rounds 0 = .ok (.iload_n 1, 1) := by decide +kernel
theorem d_B_rounds_1 : decode c_B_rounds 1 = .ok (.ifCond .lt 10, 3) := by decide +kernel
theorem d_B_rounds_4 : decode c_B_rounds 4 = .ok (.iload_n 1, 1) := by decide +kernel
theorem d_B_rounds_5 : decode c_B_rounds 5 = .ok (.sipush 200, 3) := by decide +kernel
theorem d_B_rounds_8 : decode c_B_rounds 8 = .ok (.if_icmp .le 13, 3) := by decide +kernel
theorem d_B_rounds_11 : decode c_B_rounds 11 = .ok (.new 30, 3) := by decide +kernel
theorem d_B_rounds_14 : decode c_B_rounds 14 = .ok (.dup, 1) := by decide +kernel
theorem d_B_rounds_15 : decode c_B_rounds 15 = .ok (.ldc 98, 2) := by decide +kernel
theorem d_B_rounds_17 : decode c_B_rounds 17 = .ok (.invokespecial 34, 3) := by decide +kernel
theorem d_B_rounds_20 : decode c_B_rounds 20 = .ok (.athrow, 1) := by decide +kernel
theorem d_B_rounds_21 : decode c_B_rounds 21 = .ok (.iconst 0, 1) := by decide +kernel
theorem d_B_rounds_22 : decode c_B_rounds 22 = .ok (.istore_n 3, 1) := by decide +kernel
theorem d_B_rounds_23 : decode c_B_rounds 23 = .ok (.iconst 0, 1) := by decide +kernel
theorem d_B_rounds_24 : decode c_B_rounds 24 = .ok (.istore 4, 2) := by decide +kernel
theorem d_B_rounds_26 : decode c_B_rounds 26 = .ok (.iload 4, 2) := by decide +kernel
theorem d_B_rounds_28 : decode c_B_rounds 28 = .ok (.iload_n 1, 1) := by decide +kernel
theorem d_B_rounds_29 : decode c_B_rounds 29 = .ok (.if_icmp .ge 17, 3) := by decide +kernel
theorem d_B_rounds_32 : decode c_B_rounds 32 = .ok (.iload_n 3, 1) := by decide +kernel
theorem d_B_rounds_33 : decode c_B_rounds 33 = .ok (.aload_n 0, 1) := by decide +kernel
theorem d_B_rounds_34 : decode c_B_rounds 34 = .ok (.iload_n 2, 1) := by decide +kernel
theorem d_B_rounds_35 : decode c_B_rounds 35 = .ok (.invokevirtual 100, 3) := by decide +kernel
theorem d_B_rounds_38 : decode c_B_rounds 38 = .ok (.iadd, 1) := by decide +kernel
theorem d_B_rounds_39 : decode c_B_rounds 39 = .ok (.istore_n 3, 1) := by decide +kernel
theorem d_B_rounds_40 : decode c_B_rounds 40 = .ok (.iinc 4 1, 3) := by decide +kernel
theorem d_B_rounds_43 : decode c_B_rounds 43 = .ok (.goto (-17), 3) := by decide +kernel
theorem d_B_rounds_46 : decode c_B_rounds 46 = .ok (.aload_n 0, 1) := by decide +kernel
theorem d_B_rounds_47 : decode c_B_rounds 47 = .ok (.dup, 1) := by decide +kernel
theorem d_B_rounds_48 : decode c_B_rounds 48 = .ok (.getfield 103, 3) := by decide +kernel
theorem d_B_rounds_51 : decode c_B_rounds 51 = .ok (.iload_n 1, 1) := by decide +kernel
theorem d_B_rounds_52 : decode c_B_rounds 52 = .ok (.iadd, 1) := by decide +kernel
theorem d_B_rounds_53 : decode c_B_rounds 53 = .ok (.putfield 103, 3) := by decide +kernel
theorem d_B_rounds_56 : decode c_B_rounds 56 = .ok (.aload_n 0, 1) := by decide +kernel
theorem d_B_rounds_57 : decode c_B_rounds 57 = .ok (.dup, 1) := by decide +kernel
theorem d_B_rounds_58 : decode c_B_rounds 58 = .ok (.getfield 106, 3) := by decide +kernel
theorem d_B_rounds_61 : decode c_B_rounds 61 = .ok (.iload_n 3, 1) := by decide +kernel
theorem d_B_rounds_62 : decode c_B_rounds 62 = .ok (.iadd, 1) := by decide +kernel
theorem d_B_rounds_63 : decode c_B_rounds 63 = .ok (.putfield 106, 3) := by decide +kernel
theorem d_B_rounds_66 : decode c_B_rounds 66 = .ok (.iload_n 3, 1) := by decide +kernel
theorem d_B_rounds_67 : decode c_B_rounds 67 = .ok (.ireturn, 1) := by decide +kernel
set_option maxRecDepth 20000 in
set_option maxHeartbeats 4000000 in
theorem l_B_rounds {E : kx_E} {n : Nat} {ad : Nat → Nat} {w0 : va_W} {T : LVS} {pe bi : Nat → Option Nat} (hp : peOk n pe) (h24 : n ≤ 24) (hn : T.2.2 0 4 = nI n) {losses : Int32} {z : kx_Z} {Q : kx_O → va_W → Prop} {r : Nat} (hr : r ≤ 200) (hQ : ∀ w, Cls E w n ad (rdsT n pe losses r T).1 (rdsT n pe losses r T).2.1 (rdsT n pe losses r T).2.2 pe bi → kx_off w0 w clsN → InvS n (rdsT n pe losses r T).2.2 → kx_R E Y_B_rounds z 46 [(0, .ref (ad 0)), (1, .int (nI r)), (3, .int (nI (rdsN n pe losses r T)))] [] w 0 0 Q) :
    ∀ (m k : Nat) (w : va_W), m + k = r → Cls E w n ad (rdsT n pe losses k T).1 (rdsT n pe losses k T).2.1 (rdsT n pe losses k T).2.2 pe bi → kx_off w0 w clsN → InvS n (rdsT n pe losses k T).2.2 → kx_R E Y_B_rounds z 26 [(0, .ref (ad 0)), (1, .int (nI r)), (2, .int losses), (3, .int (nI (rdsN n pe losses k T))), (4, .int (nI k))] [] w 0 0 Q := by
  intro m
  induction m with
  | zero =>
    intro k w hk hC hO hI
    have hk : k = r := by omega
    subst hk
    refine kx_iload d_B_rounds_26 rfl ?_
    refine kx_iload_n d_B_rounds_28 rfl ?_
    first | refine kx_icmp_ge_n 46 d_B_rounds_29 (by decide) (by omega) (by omega) ?_ ?_ | refine kx_icmp_ge 46 d_B_rounds_29 (by decide) ?_ ?_
    · intro h29
      refine kx_loc (L1 := [(0, .ref (ad 0)), (1, .int (nI k)), (3, .int (nI (rdsN n pe losses k T)))]) ⟨rfl, rfl, rfl, trivial⟩ ?_
      exact hQ w hC hO hI
    · intro h29
      exact absurd h29 (by omega)
  | succ m ih =>
    intro k w hk hC hO hI
    have hn9 : (rdsT n pe losses k T).2.2 0 4 = nI n := by rw [rdsT_0]; exact hn
    refine kx_iload d_B_rounds_26 rfl ?_
    refine kx_iload_n d_B_rounds_28 rfl ?_
    first | refine kx_icmp_ge_n 46 d_B_rounds_29 (by decide) (by omega) (by omega) ?_ ?_ | refine kx_icmp_ge 46 d_B_rounds_29 (by decide) ?_ ?_
    · intro h29
      exact absurd h29 (by omega)
    · intro h29
      refine kx_iload_n d_B_rounds_32 rfl ?_
      refine kx_aload_n d_B_rounds_33 rfl (by first | rfl | exact kx_rf _) ?_
      refine kx_iload_n d_B_rounds_34 rfl ?_
      refine kx_callV (as := [.int losses]) (rest := [.int (nI (rdsN n pe losses k T))]) d_B_rounds_35 v_B_100 rfl (hC.bus) rfl rfl (by decide) (by decide) (Nat.le_of_ble_eq_true rfl) (by decide) (by decide) rfl (m_B_playRound hC hp hI h24 hn9 losses) (fun X w1 h => by cases h.1.1) (fun v w hq9 => ?_)
      obtain ⟨⟨hv, hC, hO9⟩, hI⟩ := hq9
      cases hv
      have hO := hO.tr hO9 (fun _ h => h) (fun _ h => h)
      refine kx_stk (st1 := [.int (nI (plN n pe losses (rdsT n pe losses k T))), .int (nI (rdsN n pe losses k T))]) rfl ?_
      first | refine kx_iadd _ d_B_rounds_38 (nI_add _ _) ?_ | refine kx_iadd _ d_B_rounds_38 rfl ?_
      refine kx_istore_n d_B_rounds_39 (by decide) ?_
      refine kx_iinc _ d_B_rounds_40 rfl (by decide) (nI_1 _) ?_
      refine kx_goto 26 d_B_rounds_43 (by decide) ?_
      refine kx_loc (L1 := [(0, .ref (ad 0)), (1, .int (nI r)), (2, .int losses), (3, .int (nI (rdsN n pe losses (k + 1) T))), (4, .int (nI (k + 1)))]) ⟨rfl, rfl, rfl, rfl, rfl, trivial⟩ ?_
      exact ih (k + 1) w (by omega) hC hO hI
set_option maxRecDepth 20000 in
set_option maxHeartbeats 4000000 in
theorem m_B_rounds {E : kx_E} {w : va_W} {n : Nat} {ad : Nat → Nat} {pe bi : Nat → Option Nat} {T : LVS} (hC : Cls E w n ad T.1 T.2.1 T.2.2 pe bi) (hp : peOk n pe) (hI : InvS n T.2.2) (h24 : n ≤ 24) (hn : T.2.2 0 4 = nI n) {r : Nat} (hr : r ≤ 200) (losses : Int32) : kx_S E Y_B_rounds [.ref (ad 0), .int (nI r), .int losses] w (fun o w1 => CT E w n ad pe bi (rdT n pe losses r T) (some (.int (nI (rdsN n pe losses r T)))) o w1 ∧ InvS n (rdT n pe losses r T).2.2) := by
  refine kx_go (by decide) rfl rfl (Nat.le_of_ble_eq_true rfl) (kx_cc rfl (kx_cc rfl (kx_cc rfl kx_c0))) (fun z => ?_)
  have hO : kx_off w w clsN := kx_off.rf
  refine kx_iload_n d_B_rounds_0 rfl ?_
  refine kx_if_lt_n 11 d_B_rounds_1 (by decide) (by omega) ?_
  refine kx_iload_n d_B_rounds_4 rfl ?_
  refine kx_sipush (nI 200) d_B_rounds_5 (by decide) ?_
  first | refine kx_icmp_le_n 21 d_B_rounds_8 (by decide) (by omega) (by omega) ?_ ?_ | refine kx_icmp_le 21 d_B_rounds_8 (by decide) ?_ ?_
  · intro h8
    refine kx_iconst (nI 0) d_B_rounds_21 (by decide) ?_
    refine kx_istore_n d_B_rounds_22 (by decide) ?_
    refine kx_iconst (nI 0) d_B_rounds_23 (by decide) ?_
    refine kx_istore d_B_rounds_24 (by decide) ?_
    refine kx_loc (L1 := [(0, .ref (ad 0)), (1, .int (nI r)), (2, .int losses), (3, .int (nI (rdsN n pe losses 0 T))), (4, .int (nI 0))]) ⟨rfl, rfl, rfl, rfl, rfl, trivial⟩ ?_
    refine l_B_rounds hp h24 hn hr (fun w hC hO hI => ?_) r 0 w rfl hC hO hI
    have h7 : (rdsT n pe losses r T).2.2 0 7 = T.2.2 0 7 := by rw [rdsT_0]
    have h8 : (rdsT n pe losses r T).2.2 0 8 = T.2.2 0 8 := by rw [rdsT_0]
    refine kx_aload_n d_B_rounds_46 rfl (by first | rfl | exact kx_rf _) ?_
    refine kx_dup d_B_rounds_47 (by first | rfl | exact kx_rfc _) ?_
    refine kx_get _ d_B_rounds_48 f_B_103 hC.bus (by rfl) ?_
    rw [h7]
    refine kx_iload_n d_B_rounds_51 rfl ?_
    refine kx_iadd _ d_B_rounds_52 rfl ?_
    refine cB_put7 d_B_rounds_53 f_B_103 hC hO (fun w hC hO => ?_)
    refine kx_aload_n d_B_rounds_56 rfl (by first | rfl | exact kx_rf _) ?_
    refine kx_dup d_B_rounds_57 (by first | rfl | exact kx_rfc _) ?_
    refine kx_get _ d_B_rounds_58 f_B_106 hC.bus (by rfl) ?_
    rw [up2_k (by decide), h8]
    refine kx_iload_n d_B_rounds_61 rfl ?_
    refine kx_iadd _ d_B_rounds_62 rfl ?_
    refine cB_put8 d_B_rounds_63 f_B_106 hC hO (fun w hC hO => ?_)
    refine kx_iload_n d_B_rounds_66 rfl ?_
    refine kx_iret d_B_rounds_67 rfl (by decide) (by decide) ?_
    exact ⟨⟨rfl, hC, hO⟩, (hI.up (okUp_0 _ (by decide))).up (okUp_0 _ (by decide))⟩
  · intro h8
    exact absurd h8 (by omega)
set_option maxRecDepth 20000 in
set_option maxHeartbeats 4000000 in
theorem m_B_rounds_no {E : kx_E} {w : va_W} {a : Nat} {v losses : Int32} (hv : v < 0 ∨ nI 200 < v) : kx_S E Y_B_rounds [.ref a, .int v, .int losses] w (fun o w1 => o = .inr kx_iae ∧ w1 = w) := by
  refine kx_go (by decide) rfl rfl (Nat.le_of_ble_eq_true rfl) (kx_cc rfl (kx_cc rfl (kx_cc rfl kx_c0))) (fun z => ?_)
  refine kx_iload_n d_B_rounds_0 rfl ?_
  refine kx_if_lt 11 d_B_rounds_1 (by decide) ?_ ?_
  · intro h1
    exact kx_throw d_B_rounds_11 d_B_rounds_14 d_B_rounds_15 d_B_rounds_17 d_B_rounds_20 t_B_98 rfl (by decide) (Nat.le_of_ble_eq_true rfl) (by decide) (by decide) ⟨rfl, rfl⟩
  · intro h1
    refine kx_iload_n d_B_rounds_4 rfl ?_
    refine kx_sipush (nI 200) d_B_rounds_5 (by decide) ?_
    refine kx_icmp_le 21 d_B_rounds_8 (by decide) ?_ ?_
    · intro h8
      exact absurd hv (by rintro (h | h); exact h1 h; exact absurd h8 (i32_nle.mpr h))
    · intro h8
      exact kx_throw d_B_rounds_11 d_B_rounds_14 d_B_rounds_15 d_B_rounds_17 d_B_rounds_20 t_B_98 rfl (by decide) (Nat.le_of_ble_eq_true rfl) (by decide) (by decide) ⟨rfl, rfl⟩
end
section
/-! ConsistBus: its other calls but add -/
theorem carI_in {bi : Nat → Option Nat} {id : Int32} {c : Nat} (h : carI bi id = some c) : ∃ j, 1 ≤ j ∧ j ≤ 255 ∧ id = nI j ∧ bi j = some c := by
  have h0 := h
  unfold carI at h
  split at h
  · cases h
  · rename_i hn
    obtain ⟨j, h1, h2, rfl⟩ := i32_in (a := 1) (b := 255) (by decide) (by decide) (fun q => hn (Or.inl q)) (fun q => hn (Or.inr q))
    rw [clN_nI (by omega)] at h
    exact ⟨j, h1, h2, rfl, h⟩
theorem endQ_c {bi : Nat → Option Nat} {id e : Int32} {x : Nat} (h : endQ bi id e = some x) : ∃ c, carI bi id = some c ∧ (x = carE c 0 ∨ x = carE c 1) := by
  unfold endQ at h
  cases hc : carI bi id with
  | none => rw [hc] at h; cases h
  | some c =>
    rw [hc] at h
    dsimp only at h
    refine ⟨c, rfl, ?_⟩
    split at h
    · cases h; exact Or.inl rfl
    · split at h
      · cases h; exact Or.inr rfl
      · cases h
theorem d_B_reset_0 : decode c_B_reset 0 = .ok (.aload_n 0, 1) := by decide +kernel
theorem d_B_reset_1 : decode c_B_reset 1 = .ok (.iload_n 1, 1) := by decide +kernel
theorem d_B_reset_2 : decode c_B_reset 2 = .ok (.invokevirtual 59, 3) := by decide +kernel
theorem d_B_reset_5 : decode c_B_reset 5 = .ok (.invokevirtual 95, 3) := by decide +kernel
theorem d_B_reset_8 : decode c_B_reset 8 = .ok (.return_, 1) := by decide +kernel
set_option maxRecDepth 20000 in
set_option maxHeartbeats 4000000 in
theorem m_B_reset_no {E : kx_E} {w : va_W} {n : Nat} {ad : Nat → Nat} {L : Nat → List Nat} {V S : Nat → Nat → Int32} {pe bi : Nat → Option Nat} (hC : Cls E w n ad L V S pe bi) {car : Int32} (hc0 : carI bi car = none) : kx_S E Y_B_reset [.ref (ad 0), .int car] w (fun o w1 => o = .inr kx_nse ∧ w1 = w) := by
  refine kx_go (by decide) rfl rfl (Nat.le_of_ble_eq_true rfl) (kx_cc rfl (kx_cc rfl kx_c0)) (fun z => ?_)
  have hO : kx_off w w clsN := kx_off.rf
  refine kx_aload_n d_B_reset_0 rfl (by first | rfl | exact kx_rf _) ?_
  refine kx_iload_n d_B_reset_1 rfl ?_
  refine kx_callV (as := [.int car]) (rest := []) d_B_reset_2 v_B_59 rfl (hC.bus) rfl rfl (by decide) (by decide) (Nat.le_of_ble_eq_true rfl) (by decide) (by decide) rfl (m_B_carOf_no hC hc0) (fun X w1 hq => ⟨rfl, by cases hq.1; exact ⟨rfl, hq.2⟩⟩) (fun v w1 hq => by cases hq.1)
set_option maxRecDepth 20000 in
set_option maxHeartbeats 4000000 in
theorem m_B_reset {E : kx_E} {w : va_W} {n : Nat} {ad : Nat → Nat} {L : Nat → List Nat} {V S : Nat → Nat → Int32} {pe bi : Nat → Option Nat} (hC : Cls E w n ad L V S pe bi) (hb : biOk n bi) {car : Int32} {c : Nat} (hc0 : carI bi car = some c) : kx_S E Y_B_reset [.ref (ad 0), .int car] w (CQ E w n ad (forL L c) (up1 V (carB c + 30) (fun _ => -1)) (forS S c) pe bi none) := by
  refine kx_go (by decide) rfl rfl (Nat.le_of_ble_eq_true rfl) (kx_cc rfl (kx_cc rfl kx_c0)) (fun z => ?_)
  have hO : kx_off w w clsN := kx_off.rf
  have hc := carI_c hb hc0
  refine kx_aload_n d_B_reset_0 rfl (by first | rfl | exact kx_rf _) ?_
  refine kx_iload_n d_B_reset_1 rfl ?_
  refine kx_callV (as := [.int car]) (rest := []) d_B_reset_2 v_B_59 rfl (hC.bus) rfl rfl (by decide) (by decide) (Nat.le_of_ble_eq_true rfl) (by decide) (by decide) rfl (m_B_carOf hC hc0) (fun X w1 h => by cases h.1) (fun v w1 hq9 => ?_)
  obtain ⟨hv, hw9⟩ := hq9
  cases hv
  subst hw9
  refine kx_stk (st1 := [.ref (ad (carB c))]) rfl ?_
  refine kx_callV (as := []) (rest := []) d_B_reset_5 v_B_95 rfl (hC.car c hc) rfl rfl (by decide) (by decide) (Nat.le_of_ble_eq_true rfl) (by decide) (by decide) rfl (m_C_forget hC hc) (fun X w1 h => by cases h.1) (fun v w hq9 => ?_)
  obtain ⟨hv, hC, hO9⟩ := hq9
  cases hv
  have hO := hO.tr hO9 (fun _ h => h) (fun _ h => h)
  refine kx_stk (st1 := []) rfl ?_
  refine kx_vret d_B_reset_8 rfl (by decide) (by decide) ?_
  exact ⟨rfl, hC, hO⟩
theorem d_B_coupling_0 : decode c_B_coupling 0 = .ok (.aload_n 0, 1) := by decide +kernel
theorem d_B_coupling_1 : decode c_B_coupling 1 = .ok (.iload_n 1, 1) := by decide +kernel
theorem d_B_coupling_2 : decode c_B_coupling 2 = .ok (.iload_n 2, 1) := by decide +kernel
theorem d_B_coupling_3 : decode c_B_coupling 3 = .ok (.invokevirtual 49, 3) := by decide +kernel
theorem d_B_coupling_6 : decode c_B_coupling 6 = .ok (.getfield 89, 3) := by decide +kernel
theorem d_B_coupling_9 : decode c_B_coupling 9 = .ok (.ireturn, 1) := by decide +kernel
set_option maxRecDepth 20000 in
set_option maxHeartbeats 4000000 in
theorem m_B_coupling_no {E : kx_E} {w : va_W} {n : Nat} {ad : Nat → Nat} {L : Nat → List Nat} {V S : Nat → Nat → Int32} {pe bi : Nat → Option Nat} (hC : Cls E w n ad L V S pe bi) (hb : biOk n bi) {car e : Int32} (hx : endQ bi car e = none) : kx_S E Y_B_coupling [.ref (ad 0), .int car, .int e] w (fun o w1 => o = .inr kx_nse ∧ w1 = w) := by
  refine kx_go (by decide) rfl rfl (Nat.le_of_ble_eq_true rfl) (kx_cc rfl (kx_cc rfl (kx_cc rfl kx_c0))) (fun z => ?_)
  have hO : kx_off w w clsN := kx_off.rf
  refine kx_aload_n d_B_coupling_0 rfl (by first | rfl | exact kx_rf _) ?_
  refine kx_iload_n d_B_coupling_1 rfl ?_
  refine kx_iload_n d_B_coupling_2 rfl ?_
  refine kx_callV (as := [.int car, .int e]) (rest := []) d_B_coupling_3 v_B_49 rfl (hC.bus) rfl rfl (by decide) (by decide) (Nat.le_of_ble_eq_true rfl) (by decide) (by decide) rfl (m_B_endOf_no hC hb hx) (fun X w1 hq => ⟨rfl, by cases hq.1; exact ⟨rfl, hq.2⟩⟩) (fun v w1 hq => by cases hq.1)
set_option maxRecDepth 20000 in
set_option maxHeartbeats 4000000 in
theorem m_B_coupling {E : kx_E} {w : va_W} {n : Nat} {ad : Nat → Nat} {L : Nat → List Nat} {V S : Nat → Nat → Int32} {pe bi : Nat → Option Nat} (hC : Cls E w n ad L V S pe bi) (hb : biOk n bi) {car e : Int32} {x : Nat} (hx : endQ bi car e = some x) : kx_S E Y_B_coupling [.ref (ad 0), .int car, .int e] w (kx_Qi w (S x 6)) := by
  refine kx_go (by decide) rfl rfl (Nat.le_of_ble_eq_true rfl) (kx_cc rfl (kx_cc rfl (kx_cc rfl kx_c0))) (fun z => ?_)
  have hO : kx_off w w clsN := kx_off.rf
  have hxn := endQ_N hb hx
  refine kx_aload_n d_B_coupling_0 rfl (by first | rfl | exact kx_rf _) ?_
  refine kx_iload_n d_B_coupling_1 rfl ?_
  refine kx_iload_n d_B_coupling_2 rfl ?_
  refine kx_callV (as := [.int car, .int e]) (rest := []) d_B_coupling_3 v_B_49 rfl (hC.bus) rfl rfl (by decide) (by decide) (Nat.le_of_ble_eq_true rfl) (by decide) (by decide) rfl (m_B_endOf hC hb hx) (fun X w1 h => by cases h.1) (fun v w1 hq9 => ?_)
  obtain ⟨hv, hw9⟩ := hq9
  cases hv
  subst hw9
  refine kx_stk (st1 := [.ref (ad x)]) rfl ?_
  refine kx_get _ d_B_coupling_6 f_B_89 (hC.endAt hxn) (by rfl) ?_
  refine kx_iret d_B_coupling_9 rfl (by decide) (by decide) ?_
  exact ⟨rfl, rfl⟩
def facI (T : LVS) (c k : Nat) : Int32 :=
  if k = 0 then nI (staI T.1 c (clN (T.2.2 (carE c 0) 8)) (clN (T.2.2 (carE c 1) 8))) else if k = 1 then T.2.2 (carB c) 7 else if k = 2 then nI (flipI (T.1 (carB c + 26)) (clN (T.2.2 (carB c) 7))) else if k = 3 then nI (T.1 (carB c + 26)).length
  else if k = 4 then T.2.2 (carB c) 10 else if k = 5 then T.2.2 (carB c) 9 else if k = 6 then T.2.2 (carE c 0) 8 else if k = 7 then T.2.2 (carE c 1) 8 else if k = 8 then nI (T.1 (carE c 0 + 1)).length else if k = 9 then nI (T.1 (carE c 1 + 1)).length
  else if k = 10 then nI (boolI (T.2.2 (carE c 0) 7)) else nI (boolI (T.2.2 (carE c 1) 7))
theorem m_C_fact {E : kx_E} {w : va_W} {n : Nat} {ad : Nat → Nat} {pe bi : Nat → Option Nat} {T : LVS} (hC : Cls E w n ad T.1 T.2.1 T.2.2 pe bi) {c : Nat} (hc : c < n) (hI : InvS n T.2.2) {k : Nat} (hk : k < 12) : kx_S E Y_C_fact [.ref (ad (carB c)), .int (nI k)] w (kx_Qi w (facI T c k)) := by
  have h : k = 0 ∨ k = 1 ∨ k = 2 ∨ k = 3 ∨ k = 4 ∨ k = 5 ∨ k = 6 ∨ k = 7 ∨ k = 8 ∨ k = 9 ∨ k = 10 ∨ k = 11 := by omega
  rcases h with rfl | rfl | rfl | rfl | rfl | rfl | rfl | rfl | rfl | rfl | rfl | rfl
  · exact m_C_fact_0 hC hc hI
  · exact m_C_fact_1 hC hc hI
  · exact m_C_fact_2 hC hc hI
  · exact m_C_fact_3 hC hc hI
  · exact m_C_fact_4 hC hc hI
  · exact m_C_fact_5 hC hc hI
  · exact m_C_fact_6 hC hc hI
  · exact m_C_fact_7 hC hc hI
  · exact m_C_fact_8 hC hc hI
  · exact m_C_fact_9 hC hc hI
  · exact m_C_fact_10 hC hc hI
  · exact m_C_fact_11 hC hc hI
theorem d_B_about_0 : decode c_B_about 0 = .ok (.aload_n 0, 1) := by decide +kernel
theorem d_B_about_1 : decode c_B_about 1 = .ok (.iload_n 1, 1) := by decide +kernel
theorem d_B_about_2 : decode c_B_about 2 = .ok (.invokevirtual 59, 3) := by decide +kernel
theorem d_B_about_5 : decode c_B_about 5 = .ok (.astore_n 3, 1) := by decide +kernel
theorem d_B_about_6 : decode c_B_about 6 = .ok (.iload_n 2, 1) := by decide +kernel
theorem d_B_about_7 : decode c_B_about 7 = .ok (.ifCond .lt 9, 3) := by decide +kernel
theorem d_B_about_10 : decode c_B_about 10 = .ok (.iload_n 2, 1) := by decide +kernel
theorem d_B_about_11 : decode c_B_about 11 = .ok (.bipush 12, 2) := by decide +kernel
theorem d_B_about_13 : decode c_B_about 13 = .ok (.if_icmp .lt 13, 3) := by decide +kernel
theorem d_B_about_16 : decode c_B_about 16 = .ok (.new 30, 3) := by decide +kernel
theorem d_B_about_19 : decode c_B_about 19 = .ok (.dup, 1) := by decide +kernel
theorem d_B_about_20 : decode c_B_about 20 = .ok (.ldc 109, 2) := by decide +kernel
theorem d_B_about_22 : decode c_B_about 22 = .ok (.invokespecial 34, 3) := by decide +kernel
theorem d_B_about_25 : decode c_B_about 25 = .ok (.athrow, 1) := by decide +kernel
theorem d_B_about_26 : decode c_B_about 26 = .ok (.aload_n 3, 1) := by decide +kernel
theorem d_B_about_27 : decode c_B_about 27 = .ok (.iload_n 2, 1) := by decide +kernel
theorem d_B_about_28 : decode c_B_about 28 = .ok (.invokevirtual 111, 3) := by decide +kernel
theorem d_B_about_31 : decode c_B_about 31 = .ok (.ireturn, 1) := by decide +kernel
set_option maxRecDepth 20000 in
set_option maxHeartbeats 4000000 in
theorem m_B_about_no {E : kx_E} {w : va_W} {n : Nat} {ad : Nat → Nat} {L : Nat → List Nat} {V S : Nat → Nat → Int32} {pe bi : Nat → Option Nat} (hC : Cls E w n ad L V S pe bi) {car v : Int32} (hc0 : carI bi car = none) : kx_S E Y_B_about [.ref (ad 0), .int car, .int v] w (fun o w1 => o = .inr kx_nse ∧ w1 = w) := by
  refine kx_go (by decide) rfl rfl (Nat.le_of_ble_eq_true rfl) (kx_cc rfl (kx_cc rfl (kx_cc rfl kx_c0))) (fun z => ?_)
  have hO : kx_off w w clsN := kx_off.rf
  refine kx_aload_n d_B_about_0 rfl (by first | rfl | exact kx_rf _) ?_
  refine kx_iload_n d_B_about_1 rfl ?_
  refine kx_callV (as := [.int car]) (rest := []) d_B_about_2 v_B_59 rfl (hC.bus) rfl rfl (by decide) (by decide) (Nat.le_of_ble_eq_true rfl) (by decide) (by decide) rfl (m_B_carOf_no hC hc0) (fun X w1 hq => ⟨rfl, by cases hq.1; exact ⟨rfl, hq.2⟩⟩) (fun v w1 hq => by cases hq.1)
set_option maxRecDepth 20000 in
set_option maxHeartbeats 4000000 in
theorem m_B_about_bad {E : kx_E} {w : va_W} {n : Nat} {ad : Nat → Nat} {L : Nat → List Nat} {V S : Nat → Nat → Int32} {pe bi : Nat → Option Nat} (hC : Cls E w n ad L V S pe bi) {car v : Int32} {c : Nat} (hc0 : carI bi car = some c) (hv : v < 0 ∨ ¬ v < nI 12) : kx_S E Y_B_about [.ref (ad 0), .int car, .int v] w (fun o w1 => o = .inr kx_iae ∧ w1 = w) := by
  refine kx_go (by decide) rfl rfl (Nat.le_of_ble_eq_true rfl) (kx_cc rfl (kx_cc rfl (kx_cc rfl kx_c0))) (fun z => ?_)
  have hO : kx_off w w clsN := kx_off.rf
  refine kx_aload_n d_B_about_0 rfl (by first | rfl | exact kx_rf _) ?_
  refine kx_iload_n d_B_about_1 rfl ?_
  refine kx_callV (as := [.int car]) (rest := []) d_B_about_2 v_B_59 rfl (hC.bus) rfl rfl (by decide) (by decide) (Nat.le_of_ble_eq_true rfl) (by decide) (by decide) rfl (m_B_carOf hC hc0) (fun X w1 h => by cases h.1) (fun v w1 hq9 => ?_)
  obtain ⟨hv, hw9⟩ := hq9
  cases hv
  subst hw9
  refine kx_stk (st1 := [.ref (ad (carB c))]) rfl ?_
  refine kx_astore_n d_B_about_5 (by decide) (by first | rfl | exact kx_rf _) ?_
  refine kx_iload_n d_B_about_6 rfl ?_
  refine kx_if_lt 16 d_B_about_7 (by decide) ?_ ?_
  · intro h7
    exact kx_throw d_B_about_16 d_B_about_19 d_B_about_20 d_B_about_22 d_B_about_25 t_B_109 rfl (by decide) (Nat.le_of_ble_eq_true rfl) (by decide) (by decide) ⟨rfl, rfl⟩
  · intro h7
    refine kx_iload_n d_B_about_10 rfl ?_
    refine kx_bipush (nI 12) d_B_about_11 (by decide) ?_
    refine kx_icmp_lt 26 d_B_about_13 (by decide) ?_ ?_
    · intro h13
      exact absurd hv (by rintro (h | h); exact h7 h; exact h h13)
    · intro h13
      exact kx_throw d_B_about_16 d_B_about_19 d_B_about_20 d_B_about_22 d_B_about_25 t_B_109 rfl (by decide) (Nat.le_of_ble_eq_true rfl) (by decide) (by decide) ⟨rfl, rfl⟩
set_option maxRecDepth 20000 in
set_option maxHeartbeats 4000000 in
theorem m_B_about {E : kx_E} {w : va_W} {n : Nat} {ad : Nat → Nat} {pe bi : Nat → Option Nat} {T : LVS} (hC : Cls E w n ad T.1 T.2.1 T.2.2 pe bi) (hb : biOk n bi) (hI : InvS n T.2.2) {car : Int32} {c : Nat} (hc0 : carI bi car = some c) {k : Nat} (hk : k < 12) : kx_S E Y_B_about [.ref (ad 0), .int car, .int (nI k)] w (kx_Qi w (facI T c k)) := by
  refine kx_go (by decide) rfl rfl (Nat.le_of_ble_eq_true rfl) (kx_cc rfl (kx_cc rfl (kx_cc rfl kx_c0))) (fun z => ?_)
  have hO : kx_off w w clsN := kx_off.rf
  have hc := carI_c hb hc0
  refine kx_aload_n d_B_about_0 rfl (by first | rfl | exact kx_rf _) ?_
  refine kx_iload_n d_B_about_1 rfl ?_
  refine kx_callV (as := [.int car]) (rest := []) d_B_about_2 v_B_59 rfl (hC.bus) rfl rfl (by decide) (by decide) (Nat.le_of_ble_eq_true rfl) (by decide) (by decide) rfl (m_B_carOf hC hc0) (fun X w1 h => by cases h.1) (fun v w1 hq9 => ?_)
  obtain ⟨hv, hw9⟩ := hq9
  cases hv
  subst hw9
  refine kx_stk (st1 := [.ref (ad (carB c))]) rfl ?_
  refine kx_astore_n d_B_about_5 (by decide) (by first | rfl | exact kx_rf _) ?_
  refine kx_iload_n d_B_about_6 rfl ?_
  refine kx_if_lt_n 16 d_B_about_7 (by decide) (by omega) ?_
  refine kx_iload_n d_B_about_10 rfl ?_
  refine kx_bipush (nI 12) d_B_about_11 (by decide) ?_
  first | refine kx_icmp_lt_n 26 d_B_about_13 (by decide) (by omega) (by omega) ?_ ?_ | refine kx_icmp_lt 26 d_B_about_13 (by decide) ?_ ?_
  · intro h13
    refine kx_aload_n d_B_about_26 rfl (by first | rfl | exact kx_rf _) ?_
    refine kx_iload_n d_B_about_27 rfl ?_
    refine kx_callV (as := [.int (nI k)]) (rest := []) d_B_about_28 v_B_111 rfl (hC.car c hc) rfl rfl (by decide) (by decide) (Nat.le_of_ble_eq_true rfl) (by decide) (by decide) rfl (m_C_fact hC hc hI hk) (fun X w1 h => by cases h.1) (fun v w1 hq9 => ?_)
    obtain ⟨hv, hw9⟩ := hq9
    cases hv
    subst hw9
    refine kx_stk (st1 := [.int (facI T c k)]) rfl ?_
    refine kx_iret d_B_about_31 rfl (by decide) (by decide) ?_
    exact ⟨rfl, rfl⟩
  · intro h13
    exact absurd h13 (by omega)
theorem d_B_directory_0 : decode c_B_directory 0 = .ok (.aload_n 0, 1) := by decide +kernel
theorem d_B_directory_1 : decode c_B_directory 1 = .ok (.iload_n 1, 1) := by decide +kernel
theorem d_B_directory_2 : decode c_B_directory 2 = .ok (.invokevirtual 59, 3) := by decide +kernel
theorem d_B_directory_5 : decode c_B_directory 5 = .ok (.getfield 114, 3) := by decide +kernel
theorem d_B_directory_8 : decode c_B_directory 8 = .ok (.iload_n 2, 1) := by decide +kernel
theorem d_B_directory_9 : decode c_B_directory 9 = .ok (.invokevirtual 117, 3) := by decide +kernel
theorem d_B_directory_12 : decode c_B_directory 12 = .ok (.ireturn, 1) := by decide +kernel
set_option maxRecDepth 20000 in
set_option maxHeartbeats 4000000 in
theorem m_B_directory_no {E : kx_E} {w : va_W} {n : Nat} {ad : Nat → Nat} {L : Nat → List Nat} {V S : Nat → Nat → Int32} {pe bi : Nat → Option Nat} (hC : Cls E w n ad L V S pe bi) {car v : Int32} (hc0 : carI bi car = none) : kx_S E Y_B_directory [.ref (ad 0), .int car, .int v] w (fun o w1 => o = .inr kx_nse ∧ w1 = w) := by
  refine kx_go (by decide) rfl rfl (Nat.le_of_ble_eq_true rfl) (kx_cc rfl (kx_cc rfl (kx_cc rfl kx_c0))) (fun z => ?_)
  have hO : kx_off w w clsN := kx_off.rf
  refine kx_aload_n d_B_directory_0 rfl (by first | rfl | exact kx_rf _) ?_
  refine kx_iload_n d_B_directory_1 rfl ?_
  refine kx_callV (as := [.int car]) (rest := []) d_B_directory_2 v_B_59 rfl (hC.bus) rfl rfl (by decide) (by decide) (Nat.le_of_ble_eq_true rfl) (by decide) (by decide) rfl (m_B_carOf_no hC hc0) (fun X w1 hq => ⟨rfl, by cases hq.1; exact ⟨rfl, hq.2⟩⟩) (fun v w1 hq => by cases hq.1)
set_option maxRecDepth 20000 in
set_option maxHeartbeats 4000000 in
theorem m_B_directory {E : kx_E} {w : va_W} {n : Nat} {ad : Nat → Nat} {L : Nat → List Nat} {V S : Nat → Nat → Int32} {pe bi : Nat → Option Nat} (hC : Cls E w n ad L V S pe bi) (hb : biOk n bi) {car : Int32} {c j : Nat} (hc0 : carI bi car = some c) (hj : j < (L (carB c + 26)).length) : kx_S E Y_B_directory [.ref (ad 0), .int car, .int (nI (j + 1))] w (kx_Qi w (nI ((L (carB c + 26)).getD j 0 / 2))) := by
  refine kx_go (by decide) rfl rfl (Nat.le_of_ble_eq_true rfl) (kx_cc rfl (kx_cc rfl (kx_cc rfl kx_c0))) (fun z => ?_)
  have hO : kx_off w w clsN := kx_off.rf
  have hc := carI_c hb hc0
  refine kx_aload_n d_B_directory_0 rfl (by first | rfl | exact kx_rf _) ?_
  refine kx_iload_n d_B_directory_1 rfl ?_
  refine kx_callV (as := [.int car]) (rest := []) d_B_directory_2 v_B_59 rfl (hC.bus) rfl rfl (by decide) (by decide) (Nat.le_of_ble_eq_true rfl) (by decide) (by decide) rfl (m_B_carOf hC hc0) (fun X w1 h => by cases h.1) (fun v w1 hq9 => ?_)
  obtain ⟨hv, hw9⟩ := hq9
  cases hv
  subst hw9
  refine kx_stk (st1 := [.ref (ad (carB c))]) rfl ?_
  refine kx_get _ d_B_directory_5 f_B_114 (hC.car c hc) (by rfl) ?_
  refine kx_iload_n d_B_directory_8 rfl ?_
  refine cR_idAt d_B_directory_9 v_B_117 hC (rowN_26 hc) hj (by decide) (Nat.le_of_ble_eq_true rfl) (by decide) (by decide) ?_
  refine kx_iret d_B_directory_12 rfl (by decide) (by decide) ?_
  exact ⟨rfl, rfl⟩
set_option maxRecDepth 20000 in
set_option maxHeartbeats 4000000 in
theorem m_B_directory_out {E : kx_E} {w : va_W} {n : Nat} {ad : Nat → Nat} {L : Nat → List Nat} {V S : Nat → Nat → Int32} {pe bi : Nat → Option Nat} (hC : Cls E w n ad L V S pe bi) (hb : biOk n bi) {car v : Int32} {c : Nat} (hc0 : carI bi car = some c) (hj : v < nI 1 ∨ nI (L (carB c + 26)).length < v) : kx_S E Y_B_directory [.ref (ad 0), .int car, .int v] w (kx_Qi w (-1)) := by
  refine kx_go (by decide) rfl rfl (Nat.le_of_ble_eq_true rfl) (kx_cc rfl (kx_cc rfl (kx_cc rfl kx_c0))) (fun z => ?_)
  have hO : kx_off w w clsN := kx_off.rf
  have hc := carI_c hb hc0
  refine kx_aload_n d_B_directory_0 rfl (by first | rfl | exact kx_rf _) ?_
  refine kx_iload_n d_B_directory_1 rfl ?_
  refine kx_callV (as := [.int car]) (rest := []) d_B_directory_2 v_B_59 rfl (hC.bus) rfl rfl (by decide) (by decide) (Nat.le_of_ble_eq_true rfl) (by decide) (by decide) rfl (m_B_carOf hC hc0) (fun X w1 h => by cases h.1) (fun v w1 hq9 => ?_)
  obtain ⟨hv, hw9⟩ := hq9
  cases hv
  subst hw9
  refine kx_stk (st1 := [.ref (ad (carB c))]) rfl ?_
  refine kx_get _ d_B_directory_5 f_B_114 (hC.car c hc) (by rfl) ?_
  refine kx_iload_n d_B_directory_8 rfl ?_
  refine cR_idAt_no d_B_directory_9 v_B_117 hC (rowN_26 hc) hj (by decide) (Nat.le_of_ble_eq_true rfl) (by decide) (by decide) ?_
  refine kx_iret d_B_directory_12 rfl (by decide) (by decide) ?_
  exact ⟨rfl, rfl⟩
theorem d_B_view_0 : decode c_B_view 0 = .ok (.aload_n 0, 1) := by decide +kernel
theorem d_B_view_1 : decode c_B_view 1 = .ok (.iload_n 1, 1) := by decide +kernel
theorem d_B_view_2 : decode c_B_view 2 = .ok (.iload_n 2, 1) := by decide +kernel
theorem d_B_view_3 : decode c_B_view 3 = .ok (.invokevirtual 49, 3) := by decide +kernel
theorem d_B_view_6 : decode c_B_view 6 = .ok (.getfield 120, 3) := by decide +kernel
theorem d_B_view_9 : decode c_B_view 9 = .ok (.iload_n 3, 1) := by decide +kernel
theorem d_B_view_10 : decode c_B_view 10 = .ok (.invokevirtual 123, 3) := by decide +kernel
theorem d_B_view_13 : decode c_B_view 13 = .ok (.ireturn, 1) := by decide +kernel
set_option maxRecDepth 20000 in
set_option maxHeartbeats 4000000 in
theorem m_B_view_no {E : kx_E} {w : va_W} {n : Nat} {ad : Nat → Nat} {L : Nat → List Nat} {V S : Nat → Nat → Int32} {pe bi : Nat → Option Nat} (hC : Cls E w n ad L V S pe bi) (hb : biOk n bi) {car e v : Int32} (hx : endQ bi car e = none) : kx_S E Y_B_view [.ref (ad 0), .int car, .int e, .int v] w (fun o w1 => o = .inr kx_nse ∧ w1 = w) := by
  refine kx_go (by decide) rfl rfl (Nat.le_of_ble_eq_true rfl) (kx_cc rfl (kx_cc rfl (kx_cc rfl (kx_cc rfl kx_c0)))) (fun z => ?_)
  have hO : kx_off w w clsN := kx_off.rf
  refine kx_aload_n d_B_view_0 rfl (by first | rfl | exact kx_rf _) ?_
  refine kx_iload_n d_B_view_1 rfl ?_
  refine kx_iload_n d_B_view_2 rfl ?_
  refine kx_callV (as := [.int car, .int e]) (rest := []) d_B_view_3 v_B_49 rfl (hC.bus) rfl rfl (by decide) (by decide) (Nat.le_of_ble_eq_true rfl) (by decide) (by decide) rfl (m_B_endOf_no hC hb hx) (fun X w1 hq => ⟨rfl, by cases hq.1; exact ⟨rfl, hq.2⟩⟩) (fun v w1 hq => by cases hq.1)
set_option maxRecDepth 20000 in
set_option maxHeartbeats 4000000 in
theorem m_B_view {E : kx_E} {w : va_W} {n : Nat} {ad : Nat → Nat} {L : Nat → List Nat} {V S : Nat → Nat → Int32} {pe bi : Nat → Option Nat} (hC : Cls E w n ad L V S pe bi) (hb : biOk n bi) {car e : Int32} {x j : Nat} (hx : endQ bi car e = some x) (hj : j < (L (x + 1)).length) : kx_S E Y_B_view [.ref (ad 0), .int car, .int e, .int (nI j)] w (kx_Qi w (nI ((L (x + 1)).getD j 0))) := by
  refine kx_go (by decide) rfl rfl (Nat.le_of_ble_eq_true rfl) (kx_cc rfl (kx_cc rfl (kx_cc rfl (kx_cc rfl kx_c0)))) (fun z => ?_)
  have hO : kx_off w w clsN := kx_off.rf
  have hxn := endQ_N hb hx
  refine kx_aload_n d_B_view_0 rfl (by first | rfl | exact kx_rf _) ?_
  refine kx_iload_n d_B_view_1 rfl ?_
  refine kx_iload_n d_B_view_2 rfl ?_
  refine kx_callV (as := [.int car, .int e]) (rest := []) d_B_view_3 v_B_49 rfl (hC.bus) rfl rfl (by decide) (by decide) (Nat.le_of_ble_eq_true rfl) (by decide) (by decide) rfl (m_B_endOf hC hb hx) (fun X w1 h => by cases h.1) (fun v w1 hq9 => ?_)
  obtain ⟨hv, hw9⟩ := hq9
  cases hv
  subst hw9
  refine kx_stk (st1 := [.ref (ad x)]) rfl ?_
  refine kx_get _ d_B_view_6 f_B_120 (hC.endAt hxn) (by rfl) ?_
  refine kx_iload_n d_B_view_9 rfl ?_
  refine cR_itemAt d_B_view_10 v_B_123 hC (rowN_e1 hxn) hj (by decide) (Nat.le_of_ble_eq_true rfl) (by decide) (by decide) ?_
  refine kx_iret d_B_view_13 rfl (by decide) (by decide) ?_
  exact ⟨rfl, rfl⟩
set_option maxRecDepth 20000 in
set_option maxHeartbeats 4000000 in
theorem m_B_view_out {E : kx_E} {w : va_W} {n : Nat} {ad : Nat → Nat} {L : Nat → List Nat} {V S : Nat → Nat → Int32} {pe bi : Nat → Option Nat} (hC : Cls E w n ad L V S pe bi) (hb : biOk n bi) {car e v : Int32} {x : Nat} (hx : endQ bi car e = some x) (hj : v < 0 ∨ nI (L (x + 1)).length ≤ v) : kx_S E Y_B_view [.ref (ad 0), .int car, .int e, .int v] w (kx_Qi w (-1)) := by
  refine kx_go (by decide) rfl rfl (Nat.le_of_ble_eq_true rfl) (kx_cc rfl (kx_cc rfl (kx_cc rfl (kx_cc rfl kx_c0)))) (fun z => ?_)
  have hO : kx_off w w clsN := kx_off.rf
  have hxn := endQ_N hb hx
  refine kx_aload_n d_B_view_0 rfl (by first | rfl | exact kx_rf _) ?_
  refine kx_iload_n d_B_view_1 rfl ?_
  refine kx_iload_n d_B_view_2 rfl ?_
  refine kx_callV (as := [.int car, .int e]) (rest := []) d_B_view_3 v_B_49 rfl (hC.bus) rfl rfl (by decide) (by decide) (Nat.le_of_ble_eq_true rfl) (by decide) (by decide) rfl (m_B_endOf hC hb hx) (fun X w1 h => by cases h.1) (fun v w1 hq9 => ?_)
  obtain ⟨hv, hw9⟩ := hq9
  cases hv
  subst hw9
  refine kx_stk (st1 := [.ref (ad x)]) rfl ?_
  refine kx_get _ d_B_view_6 f_B_120 (hC.endAt hxn) (by rfl) ?_
  refine kx_iload_n d_B_view_9 rfl ?_
  refine cR_itemAt_no d_B_view_10 v_B_123 hC (rowN_e1 hxn) hj (by decide) (Nat.le_of_ble_eq_true rfl) (by decide) (by decide) ?_
  refine kx_iret d_B_view_13 rfl (by decide) (by decide) ?_
  exact ⟨rfl, rfl⟩
theorem d_B_put_0 : decode c_B_put 0 = .ok (.aload_n 0, 1) := by decide +kernel
theorem d_B_put_1 : decode c_B_put 1 = .ok (.iload_n 1, 1) := by decide +kernel
theorem d_B_put_2 : decode c_B_put 2 = .ok (.invokevirtual 59, 3) := by decide +kernel
theorem d_B_put_5 : decode c_B_put 5 = .ok (.astore 4, 2) := by decide +kernel
theorem d_B_put_7 : decode c_B_put 7 = .ok (.iload_n 2, 1) := by decide +kernel
theorem d_B_put_8 : decode c_B_put 8 = .ok (.ifCond .lt 19, 3) := by decide +kernel
theorem d_B_put_11 : decode c_B_put 11 = .ok (.iload_n 2, 1) := by decide +kernel
theorem d_B_put_12 : decode c_B_put 12 = .ok (.iconst 4, 1) := by decide +kernel
theorem d_B_put_13 : decode c_B_put 13 = .ok (.if_icmp .ge 14, 3) := by decide +kernel
theorem d_B_put_16 : decode c_B_put 16 = .ok (.iload_n 3, 1) := by decide +kernel
theorem d_B_put_17 : decode c_B_put 17 = .ok (.ifCond .lt 10, 3) := by decide +kernel
theorem d_B_put_20 : decode c_B_put 20 = .ok (.iload_n 3, 1) := by decide +kernel
theorem d_B_put_21 : decode c_B_put 21 = .ok (.sipush 255, 3) := by decide +kernel
theorem d_B_put_24 : decode c_B_put 24 = .ok (.if_icmp .le 13, 3) := by decide +kernel
theorem d_B_put_27 : decode c_B_put 27 = .ok (.new 30, 3) := by decide +kernel
theorem d_B_put_30 : decode c_B_put 30 = .ok (.dup, 1) := by decide +kernel
theorem d_B_put_31 : decode c_B_put 31 = .ok (.ldc 126, 2) := by decide +kernel
theorem d_B_put_33 : decode c_B_put 33 = .ok (.invokespecial 34, 3) := by decide +kernel
theorem d_B_put_36 : decode c_B_put 36 = .ok (.athrow, 1) := by decide +kernel
theorem d_B_put_37 : decode c_B_put 37 = .ok (.aload 4, 2) := by decide +kernel
theorem d_B_put_39 : decode c_B_put 39 = .ok (.iload_n 2, 1) := by decide +kernel
theorem d_B_put_40 : decode c_B_put 40 = .ok (.iload_n 3, 1) := by decide +kernel
theorem d_B_put_41 : decode c_B_put 41 = .ok (.invokevirtual 128, 3) := by decide +kernel
theorem d_B_put_44 : decode c_B_put 44 = .ok (.ireturn, 1) := by decide +kernel
set_option maxRecDepth 20000 in
set_option maxHeartbeats 4000000 in
theorem m_B_put_no {E : kx_E} {w : va_W} {n : Nat} {ad : Nat → Nat} {L : Nat → List Nat} {V S : Nat → Nat → Int32} {pe bi : Nat → Option Nat} (hC : Cls E w n ad L V S pe bi) {car i v : Int32} (hc0 : carI bi car = none) : kx_S E Y_B_put [.ref (ad 0), .int car, .int i, .int v] w (fun o w1 => o = .inr kx_nse ∧ w1 = w) := by
  refine kx_go (by decide) rfl rfl (Nat.le_of_ble_eq_true rfl) (kx_cc rfl (kx_cc rfl (kx_cc rfl (kx_cc rfl kx_c0)))) (fun z => ?_)
  have hO : kx_off w w clsN := kx_off.rf
  refine kx_aload_n d_B_put_0 rfl (by first | rfl | exact kx_rf _) ?_
  refine kx_iload_n d_B_put_1 rfl ?_
  refine kx_callV (as := [.int car]) (rest := []) d_B_put_2 v_B_59 rfl (hC.bus) rfl rfl (by decide) (by decide) (Nat.le_of_ble_eq_true rfl) (by decide) (by decide) rfl (m_B_carOf_no hC hc0) (fun X w1 hq => ⟨rfl, by cases hq.1; exact ⟨rfl, hq.2⟩⟩) (fun v w1 hq => by cases hq.1)
set_option maxRecDepth 20000 in
set_option maxHeartbeats 4000000 in
theorem m_B_put_bad {E : kx_E} {w : va_W} {n : Nat} {ad : Nat → Nat} {L : Nat → List Nat} {V S : Nat → Nat → Int32} {pe bi : Nat → Option Nat} (hC : Cls E w n ad L V S pe bi) {car i v : Int32} {c : Nat} (hc0 : carI bi car = some c) (hv : i < 0 ∨ nI 4 ≤ i ∨ v < 0 ∨ nI 255 < v) : kx_S E Y_B_put [.ref (ad 0), .int car, .int i, .int v] w (fun o w1 => o = .inr kx_iae ∧ w1 = w) := by
  refine kx_go (by decide) rfl rfl (Nat.le_of_ble_eq_true rfl) (kx_cc rfl (kx_cc rfl (kx_cc rfl (kx_cc rfl kx_c0)))) (fun z => ?_)
  have hO : kx_off w w clsN := kx_off.rf
  refine kx_aload_n d_B_put_0 rfl (by first | rfl | exact kx_rf _) ?_
  refine kx_iload_n d_B_put_1 rfl ?_
  refine kx_callV (as := [.int car]) (rest := []) d_B_put_2 v_B_59 rfl (hC.bus) rfl rfl (by decide) (by decide) (Nat.le_of_ble_eq_true rfl) (by decide) (by decide) rfl (m_B_carOf hC hc0) (fun X w1 h => by cases h.1) (fun v w1 hq9 => ?_)
  obtain ⟨hv, hw9⟩ := hq9
  cases hv
  subst hw9
  refine kx_stk (st1 := [.ref (ad (carB c))]) rfl ?_
  refine kx_astore d_B_put_5 (by decide) (by first | rfl | exact kx_rf _) ?_
  refine kx_iload_n d_B_put_7 rfl ?_
  refine kx_if_lt 27 d_B_put_8 (by decide) ?_ ?_
  · intro h8
    exact kx_throw d_B_put_27 d_B_put_30 d_B_put_31 d_B_put_33 d_B_put_36 t_B_126 rfl (by decide) (Nat.le_of_ble_eq_true rfl) (by decide) (by decide) ⟨rfl, rfl⟩
  · intro h8
    refine kx_iload_n d_B_put_11 rfl ?_
    refine kx_iconst (nI 4) d_B_put_12 (by decide) ?_
    refine kx_icmp_ge 27 d_B_put_13 (by decide) ?_ ?_
    · intro h13
      exact kx_throw d_B_put_27 d_B_put_30 d_B_put_31 d_B_put_33 d_B_put_36 t_B_126 rfl (by decide) (Nat.le_of_ble_eq_true rfl) (by decide) (by decide) ⟨rfl, rfl⟩
    · intro h13
      refine kx_iload_n d_B_put_16 rfl ?_
      refine kx_if_lt 27 d_B_put_17 (by decide) ?_ ?_
      · intro h17
        exact kx_throw d_B_put_27 d_B_put_30 d_B_put_31 d_B_put_33 d_B_put_36 t_B_126 rfl (by decide) (Nat.le_of_ble_eq_true rfl) (by decide) (by decide) ⟨rfl, rfl⟩
      · intro h17
        refine kx_iload_n d_B_put_20 rfl ?_
        refine kx_sipush (nI 255) d_B_put_21 (by decide) ?_
        refine kx_icmp_le 37 d_B_put_24 (by decide) ?_ ?_
        · intro h24
          exact absurd hv (by rintro (h | h | h | h); exact h8 h; exact h13 h; exact h17 h; exact absurd h24 (i32_nle.mpr h))
        · intro h24
          exact kx_throw d_B_put_27 d_B_put_30 d_B_put_31 d_B_put_33 d_B_put_36 t_B_126 rfl (by decide) (Nat.le_of_ble_eq_true rfl) (by decide) (by decide) ⟨rfl, rfl⟩
set_option maxRecDepth 20000 in
set_option maxHeartbeats 4000000 in
theorem m_B_put {E : kx_E} {w : va_W} {n : Nat} {ad : Nat → Nat} {L : Nat → List Nat} {V S : Nat → Nat → Int32} {pe bi : Nat → Option Nat} (hC : Cls E w n ad L V S pe bi) (hb : biOk n bi) {car i v : Int32} {c : Nat} (hc0 : carI bi car = some c) (hv : ¬ (i < 0 ∨ nI 4 ≤ i ∨ v < 0 ∨ nI 255 < v)) : kx_S E Y_B_put [.ref (ad 0), .int car, .int i, .int v] w (CQ E w n ad L V (up2 S (carB c) 8 (S (carB c) 8 &&& (nI 255 <<< (nI 8 * i &&& 31) ^^^ -1) ||| v <<< (nI 8 * i &&& 31))) pe bi (some (.int (byI (S (carB c) 8) i)))) := by
  refine kx_go (by decide) rfl rfl (Nat.le_of_ble_eq_true rfl) (kx_cc rfl (kx_cc rfl (kx_cc rfl (kx_cc rfl kx_c0)))) (fun z => ?_)
  have hO : kx_off w w clsN := kx_off.rf
  have hc := carI_c hb hc0
  refine kx_aload_n d_B_put_0 rfl (by first | rfl | exact kx_rf _) ?_
  refine kx_iload_n d_B_put_1 rfl ?_
  refine kx_callV (as := [.int car]) (rest := []) d_B_put_2 v_B_59 rfl (hC.bus) rfl rfl (by decide) (by decide) (Nat.le_of_ble_eq_true rfl) (by decide) (by decide) rfl (m_B_carOf hC hc0) (fun X w1 h => by cases h.1) (fun v w1 hq9 => ?_)
  obtain ⟨hv, hw9⟩ := hq9
  cases hv
  subst hw9
  refine kx_stk (st1 := [.ref (ad (carB c))]) rfl ?_
  refine kx_astore d_B_put_5 (by decide) (by first | rfl | exact kx_rf _) ?_
  refine kx_iload_n d_B_put_7 rfl ?_
  refine kx_if_lt 27 d_B_put_8 (by decide) ?_ ?_
  · intro h8
    first
      | exact absurd (Or.inl h8) hv
      | exact absurd (Or.inr (Or.inl h13)) hv
      | exact absurd (Or.inr (Or.inr (Or.inl h17))) hv
      | exact absurd (Or.inr (Or.inr (Or.inr (i32_nle.mp h24)))) hv
  · intro h8
    refine kx_iload_n d_B_put_11 rfl ?_
    refine kx_iconst (nI 4) d_B_put_12 (by decide) ?_
    refine kx_icmp_ge 27 d_B_put_13 (by decide) ?_ ?_
    · intro h13
      first
        | exact absurd (Or.inl h8) hv
        | exact absurd (Or.inr (Or.inl h13)) hv
        | exact absurd (Or.inr (Or.inr (Or.inl h17))) hv
        | exact absurd (Or.inr (Or.inr (Or.inr (i32_nle.mp h24)))) hv
    · intro h13
      refine kx_iload_n d_B_put_16 rfl ?_
      refine kx_if_lt 27 d_B_put_17 (by decide) ?_ ?_
      · intro h17
        first
          | exact absurd (Or.inl h8) hv
          | exact absurd (Or.inr (Or.inl h13)) hv
          | exact absurd (Or.inr (Or.inr (Or.inl h17))) hv
          | exact absurd (Or.inr (Or.inr (Or.inr (i32_nle.mp h24)))) hv
      · intro h17
        refine kx_iload_n d_B_put_20 rfl ?_
        refine kx_sipush (nI 255) d_B_put_21 (by decide) ?_
        refine kx_icmp_le 37 d_B_put_24 (by decide) ?_ ?_
        · intro h24
          refine kx_aload d_B_put_37 rfl (by first | rfl | exact kx_rf _) ?_
          refine kx_iload_n d_B_put_39 rfl ?_
          refine kx_iload_n d_B_put_40 rfl ?_
          refine kx_callV (as := [.int i, .int v]) (rest := []) d_B_put_41 v_B_128 rfl (hC.car c hc) rfl rfl (by decide) (by decide) (Nat.le_of_ble_eq_true rfl) (by decide) (by decide) rfl (m_C_replaceByte hC hc i v) (fun X w1 h => by cases h.1) (fun v w hq9 => ?_)
          obtain ⟨hv, hC, hO9⟩ := hq9
          cases hv
          have hO := hO.tr hO9 (fun _ h => h) (fun _ h => h)
          refine kx_stk (st1 := [.int (byI (S (carB c) 8) i)]) rfl ?_
          refine kx_iret d_B_put_44 rfl (by decide) (by decide) ?_
          exact ⟨rfl, hC, hO⟩
        · intro h24
          first
            | exact absurd (Or.inl h8) hv
            | exact absurd (Or.inr (Or.inl h13)) hv
            | exact absurd (Or.inr (Or.inr (Or.inl h17))) hv
            | exact absurd (Or.inr (Or.inr (Or.inr (i32_nle.mp h24)))) hv
theorem d_B_get_0 : decode c_B_get 0 = .ok (.aload_n 0, 1) := by decide +kernel
theorem d_B_get_1 : decode c_B_get 1 = .ok (.iload_n 1, 1) := by decide +kernel
theorem d_B_get_2 : decode c_B_get 2 = .ok (.invokevirtual 59, 3) := by decide +kernel
theorem d_B_get_5 : decode c_B_get 5 = .ok (.astore 4, 2) := by decide +kernel
theorem d_B_get_7 : decode c_B_get 7 = .ok (.iload_n 3, 1) := by decide +kernel
theorem d_B_get_8 : decode c_B_get 8 = .ok (.ifCond .lt 8, 3) := by decide +kernel
theorem d_B_get_11 : decode c_B_get 11 = .ok (.iload_n 3, 1) := by decide +kernel
theorem d_B_get_12 : decode c_B_get 12 = .ok (.iconst 4, 1) := by decide +kernel
theorem d_B_get_13 : decode c_B_get 13 = .ok (.if_icmp .le 13, 3) := by decide +kernel
theorem d_B_get_16 : decode c_B_get 16 = .ok (.new 30, 3) := by decide +kernel
theorem d_B_get_19 : decode c_B_get 19 = .ok (.dup, 1) := by decide +kernel
theorem d_B_get_20 : decode c_B_get 20 = .ok (.ldc 132, 2) := by decide +kernel
theorem d_B_get_22 : decode c_B_get 22 = .ok (.invokespecial 34, 3) := by decide +kernel
theorem d_B_get_25 : decode c_B_get 25 = .ok (.athrow, 1) := by decide +kernel
theorem d_B_get_26 : decode c_B_get 26 = .ok (.aload 4, 2) := by decide +kernel
theorem d_B_get_28 : decode c_B_get 28 = .ok (.iload_n 2, 1) := by decide +kernel
theorem d_B_get_29 : decode c_B_get 29 = .ok (.iload_n 3, 1) := by decide +kernel
theorem d_B_get_30 : decode c_B_get 30 = .ok (.invokevirtual 134, 3) := by decide +kernel
theorem d_B_get_33 : decode c_B_get 33 = .ok (.ireturn, 1) := by decide +kernel
set_option maxRecDepth 20000 in
set_option maxHeartbeats 4000000 in
theorem m_B_get_no {E : kx_E} {w : va_W} {n : Nat} {ad : Nat → Nat} {L : Nat → List Nat} {V S : Nat → Nat → Int32} {pe bi : Nat → Option Nat} (hC : Cls E w n ad L V S pe bi) {car v i : Int32} (hc0 : carI bi car = none) : kx_S E Y_B_get [.ref (ad 0), .int car, .int v, .int i] w (fun o w1 => o = .inr kx_nse ∧ w1 = w) := by
  refine kx_go (by decide) rfl rfl (Nat.le_of_ble_eq_true rfl) (kx_cc rfl (kx_cc rfl (kx_cc rfl (kx_cc rfl kx_c0)))) (fun z => ?_)
  have hO : kx_off w w clsN := kx_off.rf
  refine kx_aload_n d_B_get_0 rfl (by first | rfl | exact kx_rf _) ?_
  refine kx_iload_n d_B_get_1 rfl ?_
  refine kx_callV (as := [.int car]) (rest := []) d_B_get_2 v_B_59 rfl (hC.bus) rfl rfl (by decide) (by decide) (Nat.le_of_ble_eq_true rfl) (by decide) (by decide) rfl (m_B_carOf_no hC hc0) (fun X w1 hq => ⟨rfl, by cases hq.1; exact ⟨rfl, hq.2⟩⟩) (fun v w1 hq => by cases hq.1)
set_option maxRecDepth 20000 in
set_option maxHeartbeats 4000000 in
theorem m_B_get_bad {E : kx_E} {w : va_W} {n : Nat} {ad : Nat → Nat} {L : Nat → List Nat} {V S : Nat → Nat → Int32} {pe bi : Nat → Option Nat} (hC : Cls E w n ad L V S pe bi) {car v i : Int32} {c : Nat} (hc0 : carI bi car = some c) (hv : i < 0 ∨ nI 4 < i) : kx_S E Y_B_get [.ref (ad 0), .int car, .int v, .int i] w (fun o w1 => o = .inr kx_iae ∧ w1 = w) := by
  refine kx_go (by decide) rfl rfl (Nat.le_of_ble_eq_true rfl) (kx_cc rfl (kx_cc rfl (kx_cc rfl (kx_cc rfl kx_c0)))) (fun z => ?_)
  have hO : kx_off w w clsN := kx_off.rf
  refine kx_aload_n d_B_get_0 rfl (by first | rfl | exact kx_rf _) ?_
  refine kx_iload_n d_B_get_1 rfl ?_
  refine kx_callV (as := [.int car]) (rest := []) d_B_get_2 v_B_59 rfl (hC.bus) rfl rfl (by decide) (by decide) (Nat.le_of_ble_eq_true rfl) (by decide) (by decide) rfl (m_B_carOf hC hc0) (fun X w1 h => by cases h.1) (fun v w1 hq9 => ?_)
  obtain ⟨hv, hw9⟩ := hq9
  cases hv
  subst hw9
  refine kx_stk (st1 := [.ref (ad (carB c))]) rfl ?_
  refine kx_astore d_B_get_5 (by decide) (by first | rfl | exact kx_rf _) ?_
  refine kx_iload_n d_B_get_7 rfl ?_
  refine kx_if_lt 16 d_B_get_8 (by decide) ?_ ?_
  · intro h8
    exact kx_throw d_B_get_16 d_B_get_19 d_B_get_20 d_B_get_22 d_B_get_25 t_B_132 rfl (by decide) (Nat.le_of_ble_eq_true rfl) (by decide) (by decide) ⟨rfl, rfl⟩
  · intro h8
    refine kx_iload_n d_B_get_11 rfl ?_
    refine kx_iconst (nI 4) d_B_get_12 (by decide) ?_
    refine kx_icmp_le 26 d_B_get_13 (by decide) ?_ ?_
    · intro h13
      exact absurd hv (by rintro (h | h); exact h8 h; exact absurd h13 (i32_nle.mpr h))
    · intro h13
      exact kx_throw d_B_get_16 d_B_get_19 d_B_get_20 d_B_get_22 d_B_get_25 t_B_132 rfl (by decide) (Nat.le_of_ble_eq_true rfl) (by decide) (by decide) ⟨rfl, rfl⟩
set_option maxRecDepth 20000 in
set_option maxHeartbeats 4000000 in
theorem m_B_get {E : kx_E} {w : va_W} {n : Nat} {ad : Nat → Nat} {L : Nat → List Nat} {V S : Nat → Nat → Int32} {pe bi : Nat → Option Nat} (hC : Cls E w n ad L V S pe bi) (hb : biOk n bi) {car i : Int32} {c num j : Nat} (hc0 : carI bi car = some c) (hv : ¬ (i < 0 ∨ nI 4 < i)) (hn : S (carB c) 7 = nI num) (h24 : num ≤ 24) (hj : j < (L (carB c + 26)).length) : kx_S E Y_B_get [.ref (ad 0), .int car, .int (nI (j + 1)), .int i] w (kx_Qi w (knownI (V (carB c + 30)) (V (carB c + 31)) (S (carB c) 8) num j i)) := by
  refine kx_go (by decide) rfl rfl (Nat.le_of_ble_eq_true rfl) (kx_cc rfl (kx_cc rfl (kx_cc rfl (kx_cc rfl kx_c0)))) (fun z => ?_)
  have hO : kx_off w w clsN := kx_off.rf
  have hc := carI_c hb hc0
  refine kx_aload_n d_B_get_0 rfl (by first | rfl | exact kx_rf _) ?_
  refine kx_iload_n d_B_get_1 rfl ?_
  refine kx_callV (as := [.int car]) (rest := []) d_B_get_2 v_B_59 rfl (hC.bus) rfl rfl (by decide) (by decide) (Nat.le_of_ble_eq_true rfl) (by decide) (by decide) rfl (m_B_carOf hC hc0) (fun X w1 h => by cases h.1) (fun v w1 hq9 => ?_)
  obtain ⟨hv, hw9⟩ := hq9
  cases hv
  subst hw9
  refine kx_stk (st1 := [.ref (ad (carB c))]) rfl ?_
  refine kx_astore d_B_get_5 (by decide) (by first | rfl | exact kx_rf _) ?_
  refine kx_iload_n d_B_get_7 rfl ?_
  refine kx_if_lt 16 d_B_get_8 (by decide) ?_ ?_
  · intro h8
    first
      | exact absurd (Or.inl h8) hv
      | exact absurd (Or.inr (i32_nle.mp h13)) hv
  · intro h8
    refine kx_iload_n d_B_get_11 rfl ?_
    refine kx_iconst (nI 4) d_B_get_12 (by decide) ?_
    refine kx_icmp_le 26 d_B_get_13 (by decide) ?_ ?_
    · intro h13
      refine kx_aload d_B_get_26 rfl (by first | rfl | exact kx_rf _) ?_
      refine kx_iload_n d_B_get_28 rfl ?_
      refine kx_iload_n d_B_get_29 rfl ?_
      refine kx_callV (as := [.int (nI (j + 1)), .int i]) (rest := []) d_B_get_30 v_B_134 rfl (hC.car c hc) rfl rfl (by decide) (by decide) (Nat.le_of_ble_eq_true rfl) (by decide) (by decide) rfl (m_C_known hC hc hn h24 hj i) (fun X w1 h => by cases h.1) (fun v w1 hq9 => ?_)
      obtain ⟨hv, hw9⟩ := hq9
      cases hv
      subst hw9
      refine kx_stk (st1 := [.int (knownI (V (carB c + 30)) (V (carB c + 31)) (S (carB c) 8) num j i)]) rfl ?_
      refine kx_iret d_B_get_33 rfl (by decide) (by decide) ?_
      exact ⟨rfl, rfl⟩
    · intro h13
      first
        | exact absurd (Or.inl h8) hv
        | exact absurd (Or.inr (i32_nle.mp h13)) hv
set_option maxRecDepth 20000 in
set_option maxHeartbeats 4000000 in
theorem m_B_get_out {E : kx_E} {w : va_W} {n : Nat} {ad : Nat → Nat} {L : Nat → List Nat} {V S : Nat → Nat → Int32} {pe bi : Nat → Option Nat} (hC : Cls E w n ad L V S pe bi) (hb : biOk n bi) {car v i : Int32} {c : Nat} (hc0 : carI bi car = some c) (hv : ¬ (i < 0 ∨ nI 4 < i)) (hj : v < nI 1 ∨ nI (L (carB c + 26)).length < v) : kx_S E Y_B_get [.ref (ad 0), .int car, .int v, .int i] w (kx_Qi w (-1)) := by
  refine kx_go (by decide) rfl rfl (Nat.le_of_ble_eq_true rfl) (kx_cc rfl (kx_cc rfl (kx_cc rfl (kx_cc rfl kx_c0)))) (fun z => ?_)
  have hO : kx_off w w clsN := kx_off.rf
  have hc := carI_c hb hc0
  refine kx_aload_n d_B_get_0 rfl (by first | rfl | exact kx_rf _) ?_
  refine kx_iload_n d_B_get_1 rfl ?_
  refine kx_callV (as := [.int car]) (rest := []) d_B_get_2 v_B_59 rfl (hC.bus) rfl rfl (by decide) (by decide) (Nat.le_of_ble_eq_true rfl) (by decide) (by decide) rfl (m_B_carOf hC hc0) (fun X w1 h => by cases h.1) (fun v w1 hq9 => ?_)
  obtain ⟨hv, hw9⟩ := hq9
  cases hv
  subst hw9
  refine kx_stk (st1 := [.ref (ad (carB c))]) rfl ?_
  refine kx_astore d_B_get_5 (by decide) (by first | rfl | exact kx_rf _) ?_
  refine kx_iload_n d_B_get_7 rfl ?_
  refine kx_if_lt 16 d_B_get_8 (by decide) ?_ ?_
  · intro h8
    first
      | exact absurd (Or.inl h8) hv
      | exact absurd (Or.inr (i32_nle.mp h13)) hv
  · intro h8
    refine kx_iload_n d_B_get_11 rfl ?_
    refine kx_iconst (nI 4) d_B_get_12 (by decide) ?_
    refine kx_icmp_le 26 d_B_get_13 (by decide) ?_ ?_
    · intro h13
      refine kx_aload d_B_get_26 rfl (by first | rfl | exact kx_rf _) ?_
      refine kx_iload_n d_B_get_28 rfl ?_
      refine kx_iload_n d_B_get_29 rfl ?_
      refine kx_callV (as := [.int v, .int i]) (rest := []) d_B_get_30 v_B_134 rfl (hC.car c hc) rfl rfl (by decide) (by decide) (Nat.le_of_ble_eq_true rfl) (by decide) (by decide) rfl (m_C_known_no hC hc hj i) (fun X w1 h => by cases h.1) (fun v w1 hq9 => ?_)
      obtain ⟨hv, hw9⟩ := hq9
      cases hv
      subst hw9
      refine kx_stk (st1 := [.int (-1)]) rfl ?_
      refine kx_iret d_B_get_33 rfl (by decide) (by decide) ?_
      exact ⟨rfl, rfl⟩
    · intro h13
      first
        | exact absurd (Or.inl h8) hv
        | exact absurd (Or.inr (i32_nle.mp h13)) hv
theorem d_B_order_0 : decode c_B_order 0 = .ok (.aload_n 0, 1) := by decide +kernel
theorem d_B_order_1 : decode c_B_order 1 = .ok (.aload_n 0, 1) := by decide +kernel
theorem d_B_order_2 : decode c_B_order 2 = .ok (.iload_n 1, 1) := by decide +kernel
theorem d_B_order_3 : decode c_B_order 3 = .ok (.invokevirtual 59, 3) := by decide +kernel
theorem d_B_order_6 : decode c_B_order 6 = .ok (.invokevirtual 63, 3) := by decide +kernel
theorem d_B_order_9 : decode c_B_order 9 = .ok (.iload_n 2, 1) := by decide +kernel
theorem d_B_order_10 : decode c_B_order 10 = .ok (.invokevirtual 117, 3) := by decide +kernel
theorem d_B_order_13 : decode c_B_order 13 = .ok (.ireturn, 1) := by decide +kernel
set_option maxRecDepth 20000 in
set_option maxHeartbeats 4000000 in
theorem m_B_order_no {E : kx_E} {w : va_W} {n : Nat} {ad : Nat → Nat} {L : Nat → List Nat} {V S : Nat → Nat → Int32} {pe bi : Nat → Option Nat} (hC : Cls E w n ad L V S pe bi) {car v : Int32} (hc0 : carI bi car = none) : kx_S E Y_B_order [.ref (ad 0), .int car, .int v] w (fun o w1 => o = .inr kx_nse ∧ w1 = w) := by
  refine kx_go (by decide) rfl rfl (Nat.le_of_ble_eq_true rfl) (kx_cc rfl (kx_cc rfl (kx_cc rfl kx_c0))) (fun z => ?_)
  have hO : kx_off w w clsN := kx_off.rf
  refine kx_aload_n d_B_order_0 rfl (by first | rfl | exact kx_rf _) ?_
  refine kx_aload_n d_B_order_1 rfl (by first | rfl | exact kx_rf _) ?_
  refine kx_iload_n d_B_order_2 rfl ?_
  refine kx_callV (as := [.int car]) (rest := [.ref (ad 0)]) d_B_order_3 v_B_59 rfl (hC.bus) rfl rfl (by decide) (by decide) (Nat.le_of_ble_eq_true rfl) (by decide) (by decide) rfl (m_B_carOf_no hC hc0) (fun X w1 hq => ⟨rfl, by cases hq.1; exact ⟨rfl, hq.2⟩⟩) (fun v w1 hq => by cases hq.1)
set_option maxRecDepth 20000 in
set_option maxHeartbeats 4000000 in
theorem m_B_order {E : kx_E} {w : va_W} {n : Nat} {ad : Nat → Nat} {L : Nat → List Nat} {V S : Nat → Nat → Int32} {pe bi : Nat → Option Nat} (hC : Cls E w n ad L V S pe bi) (hb : biOk n bi) (hp : peOk n pe) (hI : InvS n S) {car : Int32} {c j : Nat} (hc0 : carI bi car = some c) (hj : j < (truL pe S c).length) : kx_S E Y_B_order [.ref (ad 0), .int car, .int (nI (j + 1))] w (CQ E w n ad (up1 L 4 (truL pe S c)) V S pe bi (some (.int (nI ((truL pe S c).getD j 0 / 2))))) := by
  refine kx_go (by decide) rfl rfl (Nat.le_of_ble_eq_true rfl) (kx_cc rfl (kx_cc rfl (kx_cc rfl kx_c0))) (fun z => ?_)
  have hO : kx_off w w clsN := kx_off.rf
  have hc := carI_c hb hc0
  refine kx_aload_n d_B_order_0 rfl (by first | rfl | exact kx_rf _) ?_
  refine kx_aload_n d_B_order_1 rfl (by first | rfl | exact kx_rf _) ?_
  refine kx_iload_n d_B_order_2 rfl ?_
  refine kx_callV (as := [.int car]) (rest := [.ref (ad 0)]) d_B_order_3 v_B_59 rfl (hC.bus) rfl rfl (by decide) (by decide) (Nat.le_of_ble_eq_true rfl) (by decide) (by decide) rfl (m_B_carOf hC hc0) (fun X w1 h => by cases h.1) (fun v w1 hq9 => ?_)
  obtain ⟨hv, hw9⟩ := hq9
  cases hv
  subst hw9
  refine kx_stk (st1 := [.ref (ad (carB c)), .ref (ad 0)]) rfl ?_
  refine kx_callV (as := [.ref (ad (carB c))]) (rest := []) d_B_order_6 v_B_63 rfl (hC.bus) rfl rfl (by decide) (by decide) (Nat.le_of_ble_eq_true rfl) (by decide) (by decide) rfl (m_B_trueRun hC hp hI hc) (fun X w1 h => by cases h.1) (fun v w hq9 => ?_)
  obtain ⟨hv, hC, hO9⟩ := hq9
  cases hv
  have hO := hO.tr hO9 (fun _ h => h) (fun _ h => h)
  refine kx_stk (st1 := [.ref (ad 4)]) rfl ?_
  refine kx_iload_n d_B_order_9 rfl ?_
  refine cR_idAt d_B_order_10 v_B_117 hC (rowN_4 n) (by rw [up1_s]; exact hj) (by decide) (Nat.le_of_ble_eq_true rfl) (by decide) (by decide) ?_
  rw [up1_s]
  refine kx_iret d_B_order_13 rfl (by decide) (by decide) ?_
  exact ⟨rfl, hC, hO⟩
set_option maxRecDepth 20000 in
set_option maxHeartbeats 4000000 in
theorem m_B_order_out {E : kx_E} {w : va_W} {n : Nat} {ad : Nat → Nat} {L : Nat → List Nat} {V S : Nat → Nat → Int32} {pe bi : Nat → Option Nat} (hC : Cls E w n ad L V S pe bi) (hb : biOk n bi) (hp : peOk n pe) (hI : InvS n S) {car v : Int32} {c : Nat} (hc0 : carI bi car = some c) (hj : v < nI 1 ∨ nI (truL pe S c).length < v) : kx_S E Y_B_order [.ref (ad 0), .int car, .int v] w (CQ E w n ad (up1 L 4 (truL pe S c)) V S pe bi (some (.int (-1)))) := by
  refine kx_go (by decide) rfl rfl (Nat.le_of_ble_eq_true rfl) (kx_cc rfl (kx_cc rfl (kx_cc rfl kx_c0))) (fun z => ?_)
  have hO : kx_off w w clsN := kx_off.rf
  have hc := carI_c hb hc0
  refine kx_aload_n d_B_order_0 rfl (by first | rfl | exact kx_rf _) ?_
  refine kx_aload_n d_B_order_1 rfl (by first | rfl | exact kx_rf _) ?_
  refine kx_iload_n d_B_order_2 rfl ?_
  refine kx_callV (as := [.int car]) (rest := [.ref (ad 0)]) d_B_order_3 v_B_59 rfl (hC.bus) rfl rfl (by decide) (by decide) (Nat.le_of_ble_eq_true rfl) (by decide) (by decide) rfl (m_B_carOf hC hc0) (fun X w1 h => by cases h.1) (fun v w1 hq9 => ?_)
  obtain ⟨hv, hw9⟩ := hq9
  cases hv
  subst hw9
  refine kx_stk (st1 := [.ref (ad (carB c)), .ref (ad 0)]) rfl ?_
  refine kx_callV (as := [.ref (ad (carB c))]) (rest := []) d_B_order_6 v_B_63 rfl (hC.bus) rfl rfl (by decide) (by decide) (Nat.le_of_ble_eq_true rfl) (by decide) (by decide) rfl (m_B_trueRun hC hp hI hc) (fun X w1 h => by cases h.1) (fun v w hq9 => ?_)
  obtain ⟨hv, hC, hO9⟩ := hq9
  cases hv
  have hO := hO.tr hO9 (fun _ h => h) (fun _ h => h)
  refine kx_stk (st1 := [.ref (ad 4)]) rfl ?_
  refine kx_iload_n d_B_order_9 rfl ?_
  refine cR_idAt_no d_B_order_10 v_B_117 hC (rowN_4 n) (by rw [up1_s]; exact hj) (by decide) (Nat.le_of_ble_eq_true rfl) (by decide) (by decide) ?_
  refine kx_iret d_B_order_13 rfl (by decide) (by decide) ?_
  exact ⟨rfl, hC, hO⟩
theorem d_B_count_0 : decode c_B_count 0 = .ok (.iload_n 1, 1) := by decide +kernel
theorem d_B_count_1 : decode c_B_count 1 = .ok (.ifCond .lt 8, 3) := by decide +kernel
theorem d_B_count_4 : decode c_B_count 4 = .ok (.iload_n 1, 1) := by decide +kernel
theorem d_B_count_5 : decode c_B_count 5 = .ok (.iconst 5, 1) := by decide +kernel
theorem d_B_count_6 : decode c_B_count 6 = .ok (.if_icmp .lt 13, 3) := by decide +kernel
theorem d_B_count_9 : decode c_B_count 9 = .ok (.new 30, 3) := by decide +kernel
theorem d_B_count_12 : decode c_B_count 12 = .ok (.dup, 1) := by decide +kernel
theorem d_B_count_13 : decode c_B_count 13 = .ok (.ldc 156, 2) := by decide +kernel
theorem d_B_count_15 : decode c_B_count 15 = .ok (.invokespecial 34, 3) := by decide +kernel
theorem d_B_count_18 : decode c_B_count 18 = .ok (.athrow, 1) := by decide +kernel
theorem d_B_count_19 : decode c_B_count 19 = .ok (.iload_n 1, 1) := by decide +kernel
theorem d_B_count_20 : decode c_B_count 20 = .ok (.tableswitch 57 0 3 #[32, 37, 42, 47], 32) := by decide +kernel
theorem d_B_count_52 : decode c_B_count 52 = .ok (.aload_n 0, 1) := by decide +kernel
theorem d_B_count_53 : decode c_B_count 53 = .ok (.getfield 37, 3) := by decide +kernel
theorem d_B_count_56 : decode c_B_count 56 = .ok (.ireturn, 1) := by decide +kernel
theorem d_B_count_57 : decode c_B_count 57 = .ok (.aload_n 0, 1) := by decide +kernel
theorem d_B_count_58 : decode c_B_count 58 = .ok (.getfield 80, 3) := by decide +kernel
theorem d_B_count_61 : decode c_B_count 61 = .ok (.ireturn, 1) := by decide +kernel
theorem d_B_count_62 : decode c_B_count 62 = .ok (.aload_n 0, 1) := by decide +kernel
theorem d_B_count_63 : decode c_B_count 63 = .ok (.getfield 103, 3) := by decide +kernel
theorem d_B_count_66 : decode c_B_count 66 = .ok (.ireturn, 1) := by decide +kernel
theorem d_B_count_67 : decode c_B_count 67 = .ok (.aload_n 0, 1) := by decide +kernel
theorem d_B_count_68 : decode c_B_count 68 = .ok (.getfield 37, 3) := by decide +kernel
theorem d_B_count_71 : decode c_B_count 71 = .ok (.aload_n 0, 1) := by decide +kernel
theorem d_B_count_72 : decode c_B_count 72 = .ok (.getfield 80, 3) := by decide +kernel
theorem d_B_count_75 : decode c_B_count 75 = .ok (.isub, 1) := by decide +kernel
theorem d_B_count_76 : decode c_B_count 76 = .ok (.ireturn, 1) := by decide +kernel
theorem d_B_count_77 : decode c_B_count 77 = .ok (.aload_n 0, 1) := by decide +kernel
theorem d_B_count_78 : decode c_B_count 78 = .ok (.getfield 106, 3) := by decide +kernel
theorem d_B_count_81 : decode c_B_count 81 = .ok (.ireturn, 1) := by decide +kernel
def cntI (S : Nat → Nat → Int32) (k : Nat) : Int32 := if k = 0 then S 0 4 else if k = 1 then S 0 5 else if k = 2 then S 0 7 else if k = 3 then S 0 4 - S 0 5 else S 0 8
set_option maxRecDepth 20000 in
set_option maxHeartbeats 4000000 in
theorem m_B_count_bad {E : kx_E} {w : va_W} {n : Nat} {ad : Nat → Nat} {L : Nat → List Nat} {V S : Nat → Nat → Int32} {pe bi : Nat → Option Nat} (hC : Cls E w n ad L V S pe bi) {v : Int32} (hv : v < 0 ∨ ¬ v < nI 5) : kx_S E Y_B_count [.ref (ad 0), .int v] w (fun o w1 => o = .inr kx_iae ∧ w1 = w) := by
  refine kx_go (by decide) rfl rfl (Nat.le_of_ble_eq_true rfl) (kx_cc rfl (kx_cc rfl kx_c0)) (fun z => ?_)
  have hO : kx_off w w clsN := kx_off.rf
  refine kx_iload_n d_B_count_0 rfl ?_
  refine kx_if_lt 9 d_B_count_1 (by decide) ?_ ?_
  · intro h1
    exact kx_throw d_B_count_9 d_B_count_12 d_B_count_13 d_B_count_15 d_B_count_18 t_B_156 rfl (by decide) (Nat.le_of_ble_eq_true rfl) (by decide) (by decide) ⟨rfl, rfl⟩
  · intro h1
    refine kx_iload_n d_B_count_4 rfl ?_
    refine kx_iconst (nI 5) d_B_count_5 (by decide) ?_
    refine kx_icmp_lt 19 d_B_count_6 (by decide) ?_ ?_
    · intro h6
      exact absurd hv (by rintro (h | h); exact h1 h; exact h h6)
    · intro h6
      exact kx_throw d_B_count_9 d_B_count_12 d_B_count_13 d_B_count_15 d_B_count_18 t_B_156 rfl (by decide) (Nat.le_of_ble_eq_true rfl) (by decide) (by decide) ⟨rfl, rfl⟩
set_option maxRecDepth 20000 in
set_option maxHeartbeats 4000000 in
theorem m_B_count_0 {E : kx_E} {w : va_W} {n : Nat} {ad : Nat → Nat} {L : Nat → List Nat} {V S : Nat → Nat → Int32} {pe bi : Nat → Option Nat} (hC : Cls E w n ad L V S pe bi)  : kx_S E Y_B_count [.ref (ad 0), .int (nI 0)] w (kx_Qi w (cntI S 0)) := by
  refine kx_go (by decide) rfl rfl (Nat.le_of_ble_eq_true rfl) (kx_cc rfl (kx_cc rfl kx_c0)) (fun z => ?_)
  have hO : kx_off w w clsN := kx_off.rf
  refine kx_iload_n d_B_count_0 rfl ?_
  refine kx_if_lt_n 9 d_B_count_1 (by decide) (by decide) ?_
  refine kx_iload_n d_B_count_4 rfl ?_
  refine kx_iconst (nI 5) d_B_count_5 (by decide) ?_
  first | refine kx_icmp_lt_n 19 d_B_count_6 (by decide) (by omega) (by omega) ?_ ?_ | refine kx_icmp_lt 19 d_B_count_6 (by decide) ?_ ?_
  · intro h6
    refine kx_iload_n d_B_count_19 rfl ?_
    refine kx_tabIn (off := 32) 52 d_B_count_20 (by decide) (by decide) (by decide) (by decide) ?_
    refine kx_aload_n d_B_count_52 rfl (by first | rfl | exact kx_rf _) ?_
    refine kx_get _ d_B_count_53 f_B_37 hC.bus (by rfl) ?_
    refine kx_iret d_B_count_56 rfl (by decide) (by decide) ?_
    exact ⟨rfl, rfl⟩
  · intro h6
    exact absurd h6 (by decide)
set_option maxRecDepth 20000 in
set_option maxHeartbeats 4000000 in
theorem m_B_count_1 {E : kx_E} {w : va_W} {n : Nat} {ad : Nat → Nat} {L : Nat → List Nat} {V S : Nat → Nat → Int32} {pe bi : Nat → Option Nat} (hC : Cls E w n ad L V S pe bi)  : kx_S E Y_B_count [.ref (ad 0), .int (nI 1)] w (kx_Qi w (cntI S 1)) := by
  refine kx_go (by decide) rfl rfl (Nat.le_of_ble_eq_true rfl) (kx_cc rfl (kx_cc rfl kx_c0)) (fun z => ?_)
  have hO : kx_off w w clsN := kx_off.rf
  refine kx_iload_n d_B_count_0 rfl ?_
  refine kx_if_lt_n 9 d_B_count_1 (by decide) (by decide) ?_
  refine kx_iload_n d_B_count_4 rfl ?_
  refine kx_iconst (nI 5) d_B_count_5 (by decide) ?_
  first | refine kx_icmp_lt_n 19 d_B_count_6 (by decide) (by omega) (by omega) ?_ ?_ | refine kx_icmp_lt 19 d_B_count_6 (by decide) ?_ ?_
  · intro h6
    refine kx_iload_n d_B_count_19 rfl ?_
    refine kx_tabIn (off := 37) 57 d_B_count_20 (by decide) (by decide) (by decide) (by decide) ?_
    refine kx_aload_n d_B_count_57 rfl (by first | rfl | exact kx_rf _) ?_
    refine kx_get _ d_B_count_58 f_B_80 hC.bus (by rfl) ?_
    refine kx_iret d_B_count_61 rfl (by decide) (by decide) ?_
    exact ⟨rfl, rfl⟩
  · intro h6
    exact absurd h6 (by decide)
set_option maxRecDepth 20000 in
set_option maxHeartbeats 4000000 in
theorem m_B_count_2 {E : kx_E} {w : va_W} {n : Nat} {ad : Nat → Nat} {L : Nat → List Nat} {V S : Nat → Nat → Int32} {pe bi : Nat → Option Nat} (hC : Cls E w n ad L V S pe bi)  : kx_S E Y_B_count [.ref (ad 0), .int (nI 2)] w (kx_Qi w (cntI S 2)) := by
  refine kx_go (by decide) rfl rfl (Nat.le_of_ble_eq_true rfl) (kx_cc rfl (kx_cc rfl kx_c0)) (fun z => ?_)
  have hO : kx_off w w clsN := kx_off.rf
  refine kx_iload_n d_B_count_0 rfl ?_
  refine kx_if_lt_n 9 d_B_count_1 (by decide) (by decide) ?_
  refine kx_iload_n d_B_count_4 rfl ?_
  refine kx_iconst (nI 5) d_B_count_5 (by decide) ?_
  first | refine kx_icmp_lt_n 19 d_B_count_6 (by decide) (by omega) (by omega) ?_ ?_ | refine kx_icmp_lt 19 d_B_count_6 (by decide) ?_ ?_
  · intro h6
    refine kx_iload_n d_B_count_19 rfl ?_
    refine kx_tabIn (off := 42) 62 d_B_count_20 (by decide) (by decide) (by decide) (by decide) ?_
    refine kx_aload_n d_B_count_62 rfl (by first | rfl | exact kx_rf _) ?_
    refine kx_get _ d_B_count_63 f_B_103 hC.bus (by rfl) ?_
    refine kx_iret d_B_count_66 rfl (by decide) (by decide) ?_
    exact ⟨rfl, rfl⟩
  · intro h6
    exact absurd h6 (by decide)
set_option maxRecDepth 20000 in
set_option maxHeartbeats 4000000 in
theorem m_B_count_3 {E : kx_E} {w : va_W} {n : Nat} {ad : Nat → Nat} {L : Nat → List Nat} {V S : Nat → Nat → Int32} {pe bi : Nat → Option Nat} (hC : Cls E w n ad L V S pe bi)  : kx_S E Y_B_count [.ref (ad 0), .int (nI 3)] w (kx_Qi w (cntI S 3)) := by
  refine kx_go (by decide) rfl rfl (Nat.le_of_ble_eq_true rfl) (kx_cc rfl (kx_cc rfl kx_c0)) (fun z => ?_)
  have hO : kx_off w w clsN := kx_off.rf
  refine kx_iload_n d_B_count_0 rfl ?_
  refine kx_if_lt_n 9 d_B_count_1 (by decide) (by decide) ?_
  refine kx_iload_n d_B_count_4 rfl ?_
  refine kx_iconst (nI 5) d_B_count_5 (by decide) ?_
  first | refine kx_icmp_lt_n 19 d_B_count_6 (by decide) (by omega) (by omega) ?_ ?_ | refine kx_icmp_lt 19 d_B_count_6 (by decide) ?_ ?_
  · intro h6
    refine kx_iload_n d_B_count_19 rfl ?_
    refine kx_tabIn (off := 47) 67 d_B_count_20 (by decide) (by decide) (by decide) (by decide) ?_
    refine kx_aload_n d_B_count_67 rfl (by first | rfl | exact kx_rf _) ?_
    refine kx_get _ d_B_count_68 f_B_37 hC.bus (by rfl) ?_
    refine kx_aload_n d_B_count_71 rfl (by first | rfl | exact kx_rf _) ?_
    refine kx_get _ d_B_count_72 f_B_80 hC.bus (by rfl) ?_
    refine kx_isub _ d_B_count_75 rfl ?_
    refine kx_iret d_B_count_76 rfl (by decide) (by decide) ?_
    exact ⟨rfl, rfl⟩
  · intro h6
    exact absurd h6 (by decide)
set_option maxRecDepth 20000 in
set_option maxHeartbeats 4000000 in
theorem m_B_count_4 {E : kx_E} {w : va_W} {n : Nat} {ad : Nat → Nat} {L : Nat → List Nat} {V S : Nat → Nat → Int32} {pe bi : Nat → Option Nat} (hC : Cls E w n ad L V S pe bi)  : kx_S E Y_B_count [.ref (ad 0), .int (nI 4)] w (kx_Qi w (cntI S 4)) := by
  refine kx_go (by decide) rfl rfl (Nat.le_of_ble_eq_true rfl) (kx_cc rfl (kx_cc rfl kx_c0)) (fun z => ?_)
  have hO : kx_off w w clsN := kx_off.rf
  refine kx_iload_n d_B_count_0 rfl ?_
  refine kx_if_lt_n 9 d_B_count_1 (by decide) (by decide) ?_
  refine kx_iload_n d_B_count_4 rfl ?_
  refine kx_iconst (nI 5) d_B_count_5 (by decide) ?_
  first | refine kx_icmp_lt_n 19 d_B_count_6 (by decide) (by omega) (by omega) ?_ ?_ | refine kx_icmp_lt 19 d_B_count_6 (by decide) ?_ ?_
  · intro h6
    refine kx_iload_n d_B_count_19 rfl ?_
    refine kx_tabOut 77 d_B_count_20 (by decide) (by decide) ?_
    refine kx_aload_n d_B_count_77 rfl (by first | rfl | exact kx_rf _) ?_
    refine kx_get _ d_B_count_78 f_B_106 hC.bus (by rfl) ?_
    refine kx_iret d_B_count_81 rfl (by decide) (by decide) ?_
    exact ⟨rfl, rfl⟩
  · intro h6
    exact absurd h6 (by decide)
theorem m_B_count {E : kx_E} {w : va_W} {n : Nat} {ad : Nat → Nat} {L : Nat → List Nat} {V S : Nat → Nat → Int32} {pe bi : Nat → Option Nat} (hC : Cls E w n ad L V S pe bi) {k : Nat} (hk : k < 5) : kx_S E Y_B_count [.ref (ad 0), .int (nI k)] w (kx_Qi w (cntI S k)) := by
  have h : k = 0 ∨ k = 1 ∨ k = 2 ∨ k = 3 ∨ k = 4 := by omega
  rcases h with rfl | rfl | rfl | rfl | rfl
  · exact m_B_count_0 hC
  · exact m_B_count_1 hC
  · exact m_B_count_2 hC
  · exact m_B_count_3 hC
  · exact m_B_count_4 hC
end
section
/-! ConsistBus: couple, uncouple, side, settled -/
theorem d_B_couple_0 : decode c_B_couple 0 = .ok (.aload_n 0, 1) := by decide +kernel
theorem d_B_couple_1 : decode c_B_couple 1 = .ok (.iload_n 1, 1) := by decide +kernel
theorem d_B_couple_2 : decode c_B_couple 2 = .ok (.iload_n 2, 1) := by decide +kernel
theorem d_B_couple_3 : decode c_B_couple 3 = .ok (.invokevirtual 49, 3) := by decide +kernel
theorem d_B_couple_6 : decode c_B_couple 6 = .ok (.astore 5, 2) := by decide +kernel
theorem d_B_couple_8 : decode c_B_couple 8 = .ok (.aload_n 0, 1) := by decide +kernel
theorem d_B_couple_9 : decode c_B_couple 9 = .ok (.iload_n 3, 1) := by decide +kernel
theorem d_B_couple_10 : decode c_B_couple 10 = .ok (.iload 4, 2) := by decide +kernel
theorem d_B_couple_12 : decode c_B_couple 12 = .ok (.invokevirtual 49, 3) := by decide +kernel
theorem d_B_couple_15 : decode c_B_couple 15 = .ok (.astore 6, 2) := by decide +kernel
theorem d_B_couple_17 : decode c_B_couple 17 = .ok (.aload 5, 2) := by decide +kernel
theorem d_B_couple_19 : decode c_B_couple 19 = .ok (.getfield 53, 3) := by decide +kernel
theorem d_B_couple_22 : decode c_B_couple 22 = .ok (.ifnonnull 27, 3) := by decide +kernel
theorem d_B_couple_25 : decode c_B_couple 25 = .ok (.aload 6, 2) := by decide +kernel
theorem d_B_couple_27 : decode c_B_couple 27 = .ok (.getfield 53, 3) := by decide +kernel
theorem d_B_couple_30 : decode c_B_couple 30 = .ok (.ifnonnull 19, 3) := by decide +kernel
theorem d_B_couple_33 : decode c_B_couple 33 = .ok (.aload_n 0, 1) := by decide +kernel
theorem d_B_couple_34 : decode c_B_couple 34 = .ok (.aload_n 0, 1) := by decide +kernel
theorem d_B_couple_35 : decode c_B_couple 35 = .ok (.iload_n 1, 1) := by decide +kernel
theorem d_B_couple_36 : decode c_B_couple 36 = .ok (.invokevirtual 59, 3) := by decide +kernel
theorem d_B_couple_39 : decode c_B_couple 39 = .ok (.invokevirtual 63, 3) := by decide +kernel
theorem d_B_couple_42 : decode c_B_couple 42 = .ok (.iload_n 3, 1) := by decide +kernel
theorem d_B_couple_43 : decode c_B_couple 43 = .ok (.invokevirtual 67, 3) := by decide +kernel
theorem d_B_couple_46 : decode c_B_couple 46 = .ok (.ifCond .eq 13, 3) := by decide +kernel
theorem d_B_couple_49 : decode c_B_couple 49 = .ok (.new 41, 3) := by decide +kernel
theorem d_B_couple_52 : decode c_B_couple 52 = .ok (.dup, 1) := by decide +kernel
theorem d_B_couple_53 : decode c_B_couple 53 = .ok (.ldc 71, 2) := by decide +kernel
theorem d_B_couple_55 : decode c_B_couple 55 = .ok (.invokespecial 45, 3) := by decide +kernel
theorem d_B_couple_58 : decode c_B_couple 58 = .ok (.athrow, 1) := by decide +kernel
theorem d_B_couple_59 : decode c_B_couple 59 = .ok (.aload_n 0, 1) := by decide +kernel
theorem d_B_couple_60 : decode c_B_couple 60 = .ok (.invokevirtual 73, 3) := by decide +kernel
theorem d_B_couple_63 : decode c_B_couple 63 = .ok (.istore 7, 2) := by decide +kernel
theorem d_B_couple_65 : decode c_B_couple 65 = .ok (.aload_n 0, 1) := by decide +kernel
theorem d_B_couple_66 : decode c_B_couple 66 = .ok (.dup, 1) := by decide +kernel
theorem d_B_couple_67 : decode c_B_couple 67 = .ok (.getfield 77, 3) := by decide +kernel
theorem d_B_couple_70 : decode c_B_couple 70 = .ok (.iconst 1, 1) := by decide +kernel
theorem d_B_couple_71 : decode c_B_couple 71 = .ok (.iload 7, 2) := by decide +kernel
theorem d_B_couple_73 : decode c_B_couple 73 = .ok (.ishl, 1) := by decide +kernel
theorem d_B_couple_74 : decode c_B_couple 74 = .ok (.ior, 1) := by decide +kernel
theorem d_B_couple_75 : decode c_B_couple 75 = .ok (.putfield 77, 3) := by decide +kernel
theorem d_B_couple_78 : decode c_B_couple 78 = .ok (.aload_n 0, 1) := by decide +kernel
theorem d_B_couple_79 : decode c_B_couple 79 = .ok (.dup, 1) := by decide +kernel
theorem d_B_couple_80 : decode c_B_couple 80 = .ok (.getfield 80, 3) := by decide +kernel
theorem d_B_couple_83 : decode c_B_couple 83 = .ok (.iconst 1, 1) := by decide +kernel
theorem d_B_couple_84 : decode c_B_couple 84 = .ok (.iadd, 1) := by decide +kernel
theorem d_B_couple_85 : decode c_B_couple 85 = .ok (.putfield 80, 3) := by decide +kernel
theorem d_B_couple_88 : decode c_B_couple 88 = .ok (.aload 5, 2) := by decide +kernel
theorem d_B_couple_90 : decode c_B_couple 90 = .ok (.aload 6, 2) := by decide +kernel
theorem d_B_couple_92 : decode c_B_couple 92 = .ok (.iload 7, 2) := by decide +kernel
theorem d_B_couple_94 : decode c_B_couple 94 = .ok (.invokevirtual 83, 3) := by decide +kernel
theorem d_B_couple_97 : decode c_B_couple 97 = .ok (.aload 6, 2) := by decide +kernel
theorem d_B_couple_99 : decode c_B_couple 99 = .ok (.aload 5, 2) := by decide +kernel
theorem d_B_couple_101 : decode c_B_couple 101 = .ok (.iload 7, 2) := by decide +kernel
theorem d_B_couple_103 : decode c_B_couple 103 = .ok (.invokevirtual 83, 3) := by decide +kernel
theorem d_B_couple_106 : decode c_B_couple 106 = .ok (.iload 7, 2) := by decide +kernel
theorem d_B_couple_108 : decode c_B_couple 108 = .ok (.ireturn, 1) := by decide +kernel
set_option maxRecDepth 20000 in
set_option maxHeartbeats 4000000 in
theorem m_B_couple_no1 {E : kx_E} {w : va_W} {n : Nat} {ad : Nat → Nat} {L : Nat → List Nat} {V S : Nat → Nat → Int32} {pe bi : Nat → Option Nat} (hC : Cls E w n ad L V S pe bi) (hb : biOk n bi) {a ea b eb : Int32} (hx : endQ bi a ea = none) : kx_S E Y_B_couple [.ref (ad 0), .int a, .int ea, .int b, .int eb] w (fun o w1 => o = .inr kx_nse ∧ w1 = w) := by
  refine kx_go (by decide) rfl rfl (Nat.le_of_ble_eq_true rfl) (kx_cc rfl (kx_cc rfl (kx_cc rfl (kx_cc rfl (kx_cc rfl kx_c0))))) (fun z => ?_)
  have hO : kx_off w w clsN := kx_off.rf
  refine kx_aload_n d_B_couple_0 rfl (by first | rfl | exact kx_rf _) ?_
  refine kx_iload_n d_B_couple_1 rfl ?_
  refine kx_iload_n d_B_couple_2 rfl ?_
  refine kx_callV (as := [.int a, .int ea]) (rest := []) d_B_couple_3 v_B_49 rfl (hC.bus) rfl rfl (by decide) (by decide) (Nat.le_of_ble_eq_true rfl) (by decide) (by decide) rfl (m_B_endOf_no hC hb hx) (fun X w1 hq => ⟨rfl, by cases hq.1; exact ⟨rfl, hq.2⟩⟩) (fun v w1 hq => by cases hq.1)
set_option maxRecDepth 20000 in
set_option maxHeartbeats 4000000 in
theorem m_B_couple_no2 {E : kx_E} {w : va_W} {n : Nat} {ad : Nat → Nat} {L : Nat → List Nat} {V S : Nat → Nat → Int32} {pe bi : Nat → Option Nat} (hC : Cls E w n ad L V S pe bi) (hb : biOk n bi) {a ea b eb : Int32} {x : Nat} (hx : endQ bi a ea = some x) (hy : endQ bi b eb = none) : kx_S E Y_B_couple [.ref (ad 0), .int a, .int ea, .int b, .int eb] w (fun o w1 => o = .inr kx_nse ∧ w1 = w) := by
  refine kx_go (by decide) rfl rfl (Nat.le_of_ble_eq_true rfl) (kx_cc rfl (kx_cc rfl (kx_cc rfl (kx_cc rfl (kx_cc rfl kx_c0))))) (fun z => ?_)
  have hO : kx_off w w clsN := kx_off.rf
  refine kx_aload_n d_B_couple_0 rfl (by first | rfl | exact kx_rf _) ?_
  refine kx_iload_n d_B_couple_1 rfl ?_
  refine kx_iload_n d_B_couple_2 rfl ?_
  refine kx_callV (as := [.int a, .int ea]) (rest := []) d_B_couple_3 v_B_49 rfl (hC.bus) rfl rfl (by decide) (by decide) (Nat.le_of_ble_eq_true rfl) (by decide) (by decide) rfl (m_B_endOf hC hb hx) (fun X w1 h => by cases h.1) (fun v w1 hq9 => ?_)
  obtain ⟨hv, hw9⟩ := hq9
  cases hv
  subst hw9
  refine kx_stk (st1 := [.ref (ad x)]) rfl ?_
  refine kx_astore d_B_couple_6 (by decide) (by first | rfl | exact kx_rf _) ?_
  refine kx_aload_n d_B_couple_8 rfl (by first | rfl | exact kx_rf _) ?_
  refine kx_iload_n d_B_couple_9 rfl ?_
  refine kx_iload d_B_couple_10 rfl ?_
  refine kx_callV (as := [.int b, .int eb]) (rest := []) d_B_couple_12 v_B_49 rfl (hC.bus) rfl rfl (by decide) (by decide) (Nat.le_of_ble_eq_true rfl) (by decide) (by decide) rfl (m_B_endOf_no hC hb hy) (fun X w1 hq => ⟨rfl, by cases hq.1; exact ⟨rfl, hq.2⟩⟩) (fun v w1 hq => by cases hq.1)
set_option maxRecDepth 20000 in
set_option maxHeartbeats 4000000 in
theorem m_B_couple_cou {E : kx_E} {w : va_W} {n : Nat} {ad : Nat → Nat} {L : Nat → List Nat} {V S : Nat → Nat → Int32} {pe bi : Nat → Option Nat} (hC : Cls E w n ad L V S pe bi) (hb : biOk n bi) {a ea b eb : Int32} {x y : Nat} (hx : endQ bi a ea = some x) (hy : endQ bi b eb = some y) (hpe : ¬ (pe x = none ∧ pe y = none)) : kx_S E Y_B_couple [.ref (ad 0), .int a, .int ea, .int b, .int eb] w (fun o w1 => o = .inr kx_ise ∧ w1 = w) := by
  refine kx_go (by decide) rfl rfl (Nat.le_of_ble_eq_true rfl) (kx_cc rfl (kx_cc rfl (kx_cc rfl (kx_cc rfl (kx_cc rfl kx_c0))))) (fun z => ?_)
  have hO : kx_off w w clsN := kx_off.rf
  have hxn := endQ_N hb hx
  have hyn := endQ_N hb hy
  refine kx_aload_n d_B_couple_0 rfl (by first | rfl | exact kx_rf _) ?_
  refine kx_iload_n d_B_couple_1 rfl ?_
  refine kx_iload_n d_B_couple_2 rfl ?_
  refine kx_callV (as := [.int a, .int ea]) (rest := []) d_B_couple_3 v_B_49 rfl (hC.bus) rfl rfl (by decide) (by decide) (Nat.le_of_ble_eq_true rfl) (by decide) (by decide) rfl (m_B_endOf hC hb hx) (fun X w1 h => by cases h.1) (fun v w1 hq9 => ?_)
  obtain ⟨hv, hw9⟩ := hq9
  cases hv
  subst hw9
  refine kx_stk (st1 := [.ref (ad x)]) rfl ?_
  refine kx_astore d_B_couple_6 (by decide) (by first | rfl | exact kx_rf _) ?_
  refine kx_aload_n d_B_couple_8 rfl (by first | rfl | exact kx_rf _) ?_
  refine kx_iload_n d_B_couple_9 rfl ?_
  refine kx_iload d_B_couple_10 rfl ?_
  refine kx_callV (as := [.int b, .int eb]) (rest := []) d_B_couple_12 v_B_49 rfl (hC.bus) rfl rfl (by decide) (by decide) (Nat.le_of_ble_eq_true rfl) (by decide) (by decide) rfl (m_B_endOf hC hb hy) (fun X w1 h => by cases h.1) (fun v w1 hq9 => ?_)
  obtain ⟨hv, hw9⟩ := hq9
  cases hv
  subst hw9
  refine kx_stk (st1 := [.ref (ad y)]) rfl ?_
  refine kx_astore d_B_couple_15 (by decide) (by first | rfl | exact kx_rf _) ?_
  refine kx_aload d_B_couple_17 rfl (by first | rfl | exact kx_rf _) ?_
  refine kx_get _ d_B_couple_19 f_B_53 (hC.endAt hxn) (by rfl) ?_
  refine kx_ifnonnull 49 d_B_couple_22 (by decide) ?_ ?_
  · intro a22 h22
    exact kx_throw d_B_couple_49 d_B_couple_52 d_B_couple_53 d_B_couple_55 d_B_couple_58 t_B_71 rfl (by decide) (Nat.le_of_ble_eq_true rfl) (by decide) (by decide) ⟨rfl, rfl⟩
  · intro h22
    refine kx_aload d_B_couple_25 rfl (by first | rfl | exact kx_rf _) ?_
    refine kx_get _ d_B_couple_27 f_B_53 (hC.endAt hyn) (by rfl) ?_
    refine kx_ifnonnull 49 d_B_couple_30 (by decide) ?_ ?_
    · intro a30 h30
      exact kx_throw d_B_couple_49 d_B_couple_52 d_B_couple_53 d_B_couple_55 d_B_couple_58 t_B_71 rfl (by decide) (Nat.le_of_ble_eq_true rfl) (by decide) (by decide) ⟨rfl, rfl⟩
    · intro h30
      refine absurd ⟨?_, ?_⟩ hpe
      · cases h : pe x with
        | none => rfl
        | some q => rw [h] at h22; cases h22
      · cases h : pe y with
        | none => rfl
        | some q => rw [h] at h30; cases h30
set_option maxRecDepth 20000 in
set_option maxHeartbeats 4000000 in
theorem m_B_couple_run {E : kx_E} {w : va_W} {n : Nat} {ad : Nat → Nat} {L : Nat → List Nat} {V S : Nat → Nat → Int32} {pe bi : Nat → Option Nat} (hC : Cls E w n ad L V S pe bi) (hb : biOk n bi) {a ea b eb : Int32} {x y : Nat} (hx : endQ bi a ea = some x) (hy : endQ bi b eb = some y) (hp : peOk n pe) (hI : InvS n S) (hpx : pe x = none) (hpy : pe y = none) {c j : Nat} (hc0 : carI bi a = some c) (hj : b = nI j) (hj2 : j ≤ 255) (ht : rowNo j (truL pe S c) 0 ≠ 0) : kx_S E Y_B_couple [.ref (ad 0), .int a, .int ea, .int b, .int eb] w (fun o w1 => o = .inr kx_ise ∧ Cls E w1 n ad (up1 L 4 (truL pe S c)) V S pe bi ∧ kx_off w w1 clsN) := by
  refine kx_go (by decide) rfl rfl (Nat.le_of_ble_eq_true rfl) (kx_cc rfl (kx_cc rfl (kx_cc rfl (kx_cc rfl (kx_cc rfl kx_c0))))) (fun z => ?_)
  have hO : kx_off w w clsN := kx_off.rf
  have hxn := endQ_N hb hx
  have hyn := endQ_N hb hy
  have hc := carI_c hb hc0
  subst hj
  have hle := rowNo_le j (truL pe S c) 0
  have hl24 := runL_len pe S 24 (some (truX pe S c))
  have e9 : truL pe S c = runL pe S 24 (some (truX pe S c)) := rfl
  rw [← e9] at hl24
  refine kx_aload_n d_B_couple_0 rfl (by first | rfl | exact kx_rf _) ?_
  refine kx_iload_n d_B_couple_1 rfl ?_
  refine kx_iload_n d_B_couple_2 rfl ?_
  refine kx_callV (as := [.int a, .int ea]) (rest := []) d_B_couple_3 v_B_49 rfl (hC.bus) rfl rfl (by decide) (by decide) (Nat.le_of_ble_eq_true rfl) (by decide) (by decide) rfl (m_B_endOf hC hb hx) (fun X w1 h => by cases h.1) (fun v w1 hq9 => ?_)
  obtain ⟨hv, hw9⟩ := hq9
  cases hv
  subst hw9
  refine kx_stk (st1 := [.ref (ad x)]) rfl ?_
  refine kx_astore d_B_couple_6 (by decide) (by first | rfl | exact kx_rf _) ?_
  refine kx_aload_n d_B_couple_8 rfl (by first | rfl | exact kx_rf _) ?_
  refine kx_iload_n d_B_couple_9 rfl ?_
  refine kx_iload d_B_couple_10 rfl ?_
  refine kx_callV (as := [.int (nI j), .int eb]) (rest := []) d_B_couple_12 v_B_49 rfl (hC.bus) rfl rfl (by decide) (by decide) (Nat.le_of_ble_eq_true rfl) (by decide) (by decide) rfl (m_B_endOf hC hb hy) (fun X w1 h => by cases h.1) (fun v w1 hq9 => ?_)
  obtain ⟨hv, hw9⟩ := hq9
  cases hv
  subst hw9
  refine kx_stk (st1 := [.ref (ad y)]) rfl ?_
  refine kx_astore d_B_couple_15 (by decide) (by first | rfl | exact kx_rf _) ?_
  refine kx_aload d_B_couple_17 rfl (by first | rfl | exact kx_rf _) ?_
  refine kx_get _ d_B_couple_19 f_B_53 (hC.endAt hxn) (by rfl) ?_
  rw [hpx]
  refine kx_ifnonnull (o := none) 49 d_B_couple_22 (by decide) (fun a h => by cases h) (fun _ => ?_)
  refine kx_aload d_B_couple_25 rfl (by first | rfl | exact kx_rf _) ?_
  refine kx_get _ d_B_couple_27 f_B_53 (hC.endAt hyn) (by rfl) ?_
  rw [hpy]
  refine kx_ifnonnull (o := none) 49 d_B_couple_30 (by decide) (fun a h => by cases h) (fun _ => ?_)
  refine kx_aload_n d_B_couple_33 rfl (by first | rfl | exact kx_rf _) ?_
  refine kx_aload_n d_B_couple_34 rfl (by first | rfl | exact kx_rf _) ?_
  refine kx_iload_n d_B_couple_35 rfl ?_
  refine kx_callV (as := [.int a]) (rest := [.ref (ad 0)]) d_B_couple_36 v_B_59 rfl (hC.bus) rfl rfl (by decide) (by decide) (Nat.le_of_ble_eq_true rfl) (by decide) (by decide) rfl (m_B_carOf hC hc0) (fun X w1 h => by cases h.1) (fun v w1 hq9 => ?_)
  obtain ⟨hv, hw9⟩ := hq9
  cases hv
  subst hw9
  refine kx_stk (st1 := [.ref (ad (carB c)), .ref (ad 0)]) rfl ?_
  refine kx_callV (as := [.ref (ad (carB c))]) (rest := []) d_B_couple_39 v_B_63 rfl (hC.bus) rfl rfl (by decide) (by decide) (Nat.le_of_ble_eq_true rfl) (by decide) (by decide) rfl (m_B_trueRun hC hp hI hc) (fun X w1 h => by cases h.1) (fun v w hq9 => ?_)
  obtain ⟨hv, hC, hO9⟩ := hq9
  cases hv
  have hO := hO.tr hO9 (fun _ h => h) (fun _ h => h)
  refine kx_stk (st1 := [.ref (ad 4)]) rfl ?_
  refine kx_iload_n d_B_couple_42 rfl ?_
  refine cR_numberOf d_B_couple_43 v_B_67 hC (rowN_4 n) (by omega) (by decide) (Nat.le_of_ble_eq_true rfl) (by decide) (by decide) ?_
  rw [up1_s]
  first | refine kx_if_eq_n 59 d_B_couple_46 (by decide) (by omega) ?_ ?_ | refine kx_if_eq 59 d_B_couple_46 (by decide) ?_ ?_
  · intro h46
    exact absurd h46 ht
  · intro h46
    exact kx_throw d_B_couple_49 d_B_couple_52 d_B_couple_53 d_B_couple_55 d_B_couple_58 t_B_71 rfl (by decide) (Nat.le_of_ble_eq_true rfl) (by decide) (by decide) ⟨rfl, hC, hO⟩
def couS (S : Nat → Nat → Int32) (x y : Nat) : Nat → Nat → Int32 :=
  up2 (up2 (up2 (up2 S 0 6 (S 0 6 ||| (nI 1) <<< (nI (freeI (S 0 6) 24 0) &&& 31))) 0 5 (S 0 5 + nI 1)) x 6 (nI (freeI (S 0 6) 24 0))) y 6 (nI (freeI (S 0 6) 24 0))
def couP (pe : Nat → Option Nat) (x y : Nat) : Nat → Option Nat := up1 (up1 pe x (some y)) y (some x)
set_option maxRecDepth 20000 in
set_option maxHeartbeats 4000000 in
theorem m_B_couple {E : kx_E} {w : va_W} {n : Nat} {ad : Nat → Nat} {L : Nat → List Nat} {V S : Nat → Nat → Int32} {pe bi : Nat → Option Nat} (hC : Cls E w n ad L V S pe bi) (hb : biOk n bi) {a ea b eb : Int32} {x y : Nat} (hx : endQ bi a ea = some x) (hy : endQ bi b eb = some y) (hp : peOk n pe) (hI : InvS n S) (hpx : pe x = none) (hpy : pe y = none) {c j : Nat} (hc0 : carI bi a = some c) (hj : b = nI j) (hj2 : j ≤ 255) (ht : rowNo j (truL pe S c) 0 = 0) : kx_S E Y_B_couple [.ref (ad 0), .int a, .int ea, .int b, .int eb] w (CQ E w n ad (up1 L 4 (truL pe S c)) V (couS S x y) (couP pe x y) bi (some (.int (nI (freeI (S 0 6) 24 0))))) := by
  refine kx_go (by decide) rfl rfl (Nat.le_of_ble_eq_true rfl) (kx_cc rfl (kx_cc rfl (kx_cc rfl (kx_cc rfl (kx_cc rfl kx_c0))))) (fun z => ?_)
  have hO : kx_off w w clsN := kx_off.rf
  have hxn := endQ_N hb hx
  have hyn := endQ_N hb hy
  have hc := carI_c hb hc0
  subst hj
  have hle := rowNo_le j (truL pe S c) 0
  have hl24 := runL_len pe S 24 (some (truX pe S c))
  have e9 : truL pe S c = runL pe S 24 (some (truX pe S c)) := rfl
  rw [← e9] at hl24
  refine kx_aload_n d_B_couple_0 rfl (by first | rfl | exact kx_rf _) ?_
  refine kx_iload_n d_B_couple_1 rfl ?_
  refine kx_iload_n d_B_couple_2 rfl ?_
  refine kx_callV (as := [.int a, .int ea]) (rest := []) d_B_couple_3 v_B_49 rfl (hC.bus) rfl rfl (by decide) (by decide) (Nat.le_of_ble_eq_true rfl) (by decide) (by decide) rfl (m_B_endOf hC hb hx) (fun X w1 h => by cases h.1) (fun v w1 hq9 => ?_)
  obtain ⟨hv, hw9⟩ := hq9
  cases hv
  subst hw9
  refine kx_stk (st1 := [.ref (ad x)]) rfl ?_
  refine kx_astore d_B_couple_6 (by decide) (by first | rfl | exact kx_rf _) ?_
  refine kx_aload_n d_B_couple_8 rfl (by first | rfl | exact kx_rf _) ?_
  refine kx_iload_n d_B_couple_9 rfl ?_
  refine kx_iload d_B_couple_10 rfl ?_
  refine kx_callV (as := [.int (nI j), .int eb]) (rest := []) d_B_couple_12 v_B_49 rfl (hC.bus) rfl rfl (by decide) (by decide) (Nat.le_of_ble_eq_true rfl) (by decide) (by decide) rfl (m_B_endOf hC hb hy) (fun X w1 h => by cases h.1) (fun v w1 hq9 => ?_)
  obtain ⟨hv, hw9⟩ := hq9
  cases hv
  subst hw9
  refine kx_stk (st1 := [.ref (ad y)]) rfl ?_
  refine kx_astore d_B_couple_15 (by decide) (by first | rfl | exact kx_rf _) ?_
  refine kx_aload d_B_couple_17 rfl (by first | rfl | exact kx_rf _) ?_
  refine kx_get _ d_B_couple_19 f_B_53 (hC.endAt hxn) (by rfl) ?_
  rw [hpx]
  refine kx_ifnonnull (o := none) 49 d_B_couple_22 (by decide) (fun a h => by cases h) (fun _ => ?_)
  refine kx_aload d_B_couple_25 rfl (by first | rfl | exact kx_rf _) ?_
  refine kx_get _ d_B_couple_27 f_B_53 (hC.endAt hyn) (by rfl) ?_
  rw [hpy]
  refine kx_ifnonnull (o := none) 49 d_B_couple_30 (by decide) (fun a h => by cases h) (fun _ => ?_)
  refine kx_aload_n d_B_couple_33 rfl (by first | rfl | exact kx_rf _) ?_
  refine kx_aload_n d_B_couple_34 rfl (by first | rfl | exact kx_rf _) ?_
  refine kx_iload_n d_B_couple_35 rfl ?_
  refine kx_callV (as := [.int a]) (rest := [.ref (ad 0)]) d_B_couple_36 v_B_59 rfl (hC.bus) rfl rfl (by decide) (by decide) (Nat.le_of_ble_eq_true rfl) (by decide) (by decide) rfl (m_B_carOf hC hc0) (fun X w1 h => by cases h.1) (fun v w1 hq9 => ?_)
  obtain ⟨hv, hw9⟩ := hq9
  cases hv
  subst hw9
  refine kx_stk (st1 := [.ref (ad (carB c)), .ref (ad 0)]) rfl ?_
  refine kx_callV (as := [.ref (ad (carB c))]) (rest := []) d_B_couple_39 v_B_63 rfl (hC.bus) rfl rfl (by decide) (by decide) (Nat.le_of_ble_eq_true rfl) (by decide) (by decide) rfl (m_B_trueRun hC hp hI hc) (fun X w1 h => by cases h.1) (fun v w hq9 => ?_)
  obtain ⟨hv, hC, hO9⟩ := hq9
  cases hv
  have hO := hO.tr hO9 (fun _ h => h) (fun _ h => h)
  refine kx_stk (st1 := [.ref (ad 4)]) rfl ?_
  refine kx_iload_n d_B_couple_42 rfl ?_
  refine cR_numberOf d_B_couple_43 v_B_67 hC (rowN_4 n) (by omega) (by decide) (Nat.le_of_ble_eq_true rfl) (by decide) (by decide) ?_
  rw [up1_s]
  first | refine kx_if_eq_n 59 d_B_couple_46 (by decide) (by omega) ?_ ?_ | refine kx_if_eq 59 d_B_couple_46 (by decide) ?_ ?_
  · intro h46
    refine kx_aload_n d_B_couple_59 rfl (by first | rfl | exact kx_rf _) ?_
    refine kx_callV (as := []) (rest := []) d_B_couple_60 v_B_73 rfl (hC.bus) rfl rfl (by decide) (by decide) (Nat.le_of_ble_eq_true rfl) (by decide) (by decide) rfl (m_B_freeNumber hC) (fun X w1 h => by cases h.1) (fun v w1 hq9 => ?_)
    obtain ⟨hv, hw9⟩ := hq9
    cases hv
    subst hw9
    refine kx_stk (st1 := [.int (nI (freeI (S 0 6) 24 0))]) rfl ?_
    refine kx_istore d_B_couple_63 (by decide) ?_
    refine kx_aload_n d_B_couple_65 rfl (by first | rfl | exact kx_rf _) ?_
    refine kx_dup d_B_couple_66 (by first | rfl | exact kx_rfc _) ?_
    refine kx_get _ d_B_couple_67 f_B_77 hC.bus (by rfl) ?_
    refine kx_iconst (nI 1) d_B_couple_70 (by decide) ?_
    refine kx_iload d_B_couple_71 rfl ?_
    refine kx_ishl _ d_B_couple_73 rfl ?_
    refine kx_ior _ d_B_couple_74 rfl ?_
    refine cB_put6 d_B_couple_75 f_B_77 hC hO (fun w hC hO => ?_)
    refine kx_aload_n d_B_couple_78 rfl (by first | rfl | exact kx_rf _) ?_
    refine kx_dup d_B_couple_79 (by first | rfl | exact kx_rfc _) ?_
    refine kx_get _ d_B_couple_80 f_B_80 hC.bus (by rfl) ?_
    rw [up2_k (by decide)]
    refine kx_iconst (nI 1) d_B_couple_83 (by decide) ?_
    refine kx_iadd _ d_B_couple_84 rfl ?_
    refine cB_put5 d_B_couple_85 f_B_80 hC hO (fun w hC hO => ?_)
    refine kx_aload d_B_couple_88 rfl (by first | rfl | exact kx_rf _) ?_
    refine kx_aload d_B_couple_90 rfl (by first | rfl | exact kx_rf _) ?_
    refine kx_iload d_B_couple_92 rfl ?_
    refine kx_callV (as := [.ref (ad y), .int (nI (freeI (S 0 6) 24 0))]) (rest := []) d_B_couple_94 v_B_83 rfl (hC.endAt hxn) rfl rfl (by decide) (by decide) (Nat.le_of_ble_eq_true rfl) (by decide) (by decide) rfl (m_N_join hC hxn) (fun X w1 h => by cases h.1) (fun v w hq9 => ?_)
    obtain ⟨hv, hC, hO9⟩ := hq9
    cases hv
    have hO := hO.tr hO9 (fun _ h => h) (fun _ h => h)
    refine kx_stk (st1 := []) rfl ?_
    refine kx_aload d_B_couple_97 rfl (by first | rfl | exact kx_rf _) ?_
    refine kx_aload d_B_couple_99 rfl (by first | rfl | exact kx_rf _) ?_
    refine kx_iload d_B_couple_101 rfl ?_
    refine kx_callV (as := [.ref (ad x), .int (nI (freeI (S 0 6) 24 0))]) (rest := []) d_B_couple_103 v_B_83 rfl (hC.endAt hyn) rfl rfl (by decide) (by decide) (Nat.le_of_ble_eq_true rfl) (by decide) (by decide) rfl (m_N_join hC hyn) (fun X w1 h => by cases h.1) (fun v w hq9 => ?_)
    obtain ⟨hv, hC, hO9⟩ := hq9
    cases hv
    have hO := hO.tr hO9 (fun _ h => h) (fun _ h => h)
    refine kx_stk (st1 := []) rfl ?_
    refine kx_iload d_B_couple_106 rfl ?_
    refine kx_iret d_B_couple_108 rfl (by decide) (by decide) ?_
    exact ⟨rfl, hC, hO⟩
  · intro h46
    exact absurd ht h46
theorem d_B_uncouple_0 : decode c_B_uncouple 0 = .ok (.aload_n 0, 1) := by decide +kernel
theorem d_B_uncouple_1 : decode c_B_uncouple 1 = .ok (.iload_n 1, 1) := by decide +kernel
theorem d_B_uncouple_2 : decode c_B_uncouple 2 = .ok (.iload_n 2, 1) := by decide +kernel
theorem d_B_uncouple_3 : decode c_B_uncouple 3 = .ok (.invokevirtual 49, 3) := by decide +kernel
theorem d_B_uncouple_6 : decode c_B_uncouple 6 = .ok (.astore_n 3, 1) := by decide +kernel
theorem d_B_uncouple_7 : decode c_B_uncouple 7 = .ok (.aload_n 3, 1) := by decide +kernel
theorem d_B_uncouple_8 : decode c_B_uncouple 8 = .ok (.getfield 53, 3) := by decide +kernel
theorem d_B_uncouple_11 : decode c_B_uncouple 11 = .ok (.astore 4, 2) := by decide +kernel
theorem d_B_uncouple_13 : decode c_B_uncouple 13 = .ok (.aload 4, 2) := by decide +kernel
theorem d_B_uncouple_15 : decode c_B_uncouple 15 = .ok (.ifnonnull 13, 3) := by decide +kernel
theorem d_B_uncouple_18 : decode c_B_uncouple 18 = .ok (.new 41, 3) := by decide +kernel
theorem d_B_uncouple_21 : decode c_B_uncouple 21 = .ok (.dup, 1) := by decide +kernel
theorem d_B_uncouple_22 : decode c_B_uncouple 22 = .ok (.ldc 87, 2) := by decide +kernel
theorem d_B_uncouple_24 : decode c_B_uncouple 24 = .ok (.invokespecial 45, 3) := by decide +kernel
theorem d_B_uncouple_27 : decode c_B_uncouple 27 = .ok (.athrow, 1) := by decide +kernel
theorem d_B_uncouple_28 : decode c_B_uncouple 28 = .ok (.aload_n 3, 1) := by decide +kernel
theorem d_B_uncouple_29 : decode c_B_uncouple 29 = .ok (.getfield 89, 3) := by decide +kernel
theorem d_B_uncouple_32 : decode c_B_uncouple 32 = .ok (.istore 5, 2) := by decide +kernel
theorem d_B_uncouple_34 : decode c_B_uncouple 34 = .ok (.aload_n 0, 1) := by decide +kernel
theorem d_B_uncouple_35 : decode c_B_uncouple 35 = .ok (.dup, 1) := by decide +kernel
theorem d_B_uncouple_36 : decode c_B_uncouple 36 = .ok (.getfield 77, 3) := by decide +kernel
theorem d_B_uncouple_39 : decode c_B_uncouple 39 = .ok (.iconst 1, 1) := by decide +kernel
theorem d_B_uncouple_40 : decode c_B_uncouple 40 = .ok (.iload 5, 2) := by decide +kernel
theorem d_B_uncouple_42 : decode c_B_uncouple 42 = .ok (.ishl, 1) := by decide +kernel
theorem d_B_uncouple_43 : decode c_B_uncouple 43 = .ok (.iconst (-1), 1) := by decide +kernel
theorem d_B_uncouple_44 : decode c_B_uncouple 44 = .ok (.ixor, 1) := by decide +kernel
theorem d_B_uncouple_45 : decode c_B_uncouple 45 = .ok (.iand, 1) := by decide +kernel
theorem d_B_uncouple_46 : decode c_B_uncouple 46 = .ok (.putfield 77, 3) := by decide +kernel
theorem d_B_uncouple_49 : decode c_B_uncouple 49 = .ok (.aload_n 0, 1) := by decide +kernel
theorem d_B_uncouple_50 : decode c_B_uncouple 50 = .ok (.dup, 1) := by decide +kernel
theorem d_B_uncouple_51 : decode c_B_uncouple 51 = .ok (.getfield 80, 3) := by decide +kernel
theorem d_B_uncouple_54 : decode c_B_uncouple 54 = .ok (.iconst 1, 1) := by decide +kernel
theorem d_B_uncouple_55 : decode c_B_uncouple 55 = .ok (.isub, 1) := by decide +kernel
theorem d_B_uncouple_56 : decode c_B_uncouple 56 = .ok (.putfield 80, 3) := by decide +kernel
theorem d_B_uncouple_59 : decode c_B_uncouple 59 = .ok (.aload_n 3, 1) := by decide +kernel
theorem d_B_uncouple_60 : decode c_B_uncouple 60 = .ok (.invokevirtual 92, 3) := by decide +kernel
theorem d_B_uncouple_63 : decode c_B_uncouple 63 = .ok (.aload 4, 2) := by decide +kernel
theorem d_B_uncouple_65 : decode c_B_uncouple 65 = .ok (.invokevirtual 92, 3) := by decide +kernel
theorem d_B_uncouple_68 : decode c_B_uncouple 68 = .ok (.iload 5, 2) := by decide +kernel
theorem d_B_uncouple_70 : decode c_B_uncouple 70 = .ok (.ireturn, 1) := by decide +kernel
set_option maxRecDepth 20000 in
set_option maxHeartbeats 4000000 in
theorem m_B_uncouple_no {E : kx_E} {w : va_W} {n : Nat} {ad : Nat → Nat} {L : Nat → List Nat} {V S : Nat → Nat → Int32} {pe bi : Nat → Option Nat} (hC : Cls E w n ad L V S pe bi) (hb : biOk n bi) {a ea : Int32} (hx : endQ bi a ea = none) : kx_S E Y_B_uncouple [.ref (ad 0), .int a, .int ea] w (fun o w1 => o = .inr kx_nse ∧ w1 = w) := by
  refine kx_go (by decide) rfl rfl (Nat.le_of_ble_eq_true rfl) (kx_cc rfl (kx_cc rfl (kx_cc rfl kx_c0))) (fun z => ?_)
  have hO : kx_off w w clsN := kx_off.rf
  refine kx_aload_n d_B_uncouple_0 rfl (by first | rfl | exact kx_rf _) ?_
  refine kx_iload_n d_B_uncouple_1 rfl ?_
  refine kx_iload_n d_B_uncouple_2 rfl ?_
  refine kx_callV (as := [.int a, .int ea]) (rest := []) d_B_uncouple_3 v_B_49 rfl (hC.bus) rfl rfl (by decide) (by decide) (Nat.le_of_ble_eq_true rfl) (by decide) (by decide) rfl (m_B_endOf_no hC hb hx) (fun X w1 hq => ⟨rfl, by cases hq.1; exact ⟨rfl, hq.2⟩⟩) (fun v w1 hq => by cases hq.1)
set_option maxRecDepth 20000 in
set_option maxHeartbeats 4000000 in
theorem m_B_uncouple_fre {E : kx_E} {w : va_W} {n : Nat} {ad : Nat → Nat} {L : Nat → List Nat} {V S : Nat → Nat → Int32} {pe bi : Nat → Option Nat} (hC : Cls E w n ad L V S pe bi) (hb : biOk n bi) {a ea : Int32} {x : Nat} (hx : endQ bi a ea = some x) (hpx : pe x = none) : kx_S E Y_B_uncouple [.ref (ad 0), .int a, .int ea] w (fun o w1 => o = .inr kx_ise ∧ w1 = w) := by
  refine kx_go (by decide) rfl rfl (Nat.le_of_ble_eq_true rfl) (kx_cc rfl (kx_cc rfl (kx_cc rfl kx_c0))) (fun z => ?_)
  have hO : kx_off w w clsN := kx_off.rf
  have hxn := endQ_N hb hx
  refine kx_aload_n d_B_uncouple_0 rfl (by first | rfl | exact kx_rf _) ?_
  refine kx_iload_n d_B_uncouple_1 rfl ?_
  refine kx_iload_n d_B_uncouple_2 rfl ?_
  refine kx_callV (as := [.int a, .int ea]) (rest := []) d_B_uncouple_3 v_B_49 rfl (hC.bus) rfl rfl (by decide) (by decide) (Nat.le_of_ble_eq_true rfl) (by decide) (by decide) rfl (m_B_endOf hC hb hx) (fun X w1 h => by cases h.1) (fun v w1 hq9 => ?_)
  obtain ⟨hv, hw9⟩ := hq9
  cases hv
  subst hw9
  refine kx_stk (st1 := [.ref (ad x)]) rfl ?_
  refine kx_astore_n d_B_uncouple_6 (by decide) (by first | rfl | exact kx_rf _) ?_
  refine kx_aload_n d_B_uncouple_7 rfl (by first | rfl | exact kx_rf _) ?_
  refine kx_get _ d_B_uncouple_8 f_B_53 (hC.endAt hxn) (by rfl) ?_
  rw [hpx]
  refine kx_stk (st1 := [va_rf none]) rfl ?_
  refine kx_astore d_B_uncouple_11 (by decide) (by first | rfl | exact kx_rf _) ?_
  refine kx_aload d_B_uncouple_13 rfl (by first | rfl | exact kx_rf _) ?_
  refine kx_ifnonnull (o := none) 28 d_B_uncouple_15 (by decide) (fun a h => by cases h) (fun _ => ?_)
  exact kx_throw d_B_uncouple_18 d_B_uncouple_21 d_B_uncouple_22 d_B_uncouple_24 d_B_uncouple_27 t_B_87 rfl (by decide) (Nat.le_of_ble_eq_true rfl) (by decide) (by decide) ⟨rfl, rfl⟩
def uncS (S : Nat → Nat → Int32) (x y : Nat) : Nat → Nat → Int32 :=
  up2 (up2 (up2 (up2 S 0 6 (S 0 6 &&& ((nI 1) <<< (S x 6 &&& 31) ^^^ -1))) 0 5 (S 0 5 - nI 1)) x 6 (-1)) y 6 (-1)
def uncP (pe : Nat → Option Nat) (x y : Nat) : Nat → Option Nat := up1 (up1 pe x none) y none
set_option maxRecDepth 20000 in
set_option maxHeartbeats 4000000 in
theorem m_B_uncouple {E : kx_E} {w : va_W} {n : Nat} {ad : Nat → Nat} {L : Nat → List Nat} {V S : Nat → Nat → Int32} {pe bi : Nat → Option Nat} (hC : Cls E w n ad L V S pe bi) (hb : biOk n bi) {a ea : Int32} {x : Nat} (hx : endQ bi a ea = some x) (hp : peOk n pe) {y : Nat} (hpx : pe x = some y) : kx_S E Y_B_uncouple [.ref (ad 0), .int a, .int ea] w (CQ E w n ad L V (uncS S x y) (uncP pe x y) bi (some (.int (S x 6)))) := by
  refine kx_go (by decide) rfl rfl (Nat.le_of_ble_eq_true rfl) (kx_cc rfl (kx_cc rfl (kx_cc rfl kx_c0))) (fun z => ?_)
  have hO : kx_off w w clsN := kx_off.rf
  have hxn := endQ_N hb hx
  have hyn := hp x y hxn hpx
  refine kx_aload_n d_B_uncouple_0 rfl (by first | rfl | exact kx_rf _) ?_
  refine kx_iload_n d_B_uncouple_1 rfl ?_
  refine kx_iload_n d_B_uncouple_2 rfl ?_
  refine kx_callV (as := [.int a, .int ea]) (rest := []) d_B_uncouple_3 v_B_49 rfl (hC.bus) rfl rfl (by decide) (by decide) (Nat.le_of_ble_eq_true rfl) (by decide) (by decide) rfl (m_B_endOf hC hb hx) (fun X w1 h => by cases h.1) (fun v w1 hq9 => ?_)
  obtain ⟨hv, hw9⟩ := hq9
  cases hv
  subst hw9
  refine kx_stk (st1 := [.ref (ad x)]) rfl ?_
  refine kx_astore_n d_B_uncouple_6 (by decide) (by first | rfl | exact kx_rf _) ?_
  refine kx_aload_n d_B_uncouple_7 rfl (by first | rfl | exact kx_rf _) ?_
  refine kx_get _ d_B_uncouple_8 f_B_53 (hC.endAt hxn) (by rfl) ?_
  rw [hpx]
  refine kx_stk (st1 := [.ref (ad y)]) rfl ?_
  refine kx_astore d_B_uncouple_11 (by decide) (by first | rfl | exact kx_rf _) ?_
  refine kx_aload d_B_uncouple_13 rfl (by first | rfl | exact kx_rf _) ?_
  refine kx_ifnonnull (o := some (ad y)) 28 d_B_uncouple_15 (by decide) (fun _ _ => ?_) (fun h => by cases h)
  refine kx_aload_n d_B_uncouple_28 rfl (by first | rfl | exact kx_rf _) ?_
  refine kx_get _ d_B_uncouple_29 f_B_89 (hC.endAt hxn) (by rfl) ?_
  refine kx_istore d_B_uncouple_32 (by decide) ?_
  refine kx_aload_n d_B_uncouple_34 rfl (by first | rfl | exact kx_rf _) ?_
  refine kx_dup d_B_uncouple_35 (by first | rfl | exact kx_rfc _) ?_
  refine kx_get _ d_B_uncouple_36 f_B_77 hC.bus (by rfl) ?_
  refine kx_iconst (nI 1) d_B_uncouple_39 (by decide) ?_
  refine kx_iload d_B_uncouple_40 rfl ?_
  refine kx_ishl _ d_B_uncouple_42 rfl ?_
  refine kx_iconst (-1) d_B_uncouple_43 (by decide) ?_
  refine kx_ixor _ d_B_uncouple_44 rfl ?_
  refine kx_iand _ d_B_uncouple_45 rfl ?_
  refine cB_put6 d_B_uncouple_46 f_B_77 hC hO (fun w hC hO => ?_)
  refine kx_aload_n d_B_uncouple_49 rfl (by first | rfl | exact kx_rf _) ?_
  refine kx_dup d_B_uncouple_50 (by first | rfl | exact kx_rfc _) ?_
  refine kx_get _ d_B_uncouple_51 f_B_80 hC.bus (by rfl) ?_
  rw [up2_k (by decide)]
  refine kx_iconst (nI 1) d_B_uncouple_54 (by decide) ?_
  refine kx_isub _ d_B_uncouple_55 rfl ?_
  refine cB_put5 d_B_uncouple_56 f_B_80 hC hO (fun w hC hO => ?_)
  refine kx_aload_n d_B_uncouple_59 rfl (by first | rfl | exact kx_rf _) ?_
  refine kx_callV (as := []) (rest := []) d_B_uncouple_60 v_B_92 rfl (hC.endAt hxn) rfl rfl (by decide) (by decide) (Nat.le_of_ble_eq_true rfl) (by decide) (by decide) rfl (m_N_part hC hxn) (fun X w1 h => by cases h.1) (fun v w hq9 => ?_)
  obtain ⟨hv, hC, hO9⟩ := hq9
  cases hv
  have hO := hO.tr hO9 (fun _ h => h) (fun _ h => h)
  refine kx_stk (st1 := []) rfl ?_
  refine kx_aload d_B_uncouple_63 rfl (by first | rfl | exact kx_rf _) ?_
  refine kx_callV (as := []) (rest := []) d_B_uncouple_65 v_B_92 rfl (hC.endAt hyn) rfl rfl (by decide) (by decide) (Nat.le_of_ble_eq_true rfl) (by decide) (by decide) rfl (m_N_part hC hyn) (fun X w1 h => by cases h.1) (fun v w hq9 => ?_)
  obtain ⟨hv, hC, hO9⟩ := hq9
  cases hv
  have hO := hO.tr hO9 (fun _ h => h) (fun _ h => h)
  refine kx_stk (st1 := []) rfl ?_
  refine kx_iload d_B_uncouple_68 rfl ?_
  refine kx_iret d_B_uncouple_70 rfl (by decide) (by decide) ?_
  exact ⟨rfl, hC, hO⟩
theorem d_B_side_0 : decode c_B_side 0 = .ok (.aload_n 0, 1) := by decide +kernel
theorem d_B_side_1 : decode c_B_side 1 = .ok (.iload_n 1, 1) := by decide +kernel
theorem d_B_side_2 : decode c_B_side 2 = .ok (.invokevirtual 59, 3) := by decide +kernel
theorem d_B_side_5 : decode c_B_side 5 = .ok (.getfield 114, 3) := by decide +kernel
theorem d_B_side_8 : decode c_B_side 8 = .ok (.astore 4, 2) := by decide +kernel
theorem d_B_side_10 : decode c_B_side 10 = .ok (.iload_n 3, 1) := by decide +kernel
theorem d_B_side_11 : decode c_B_side 11 = .ok (.ifCond .lt 9, 3) := by decide +kernel
theorem d_B_side_14 : decode c_B_side 14 = .ok (.iload_n 3, 1) := by decide +kernel
theorem d_B_side_15 : decode c_B_side 15 = .ok (.bipush 16, 2) := by decide +kernel
theorem d_B_side_17 : decode c_B_side 17 = .ok (.if_icmp .lt 13, 3) := by decide +kernel
theorem d_B_side_20 : decode c_B_side 20 = .ok (.new 30, 3) := by decide +kernel
theorem d_B_side_23 : decode c_B_side 23 = .ok (.dup, 1) := by decide +kernel
theorem d_B_side_24 : decode c_B_side 24 = .ok (.ldc 137, 2) := by decide +kernel
theorem d_B_side_26 : decode c_B_side 26 = .ok (.invokespecial 34, 3) := by decide +kernel
theorem d_B_side_29 : decode c_B_side 29 = .ok (.athrow, 1) := by decide +kernel
theorem d_B_side_30 : decode c_B_side 30 = .ok (.aload_n 0, 1) := by decide +kernel
theorem d_B_side_31 : decode c_B_side 31 = .ok (.aload 4, 2) := by decide +kernel
theorem d_B_side_33 : decode c_B_side 33 = .ok (.iload_n 2, 1) := by decide +kernel
theorem d_B_side_34 : decode c_B_side 34 = .ok (.invokevirtual 117, 3) := by decide +kernel
theorem d_B_side_37 : decode c_B_side 37 = .ok (.invokevirtual 139, 3) := by decide +kernel
theorem d_B_side_40 : decode c_B_side 40 = .ok (.astore 5, 2) := by decide +kernel
theorem d_B_side_42 : decode c_B_side 42 = .ok (.aload 5, 2) := by decide +kernel
theorem d_B_side_44 : decode c_B_side 44 = .ok (.ifnonnull 5, 3) := by decide +kernel
theorem d_B_side_47 : decode c_B_side 47 = .ok (.iconst (-1), 1) := by decide +kernel
theorem d_B_side_48 : decode c_B_side 48 = .ok (.ireturn, 1) := by decide +kernel
theorem d_B_side_49 : decode c_B_side 49 = .ok (.iload_n 3, 1) := by decide +kernel
theorem d_B_side_50 : decode c_B_side 50 = .ok (.bipush 8, 2) := by decide +kernel
theorem d_B_side_52 : decode c_B_side 52 = .ok (.if_icmp .ge 17, 3) := by decide +kernel
theorem d_B_side_55 : decode c_B_side 55 = .ok (.aload 4, 2) := by decide +kernel
theorem d_B_side_57 : decode c_B_side 57 = .ok (.iload_n 2, 1) := by decide +kernel
theorem d_B_side_58 : decode c_B_side 58 = .ok (.invokevirtual 142, 3) := by decide +kernel
theorem d_B_side_61 : decode c_B_side 61 = .ok (.iconst 1, 1) := by decide +kernel
theorem d_B_side_62 : decode c_B_side 62 = .ok (.if_icmp .ne 7, 3) := by decide +kernel
theorem d_B_side_65 : decode c_B_side 65 = .ok (.iconst 1, 1) := by decide +kernel
theorem d_B_side_66 : decode c_B_side 66 = .ok (.goto 4, 3) := by decide +kernel
theorem d_B_side_69 : decode c_B_side 69 = .ok (.iconst 0, 1) := by decide +kernel
theorem d_B_side_70 : decode c_B_side 70 = .ok (.istore 6, 2) := by decide +kernel
theorem d_B_side_72 : decode c_B_side 72 = .ok (.iload 6, 2) := by decide +kernel
theorem d_B_side_74 : decode c_B_side 74 = .ok (.ifCond .eq 9, 3) := by decide +kernel
theorem d_B_side_77 : decode c_B_side 77 = .ok (.iload_n 3, 1) := by decide +kernel
theorem d_B_side_78 : decode c_B_side 78 = .ok (.iconst 1, 1) := by decide +kernel
theorem d_B_side_79 : decode c_B_side 79 = .ok (.ixor, 1) := by decide +kernel
theorem d_B_side_80 : decode c_B_side 80 = .ok (.goto 4, 3) := by decide +kernel
theorem d_B_side_83 : decode c_B_side 83 = .ok (.iload_n 3, 1) := by decide +kernel
theorem d_B_side_84 : decode c_B_side 84 = .ok (.istore 7, 2) := by decide +kernel
theorem d_B_side_86 : decode c_B_side 86 = .ok (.aload 5, 2) := by decide +kernel
theorem d_B_side_88 : decode c_B_side 88 = .ok (.iload 7, 2) := by decide +kernel
theorem d_B_side_90 : decode c_B_side 90 = .ok (.invokevirtual 145, 3) := by decide +kernel
theorem d_B_side_93 : decode c_B_side 93 = .ok (.ifCond .eq 8, 3) := by decide +kernel
theorem d_B_side_96 : decode c_B_side 96 = .ok (.iload 7, 2) := by decide +kernel
theorem d_B_side_98 : decode c_B_side 98 = .ok (.goto 4, 3) := by decide +kernel
theorem d_B_side_101 : decode c_B_side 101 = .ok (.iconst (-1), 1) := by decide +kernel
theorem d_B_side_102 : decode c_B_side 102 = .ok (.ireturn, 1) := by decide +kernel
set_option maxRecDepth 20000 in
set_option maxHeartbeats 4000000 in
theorem m_B_side_no {E : kx_E} {w : va_W} {n : Nat} {ad : Nat → Nat} {L : Nat → List Nat} {V S : Nat → Nat → Int32} {pe bi : Nat → Option Nat} (hC : Cls E w n ad L V S pe bi) {car v f : Int32} (hc0 : carI bi car = none) : kx_S E Y_B_side [.ref (ad 0), .int car, .int v, .int f] w (fun o w1 => o = .inr kx_nse ∧ w1 = w) := by
  refine kx_go (by decide) rfl rfl (Nat.le_of_ble_eq_true rfl) (kx_cc rfl (kx_cc rfl (kx_cc rfl (kx_cc rfl kx_c0)))) (fun z => ?_)
  have hO : kx_off w w clsN := kx_off.rf
  refine kx_aload_n d_B_side_0 rfl (by first | rfl | exact kx_rf _) ?_
  refine kx_iload_n d_B_side_1 rfl ?_
  refine kx_callV (as := [.int car]) (rest := []) d_B_side_2 v_B_59 rfl (hC.bus) rfl rfl (by decide) (by decide) (Nat.le_of_ble_eq_true rfl) (by decide) (by decide) rfl (m_B_carOf_no hC hc0) (fun X w1 hq => ⟨rfl, by cases hq.1; exact ⟨rfl, hq.2⟩⟩) (fun v w1 hq => by cases hq.1)
set_option maxRecDepth 20000 in
set_option maxHeartbeats 4000000 in
theorem m_B_side_bad {E : kx_E} {w : va_W} {n : Nat} {ad : Nat → Nat} {L : Nat → List Nat} {V S : Nat → Nat → Int32} {pe bi : Nat → Option Nat} (hC : Cls E w n ad L V S pe bi) (hb : biOk n bi) {car v f : Int32} {c : Nat} (hc0 : carI bi car = some c) (hv : f < 0 ∨ ¬ f < nI 16) : kx_S E Y_B_side [.ref (ad 0), .int car, .int v, .int f] w (fun o w1 => o = .inr kx_iae ∧ w1 = w) := by
  refine kx_go (by decide) rfl rfl (Nat.le_of_ble_eq_true rfl) (kx_cc rfl (kx_cc rfl (kx_cc rfl (kx_cc rfl kx_c0)))) (fun z => ?_)
  have hO : kx_off w w clsN := kx_off.rf
  have hc := carI_c hb hc0
  refine kx_aload_n d_B_side_0 rfl (by first | rfl | exact kx_rf _) ?_
  refine kx_iload_n d_B_side_1 rfl ?_
  refine kx_callV (as := [.int car]) (rest := []) d_B_side_2 v_B_59 rfl (hC.bus) rfl rfl (by decide) (by decide) (Nat.le_of_ble_eq_true rfl) (by decide) (by decide) rfl (m_B_carOf hC hc0) (fun X w1 h => by cases h.1) (fun v w1 hq9 => ?_)
  obtain ⟨hv, hw9⟩ := hq9
  cases hv
  subst hw9
  refine kx_stk (st1 := [.ref (ad (carB c))]) rfl ?_
  refine kx_get _ d_B_side_5 f_B_114 (hC.car c hc) (by rfl) ?_
  refine kx_astore d_B_side_8 (by decide) (by first | rfl | exact kx_rf _) ?_
  refine kx_iload_n d_B_side_10 rfl ?_
  refine kx_if_lt 20 d_B_side_11 (by decide) ?_ ?_
  · intro h11
    exact kx_throw d_B_side_20 d_B_side_23 d_B_side_24 d_B_side_26 d_B_side_29 t_B_137 rfl (by decide) (Nat.le_of_ble_eq_true rfl) (by decide) (by decide) ⟨rfl, rfl⟩
  · intro h11
    refine kx_iload_n d_B_side_14 rfl ?_
    refine kx_bipush (nI 16) d_B_side_15 (by decide) ?_
    refine kx_icmp_lt 30 d_B_side_17 (by decide) ?_ ?_
    · intro h17
      exact absurd hv (by rintro (h | h); exact h11 h; exact h h17)
    · intro h17
      exact kx_throw d_B_side_20 d_B_side_23 d_B_side_24 d_B_side_26 d_B_side_29 t_B_137 rfl (by decide) (Nat.le_of_ble_eq_true rfl) (by decide) (by decide) ⟨rfl, rfl⟩
set_option maxRecDepth 20000 in
set_option maxHeartbeats 4000000 in
theorem m_B_side_out {E : kx_E} {w : va_W} {n : Nat} {ad : Nat → Nat} {L : Nat → List Nat} {V S : Nat → Nat → Int32} {pe bi : Nat → Option Nat} (hC : Cls E w n ad L V S pe bi) (hb : biOk n bi) {car v : Int32} {c f : Nat} (hc0 : carI bi car = some c) (hf : f < 16) (hj : v < nI 1 ∨ nI (L (carB c + 26)).length < v) : kx_S E Y_B_side [.ref (ad 0), .int car, .int v, .int (nI f)] w (kx_Qi w (-1)) := by
  refine kx_go (by decide) rfl rfl (Nat.le_of_ble_eq_true rfl) (kx_cc rfl (kx_cc rfl (kx_cc rfl (kx_cc rfl kx_c0)))) (fun z => ?_)
  have hO : kx_off w w clsN := kx_off.rf
  have hc := carI_c hb hc0
  have hm1 : carI bi (-1) = none := by unfold carI; rw [if_pos (Or.inl (by decide))]
  refine kx_aload_n d_B_side_0 rfl (by first | rfl | exact kx_rf _) ?_
  refine kx_iload_n d_B_side_1 rfl ?_
  refine kx_callV (as := [.int car]) (rest := []) d_B_side_2 v_B_59 rfl (hC.bus) rfl rfl (by decide) (by decide) (Nat.le_of_ble_eq_true rfl) (by decide) (by decide) rfl (m_B_carOf hC hc0) (fun X w1 h => by cases h.1) (fun v w1 hq9 => ?_)
  obtain ⟨hv, hw9⟩ := hq9
  cases hv
  subst hw9
  refine kx_stk (st1 := [.ref (ad (carB c))]) rfl ?_
  refine kx_get _ d_B_side_5 f_B_114 (hC.car c hc) (by rfl) ?_
  refine kx_astore d_B_side_8 (by decide) (by first | rfl | exact kx_rf _) ?_
  refine kx_iload_n d_B_side_10 rfl ?_
  refine kx_if_lt_n 20 d_B_side_11 (by decide) (by omega) ?_
  refine kx_iload_n d_B_side_14 rfl ?_
  refine kx_bipush (nI 16) d_B_side_15 (by decide) ?_
  first | refine kx_icmp_lt_n 30 d_B_side_17 (by decide) (by omega) (by omega) ?_ ?_ | refine kx_icmp_lt 30 d_B_side_17 (by decide) ?_ ?_
  · intro h17
    refine kx_aload_n d_B_side_30 rfl (by first | rfl | exact kx_rf _) ?_
    refine kx_aload d_B_side_31 rfl (by first | rfl | exact kx_rf _) ?_
    refine kx_iload_n d_B_side_33 rfl ?_
    refine cR_idAt_no d_B_side_34 v_B_117 hC (rowN_26 hc) hj (by decide) (Nat.le_of_ble_eq_true rfl) (by decide) (by decide) ?_
    refine kx_callV (as := [.int (-1)]) (rest := []) d_B_side_37 v_B_139 rfl (hC.bus) rfl rfl (by decide) (by decide) (Nat.le_of_ble_eq_true rfl) (by decide) (by decide) rfl (m_B_carWithId hC (-1)) (fun X w1 h => by cases h.1) (fun v w1 hq9 => ?_)
    obtain ⟨hv, hw9⟩ := hq9
    cases hv
    subst hw9
    rw [hm1]
    refine kx_stk (st1 := [va_rf none]) rfl ?_
    refine kx_astore d_B_side_40 (by decide) (by first | rfl | exact kx_rf _) ?_
    refine kx_aload d_B_side_42 rfl (by first | rfl | exact kx_rf _) ?_
    refine kx_ifnonnull (o := none) 49 d_B_side_44 (by decide) (fun a h => by cases h) (fun _ => ?_)
    refine kx_iconst (-1) d_B_side_47 (by decide) ?_
    refine kx_iret d_B_side_48 rfl (by decide) (by decide) ?_
    exact ⟨rfl, rfl⟩
  · intro h17
    exact absurd h17 (by omega)
def sidF (it f : Nat) : Nat := if f < 8 ∧ it % 2 = 1 then f ^^^ 1 else f
def sidI (mask : Int32) (it f : Nat) : Int32 := if hasI mask (nI (sidF it f)) = 0 then -1 else nI (sidF it f)
theorem hasI_01 (m f : Int32) : hasI m f < 2 ^ 31 := by unfold hasI; split <;> decide
set_option maxRecDepth 20000 in
set_option maxHeartbeats 4000000 in
theorem m_B_side {E : kx_E} {w : va_W} {n : Nat} {ad : Nat → Nat} {L : Nat → List Nat} {V S : Nat → Nat → Int32} {pe bi : Nat → Option Nat} (hC : Cls E w n ad L V S pe bi) (hb : biOk n bi) {car : Int32} {c c2 j f : Nat} (hc0 : carI bi car = some c) (hf : f < 16) (hj : j < (L (carB c + 26)).length) (h2 : carI bi (nI ((L (carB c + 26)).getD j 0 / 2)) = some c2) : kx_S E Y_B_side [.ref (ad 0), .int car, .int (nI (j + 1)), .int (nI f)] w (kx_Qi w (sidI (S (carB c2) 1) ((L (carB c + 26)).getD j 0) f)) := by
  refine kx_go (by decide) rfl rfl (Nat.le_of_ble_eq_true rfl) (kx_cc rfl (kx_cc rfl (kx_cc rfl (kx_cc rfl kx_c0)))) (fun z => ?_)
  have hO : kx_off w w clsN := kx_off.rf
  have hc := carI_c hb hc0
  have hc2 := carI_c hb h2
  have hm := Nat.mod_lt ((L (carB c + 26)).getD j 0) (show 2 > 0 by decide)
  have k1 : (f < 8 ∧ (L (carB c + 26)).getD j 0 % 2 = 1) → kx_R E Y_B_side z 65 [(0, .ref (ad 0)), (3, .int (nI f)), (5, .ref (ad (carB c2)))] [] w 1 6 (kx_Qi w (sidI (S (carB c2) 1) ((L (carB c + 26)).getD j 0) f)) := by
    intro hq
    have hs : sidF ((L (carB c + 26)).getD j 0) f = f ^^^ 1 := by unfold sidF; rw [if_pos hq]
    refine kx_iconst (nI 1) d_B_side_65 (by decide) ?_
    refine kx_goto 70 d_B_side_66 (by decide) ?_
    refine kx_istore d_B_side_70 (by decide) ?_
    refine kx_iload d_B_side_72 rfl ?_
    refine kx_if_eq_n 83 d_B_side_74 (by decide) (by decide) (fun h => absurd h (by decide)) (fun _ => ?_)
    refine kx_iload_n d_B_side_77 rfl ?_
    refine kx_iconst (nI 1) d_B_side_78 (by decide) ?_
    first | refine kx_ixor _ d_B_side_79 (kx_xor _ _) ?_ | refine kx_ixor _ d_B_side_79 rfl ?_
    refine kx_goto 84 d_B_side_80 (by decide) ?_
    refine kx_istore d_B_side_84 (by decide) ?_
    refine kx_aload d_B_side_86 rfl (by first | rfl | exact kx_rf _) ?_
    refine kx_iload d_B_side_88 rfl ?_
    refine kx_callV (as := [.int (nI (f ^^^ 1))]) (rest := []) d_B_side_90 v_B_145 rfl (hC.car c2 hc2) rfl rfl (by decide) (by decide) (Nat.le_of_ble_eq_true rfl) (by decide) (by decide) rfl (m_C_hasFunction hC hc2 (nI (f ^^^ 1))) (fun X w1 h => by cases h.1) (fun v w1 hq9 => ?_)
    obtain ⟨hv, hw9⟩ := hq9
    cases hv
    subst hw9
    refine kx_stk (st1 := [.int (nI (hasI (S (carB c2) 1) (nI (f ^^^ 1))))]) rfl ?_
    refine kx_if_eq_n 101 d_B_side_93 (by decide) (hasI_01 _ _) ?_ ?_
    · intro h93
      refine kx_iconst (-1) d_B_side_101 (by decide) ?_
      refine kx_iret d_B_side_102 rfl (by decide) (by decide) ?_
      unfold sidI
      rw [hs]
      first
        | (rw [if_pos h93]; exact ⟨rfl, rfl⟩)
        | (rw [if_neg h93]; exact ⟨rfl, rfl⟩)
    · intro h93
      refine kx_iload d_B_side_96 rfl ?_
      refine kx_goto 102 d_B_side_98 (by decide) ?_
      refine kx_iret d_B_side_102 rfl (by decide) (by decide) ?_
      unfold sidI
      rw [hs]
      first
        | (rw [if_pos h93]; exact ⟨rfl, rfl⟩)
        | (rw [if_neg h93]; exact ⟨rfl, rfl⟩)
  have k0 : (¬ (f < 8 ∧ (L (carB c + 26)).getD j 0 % 2 = 1)) → kx_R E Y_B_side z 69 [(0, .ref (ad 0)), (3, .int (nI f)), (5, .ref (ad (carB c2)))] [] w 1 6 (kx_Qi w (sidI (S (carB c2) 1) ((L (carB c + 26)).getD j 0) f)) := by
    intro hq
    have hs : sidF ((L (carB c + 26)).getD j 0) f = f := by unfold sidF; rw [if_neg hq]
    refine kx_iconst (nI 0) d_B_side_69 (by decide) ?_
    refine kx_istore d_B_side_70 (by decide) ?_
    refine kx_iload d_B_side_72 rfl ?_
    refine kx_if_eq_n 83 d_B_side_74 (by decide) (by decide) (fun _ => ?_) (fun h => absurd rfl h)
    refine kx_iload_n d_B_side_83 rfl ?_
    refine kx_istore d_B_side_84 (by decide) ?_
    refine kx_aload d_B_side_86 rfl (by first | rfl | exact kx_rf _) ?_
    refine kx_iload d_B_side_88 rfl ?_
    refine kx_callV (as := [.int (nI f)]) (rest := []) d_B_side_90 v_B_145 rfl (hC.car c2 hc2) rfl rfl (by decide) (by decide) (Nat.le_of_ble_eq_true rfl) (by decide) (by decide) rfl (m_C_hasFunction hC hc2 (nI f)) (fun X w1 h => by cases h.1) (fun v w1 hq9 => ?_)
    obtain ⟨hv, hw9⟩ := hq9
    cases hv
    subst hw9
    refine kx_stk (st1 := [.int (nI (hasI (S (carB c2) 1) (nI f)))]) rfl ?_
    refine kx_if_eq_n 101 d_B_side_93 (by decide) (hasI_01 _ _) ?_ ?_
    · intro h93
      refine kx_iconst (-1) d_B_side_101 (by decide) ?_
      refine kx_iret d_B_side_102 rfl (by decide) (by decide) ?_
      unfold sidI
      rw [hs]
      first
        | (rw [if_pos h93]; exact ⟨rfl, rfl⟩)
        | (rw [if_neg h93]; exact ⟨rfl, rfl⟩)
    · intro h93
      refine kx_iload d_B_side_96 rfl ?_
      refine kx_goto 102 d_B_side_98 (by decide) ?_
      refine kx_iret d_B_side_102 rfl (by decide) (by decide) ?_
      unfold sidI
      rw [hs]
      first
        | (rw [if_pos h93]; exact ⟨rfl, rfl⟩)
        | (rw [if_neg h93]; exact ⟨rfl, rfl⟩)
  refine kx_aload_n d_B_side_0 rfl (by first | rfl | exact kx_rf _) ?_
  refine kx_iload_n d_B_side_1 rfl ?_
  refine kx_callV (as := [.int car]) (rest := []) d_B_side_2 v_B_59 rfl (hC.bus) rfl rfl (by decide) (by decide) (Nat.le_of_ble_eq_true rfl) (by decide) (by decide) rfl (m_B_carOf hC hc0) (fun X w1 h => by cases h.1) (fun v w1 hq9 => ?_)
  obtain ⟨hv, hw9⟩ := hq9
  cases hv
  subst hw9
  refine kx_stk (st1 := [.ref (ad (carB c))]) rfl ?_
  refine kx_get _ d_B_side_5 f_B_114 (hC.car c hc) (by rfl) ?_
  refine kx_astore d_B_side_8 (by decide) (by first | rfl | exact kx_rf _) ?_
  refine kx_iload_n d_B_side_10 rfl ?_
  refine kx_if_lt_n 20 d_B_side_11 (by decide) (by omega) ?_
  refine kx_iload_n d_B_side_14 rfl ?_
  refine kx_bipush (nI 16) d_B_side_15 (by decide) ?_
  first | refine kx_icmp_lt_n 30 d_B_side_17 (by decide) (by omega) (by omega) ?_ ?_ | refine kx_icmp_lt 30 d_B_side_17 (by decide) ?_ ?_
  · intro h17
    refine kx_aload_n d_B_side_30 rfl (by first | rfl | exact kx_rf _) ?_
    refine kx_aload d_B_side_31 rfl (by first | rfl | exact kx_rf _) ?_
    refine kx_iload_n d_B_side_33 rfl ?_
    refine cR_idAt d_B_side_34 v_B_117 hC (rowN_26 hc) hj (by decide) (Nat.le_of_ble_eq_true rfl) (by decide) (by decide) ?_
    refine kx_callV (as := [.int (nI ((L (carB c + 26)).getD j 0 / 2))]) (rest := []) d_B_side_37 v_B_139 rfl (hC.bus) rfl rfl (by decide) (by decide) (Nat.le_of_ble_eq_true rfl) (by decide) (by decide) rfl (m_B_carWithId hC _) (fun X w1 h => by cases h.1) (fun v w1 hq9 => ?_)
    obtain ⟨hv, hw9⟩ := hq9
    cases hv
    subst hw9
    rw [h2]
    refine kx_stk (st1 := [.ref (ad (carB c2))]) rfl ?_
    refine kx_astore d_B_side_40 (by decide) (by first | rfl | exact kx_rf _) ?_
    refine kx_aload d_B_side_42 rfl (by first | rfl | exact kx_rf _) ?_
    refine kx_ifnonnull (o := some (ad (carB c2))) 49 d_B_side_44 (by decide) (fun _ _ => ?_) (fun h => by cases h)
    refine kx_iload_n d_B_side_49 rfl ?_
    refine kx_bipush (nI 8) d_B_side_50 (by decide) ?_
    first | refine kx_icmp_ge_n 69 d_B_side_52 (by decide) (by omega) (by omega) ?_ ?_ | refine kx_icmp_ge 69 d_B_side_52 (by decide) ?_ ?_
    · intro h52
      refine kx_loc (L1 := [(0, .ref (ad 0)), (3, .int (nI f)), (5, .ref (ad (carB c2)))]) ⟨rfl, rfl, rfl, trivial⟩ (k0 ?_)
      rintro ⟨g1, g2⟩
      omega
    · intro h52
      refine kx_aload d_B_side_55 rfl (by first | rfl | exact kx_rf _) ?_
      refine kx_iload_n d_B_side_57 rfl ?_
      refine cR_endAt d_B_side_58 v_B_142 hC (rowN_26 hc) hj (by decide) (Nat.le_of_ble_eq_true rfl) (by decide) (by decide) ?_
      refine kx_iconst (nI 1) d_B_side_61 (by decide) ?_
      first | refine kx_icmp_ne_n 69 d_B_side_62 (by decide) (by omega) (by omega) ?_ ?_ | refine kx_icmp_ne 69 d_B_side_62 (by decide) ?_ ?_
      · intro h62
        refine kx_loc (L1 := [(0, .ref (ad 0)), (3, .int (nI f)), (5, .ref (ad (carB c2)))]) ⟨rfl, rfl, rfl, trivial⟩ (k0 ?_)
        rintro ⟨g1, g2⟩
        omega
      · intro h62
        refine kx_loc (L1 := [(0, .ref (ad 0)), (3, .int (nI f)), (5, .ref (ad (carB c2)))]) ⟨rfl, rfl, rfl, trivial⟩ (k1 ?_)
        exact ⟨h52, h62⟩
  · intro h17
    exact absurd h17 (by omega)
def setB (pe : Nat → Option Nat) (L : Nat → List Nat) (S : Nat → Nat → Int32) (c : Nat) : Nat := if staI L c (clN (S (carE c 0) 8)) (clN (S (carE c 1) 8)) = 2 ∧ L (carB c + 26) = truL pe S c then 1 else 0
def setN (pe : Nat → Option Nat) (L : Nat → List Nat) (S : Nat → Nat → Int32) : Nat → Nat
  | 0 => 0
  | k + 1 => setN pe L S k + setB pe L S k
theorem setN_le (pe : Nat → Option Nat) (L : Nat → List Nat) (S : Nat → Nat → Int32) : ∀ k, setN pe L S k ≤ k
  | 0 => Nat.le_refl _
  | k + 1 => by
    have h := setN_le pe L S k
    show setN pe L S k + setB pe L S k ≤ k + 1
    have : setB pe L S k ≤ 1 := by unfold setB; split <;> decide
    omega
theorem staI_4 (L : Nat → List Nat) (l : List Nat) (c s0 s1 : Nat) : staI (up1 L 4 l) c s0 s1 = staI L c s0 s1 := by
  have a : up1 L 4 l (carB c + 26) = L (carB c + 26) := up1_n (by simp only [carB]; omega)
  have b : ∀ i, up1 L 4 l (carE c i + 3) = L (carE c i + 3) := fun i => up1_n (by unfold carE; simp only [carB]; split <;> omega)
  unfold staI agrI
  rw [a, b, b]
theorem up1_self {α : Type} (f : Nat → α) (x : Nat) : up1 f x (f x) = f := by
  funext y
  unfold up1
  split
  · rename_i h; rw [h]
  · rfl
theorem d_B_settled_0 : decode c_B_settled 0 = .ok (.iconst 0, 1) := by decide +kernel
theorem d_B_settled_1 : decode c_B_settled 1 = .ok (.istore_n 1, 1) := by decide +kernel
theorem d_B_settled_2 : decode c_B_settled 2 = .ok (.iconst 0, 1) := by decide +kernel
theorem d_B_settled_3 : decode c_B_settled 3 = .ok (.istore_n 2, 1) := by decide +kernel
theorem d_B_settled_4 : decode c_B_settled 4 = .ok (.iload_n 2, 1) := by decide +kernel
theorem d_B_settled_5 : decode c_B_settled 5 = .ok (.aload_n 0, 1) := by decide +kernel
theorem d_B_settled_6 : decode c_B_settled 6 = .ok (.getfield 37, 3) := by decide +kernel
theorem d_B_settled_9 : decode c_B_settled 9 = .ok (.if_icmp .ge 42, 3) := by decide +kernel
theorem d_B_settled_12 : decode c_B_settled 12 = .ok (.aload_n 0, 1) := by decide +kernel
theorem d_B_settled_13 : decode c_B_settled 13 = .ok (.getfield 11, 3) := by decide +kernel
theorem d_B_settled_16 : decode c_B_settled 16 = .ok (.iload_n 2, 1) := by decide +kernel
theorem d_B_settled_17 : decode c_B_settled 17 = .ok (.aaload, 1) := by decide +kernel
theorem d_B_settled_18 : decode c_B_settled 18 = .ok (.astore_n 3, 1) := by decide +kernel
theorem d_B_settled_19 : decode c_B_settled 19 = .ok (.aload_n 3, 1) := by decide +kernel
theorem d_B_settled_20 : decode c_B_settled 20 = .ok (.invokevirtual 149, 3) := by decide +kernel
theorem d_B_settled_23 : decode c_B_settled 23 = .ok (.iconst 2, 1) := by decide +kernel
theorem d_B_settled_24 : decode c_B_settled 24 = .ok (.if_icmp .ne 21, 3) := by decide +kernel
theorem d_B_settled_27 : decode c_B_settled 27 = .ok (.aload_n 3, 1) := by decide +kernel
theorem d_B_settled_28 : decode c_B_settled 28 = .ok (.getfield 114, 3) := by decide +kernel
theorem d_B_settled_31 : decode c_B_settled 31 = .ok (.aload_n 0, 1) := by decide +kernel
theorem d_B_settled_32 : decode c_B_settled 32 = .ok (.aload_n 3, 1) := by decide +kernel
theorem d_B_settled_33 : decode c_B_settled 33 = .ok (.invokevirtual 63, 3) := by decide +kernel
theorem d_B_settled_36 : decode c_B_settled 36 = .ok (.invokevirtual 152, 3) := by decide +kernel
theorem d_B_settled_39 : decode c_B_settled 39 = .ok (.ifCond .eq 6, 3) := by decide +kernel
theorem d_B_settled_42 : decode c_B_settled 42 = .ok (.iinc 1 1, 3) := by decide +kernel
theorem d_B_settled_45 : decode c_B_settled 45 = .ok (.iinc 2 1, 3) := by decide +kernel
theorem d_B_settled_48 : decode c_B_settled 48 = .ok (.goto (-44), 3) := by decide +kernel
theorem d_B_settled_51 : decode c_B_settled 51 = .ok (.iload_n 1, 1) := by decide +kernel
theorem d_B_settled_52 : decode c_B_settled 52 = .ok (.ireturn, 1) := by decide +kernel
set_option maxRecDepth 20000 in
set_option maxHeartbeats 4000000 in
theorem l_B_settled {E : kx_E} {n : Nat} {ad : Nat → Nat} {w0 : va_W} {L : Nat → List Nat} {V S : Nat → Nat → Int32} {pe bi : Nat → Option Nat} (hp : peOk n pe) (hI : InvS n S) (h24 : n ≤ 24) (hn : S 0 4 = nI n) {z : kx_Z} {Q : kx_O → va_W → Prop} (hQ : ∀ w l, Cls E w n ad (up1 L 4 l) V S pe bi → kx_off w0 w clsN → Q (.inl (some (.int (nI (setN pe L S n))))) w) :
    ∀ (m k : Nat) (l : List Nat) (w : va_W), m + k = n → Cls E w n ad (up1 L 4 l) V S pe bi → kx_off w0 w clsN → kx_R E Y_B_settled z 4 [(0, .ref (ad 0)), (1, .int (nI (setN pe L S k))), (2, .int (nI k))] [] w 0 0 Q := by
  intro m
  induction m with
  | zero =>
    intro k l w hk hC hO
    have hk : k = n := by omega
    subst hk
    refine kx_iload_n d_B_settled_4 rfl ?_
    refine kx_aload_n d_B_settled_5 rfl (by first | rfl | exact kx_rf _) ?_
    refine kx_get _ d_B_settled_6 f_B_37 hC.bus (by rfl) ?_
    rw [hn]
    first | refine kx_icmp_ge_n 51 d_B_settled_9 (by decide) (by omega) (by omega) ?_ ?_ | refine kx_icmp_ge 51 d_B_settled_9 (by decide) ?_ ?_
    · intro h9
      refine kx_iload_n d_B_settled_51 rfl ?_
      refine kx_iret d_B_settled_52 rfl (by decide) (by decide) ?_
      exact hQ w l hC hO
    · intro h9
      exact absurd h9 (by omega)
  | succ m ih =>
    intro k l w hk hC hO
    have hkn : k < n := by omega
    obtain ⟨s0, h40, hs0⟩ := hI.sil (carE_N (i := 0) hkn)
    obtain ⟨s1, h41, hs1⟩ := hI.sil (carE_N (i := 1) hkn)
    have hsl := setN_le pe L S k
    have hB : setB pe L S k = if staI L k s0 s1 = 2 ∧ L (carB k + 26) = truL pe S k then 1 else 0 := by unfold setB; rw [hs0, hs1, clN_nI (by omega), clN_nI (by omega)]
    have hs3 : staI L k s0 s1 < 3 := by unfold staI; split; decide; split <;> decide
    have a26 : carB k + 26 ≠ 4 := by simp only [carB]; omega
    refine kx_iload_n d_B_settled_4 rfl ?_
    refine kx_aload_n d_B_settled_5 rfl (by first | rfl | exact kx_rf _) ?_
    refine kx_get _ d_B_settled_6 f_B_37 hC.bus (by rfl) ?_
    rw [hn]
    first | refine kx_icmp_ge_n 51 d_B_settled_9 (by decide) (by omega) (by omega) ?_ ?_ | refine kx_icmp_ge 51 d_B_settled_9 (by decide) ?_ ?_
    · intro h9
      exact absurd h9 (by omega)
    · intro h9
      refine kx_aload_n d_B_settled_12 rfl (by first | rfl | exact kx_rf _) ?_
      refine kx_get _ d_B_settled_13 f_B_11 hC.bus (by rfl) ?_
      refine kx_iload_n d_B_settled_16 rfl ?_
      obtain ⟨f9, hf1, hf2⟩ := hC.cars
      refine kx_aald d_B_settled_17 hf1 rfl (by omega) (by decide) ?_
      rw [hf2 k (by omega)]
      refine kx_stk (st1 := [.ref (ad (carB k))]) rfl ?_
      refine kx_astore_n d_B_settled_18 (by decide) (by first | rfl | exact kx_rf _) ?_
      refine kx_aload_n d_B_settled_19 rfl (by first | rfl | exact kx_rf _) ?_
      refine kx_callV (as := []) (rest := []) d_B_settled_20 v_B_149 rfl (hC.car k hkn) rfl rfl (by decide) (by decide) (Nat.le_of_ble_eq_true rfl) (by decide) (by decide) rfl (m_C_state hC hkn hs0 hs1 h40 h41) (fun X w1 h => by cases h.1) (fun v w1 hq9 => ?_)
      obtain ⟨hv, hw9⟩ := hq9
      cases hv
      subst hw9
      refine kx_stk (st1 := [.int (nI (staI (up1 L 4 l) k s0 s1))]) rfl ?_
      rw [staI_4]
      refine kx_iconst (nI 2) d_B_settled_23 (by decide) ?_
      refine kx_icmp_ne_n 45 d_B_settled_24 (by decide) (by omega) (by decide) ?_ ?_
      · intro h24b
        have hb0 : setB pe L S k = 0 := by rw [hB, if_neg (fun q => h24b q.1)]
        have hN : setN pe L S (k + 1) = setN pe L S k := by show setN pe L S k + setB pe L S k = _; rw [hb0]; rfl
        rw [← hN]
        refine kx_iinc _ d_B_settled_45 rfl (by decide) (nI_1 _) ?_
        refine kx_goto 4 d_B_settled_48 (by decide) ?_
        refine kx_loc (L1 := [(0, .ref (ad 0)), (1, .int (nI (setN pe L S (k + 1)))), (2, .int (nI (k + 1)))]) ⟨rfl, rfl, rfl, trivial⟩ ?_
        exact ih (k + 1) _ _ (by omega) hC hO
      · intro h24b
        refine kx_aload_n d_B_settled_27 rfl (by first | rfl | exact kx_rf _) ?_
        refine kx_get _ d_B_settled_28 f_B_114 (hC.car k hkn) (by rfl) ?_
        refine kx_aload_n d_B_settled_31 rfl (by first | rfl | exact kx_rf _) ?_
        refine kx_aload_n d_B_settled_32 rfl (by first | rfl | exact kx_rf _) ?_
        refine kx_callV (as := [.ref (ad (carB k))]) (rest := [.ref (ad (carB k + 26))]) d_B_settled_33 v_B_63 rfl (hC.bus) rfl rfl (by decide) (by decide) (Nat.le_of_ble_eq_true rfl) (by decide) (by decide) rfl (m_B_trueRun hC hp hI hkn) (fun X w1 h => by cases h.1) (fun v w hq9 => ?_)
        obtain ⟨hv, hC, hO9⟩ := hq9
        cases hv
        have hO := hO.tr hO9 (fun _ h => h) (fun _ h => h)
        refine kx_stk (st1 := [.ref (ad 4), .ref (ad (carB k + 26))]) rfl ?_
        rw [up1_up1] at hC
        refine cR_isSameAs d_B_settled_36 v_B_152 hC (rowN_26 hkn) (rowN_4 n) (by decide) (Nat.le_of_ble_eq_true rfl) (by decide) (by decide) ?_
        rw [up1_s, up1_n a26]
        refine kx_if_eq_n 45 d_B_settled_39 (by decide) (by split <;> decide) ?_ ?_
        · intro h39
          have hne : ¬ L (carB k + 26) = truL pe S k := fun e => by rw [if_pos e] at h39; cases h39
          have hb0 : setB pe L S k = 0 := by rw [hB, if_neg (fun q => hne q.2)]
          have hN : setN pe L S (k + 1) = setN pe L S k := by show setN pe L S k + setB pe L S k = _; rw [hb0]; rfl
          rw [← hN]
          refine kx_iinc _ d_B_settled_45 rfl (by decide) (nI_1 _) ?_
          refine kx_goto 4 d_B_settled_48 (by decide) ?_
          refine kx_loc (L1 := [(0, .ref (ad 0)), (1, .int (nI (setN pe L S (k + 1)))), (2, .int (nI (k + 1)))]) ⟨rfl, rfl, rfl, trivial⟩ ?_
          exact ih (k + 1) _ _ (by omega) hC hO
        · intro h39
          have he : L (carB k + 26) = truL pe S k := Decidable.byContradiction (fun e => h39 (by rw [if_neg e]))
          have hb1 : setB pe L S k = 1 := by rw [hB, if_pos ⟨h24b, he⟩]
          have hN : setN pe L S (k + 1) = setN pe L S k + 1 := by show setN pe L S k + setB pe L S k = _; rw [hb1]
          refine kx_iinc (nI (setN pe L S (k + 1))) d_B_settled_42 rfl (by decide) (by rw [hN]; exact nI_1 _) ?_
          refine kx_iinc _ d_B_settled_45 rfl (by decide) (nI_1 _) ?_
          refine kx_goto 4 d_B_settled_48 (by decide) ?_
          refine kx_loc (L1 := [(0, .ref (ad 0)), (1, .int (nI (setN pe L S (k + 1)))), (2, .int (nI (k + 1)))]) ⟨rfl, rfl, rfl, trivial⟩ ?_
          exact ih (k + 1) _ _ (by omega) hC hO
set_option maxRecDepth 20000 in
set_option maxHeartbeats 4000000 in
theorem m_B_settled {E : kx_E} {w : va_W} {n : Nat} {ad : Nat → Nat} {L : Nat → List Nat} {V S : Nat → Nat → Int32} {pe bi : Nat → Option Nat} (hC : Cls E w n ad L V S pe bi) (hp : peOk n pe) (hI : InvS n S) (h24 : n ≤ 24) (hn : S 0 4 = nI n) : kx_S E Y_B_settled [.ref (ad 0)] w (fun o w1 => o = .inl (some (.int (nI (setN pe L S n)))) ∧ ∃ l, Cls E w1 n ad (up1 L 4 l) V S pe bi ∧ kx_off w w1 clsN) := by
  refine kx_go (by decide) rfl rfl (Nat.le_of_ble_eq_true rfl) (kx_cc rfl kx_c0) (fun z => ?_)
  have hO : kx_off w w clsN := kx_off.rf
  refine kx_iconst (nI 0) d_B_settled_0 (by decide) ?_
  refine kx_istore_n d_B_settled_1 (by decide) ?_
  refine kx_iconst (nI 0) d_B_settled_2 (by decide) ?_
  refine kx_istore_n d_B_settled_3 (by decide) ?_
  refine kx_loc (L1 := [(0, .ref (ad 0)), (1, .int (nI (setN pe L S 0))), (2, .int (nI 0))]) ⟨rfl, rfl, rfl, trivial⟩ ?_
  exact l_B_settled hp hI h24 hn (fun w l h1 h2 => ⟨rfl, l, h1, h2⟩) n 0 (L 4) w rfl (by rw [up1_self]; exact hC) hO
end
section
/-! The makers -/
theorem kx_gA (w t : va_W) (k : Nat) : (w ++ t)[w.length + k]? = t[k]? := by rw [List.getElem?_append_right (Nat.le_add_right _ _), Nat.add_sub_cancel_left]
theorem kx_sA (w t : va_W) (k : Nat) (c : Nat × va_E) : (w ++ t).set (w.length + k) c = w ++ t.set k c := by rw [List.set_append_right _ _ (Nat.le_add_right _ _), Nat.add_sub_cancel_left]
theorem kx_aA (w t u : va_W) : (w ++ t) ++ u = w ++ (t ++ u) := List.append_assoc w t u
set_option maxRecDepth 20000 in
set_option maxHeartbeats 4000000 in
theorem m_R_ini {E : kx_E} {w : va_W} {h : Nat} : kx_S E Y_R_init [.ref h] (w ++ [(h, .inr (3, [.null, .int 0]))]) (fun o w1 => o = .inl none ∧ ∃ a, w1 = w ++ [(h, .inr (3, [.ref a, .int 0])), (a, kx_ai E 24 (fun _ => 0))]) := by
  refine kx_go (by decide) rfl rfl (Nat.le_of_ble_eq_true rfl) (kx_cc rfl kx_c0) (fun z => ?_)
  refine kx_aload_n d_R_init_0 rfl (by first | rfl | exact kx_rf _) ?_
  refine kx_obj d_R_init_1 o_R_3 o_im o_cd (by decide) ?_
  refine kx_aload_n d_R_init_4 rfl (by first | rfl | exact kx_rf _) ?_
  refine kx_bipush (nI 24) d_R_init_5 (by decide) ?_
  refine kx_newa (t := 0) (n := 24) (24, .inl (fun _ => 0)) d_R_init_7 ac_int rfl rfl (fun cA => rfl) (by decide) (by decide) (by decide) (by decide) (fun q1 => ?_)
  refine kx_w (w1 := w ++ [(h, .inr (3, [.null, .int 0])), (q1, kx_ai E 24 (fun _ => 0))]) (kx_aA w _ _) ?_
  refine kx_putF d_R_init_9 f_R_9 (p_R_0 _) rfl rfl rfl (by exact kx_gA w _ 0) (Nat.le_of_ble_eq_true rfl) ?_
  refine kx_w (w1 := w ++ [(h, .inr (3, [.ref q1, .int 0])), (q1, kx_ai E 24 (fun _ => 0))]) (kx_sA w _ 0 _) ?_
  refine kx_vret d_R_init_12 rfl (by decide) (by decide) ?_
  exact ⟨rfl, q1, rfl⟩
theorem d_F_init_0 : decode c_F_init 0 = .ok (.aload_n 0, 1) := by decide +kernel
theorem d_F_init_1 : decode c_F_init 1 = .ok (.invokespecial 3, 3) := by decide +kernel
theorem d_F_init_4 : decode c_F_init 4 = .ok (.aload_n 0, 1) := by decide +kernel
theorem d_F_init_5 : decode c_F_init 5 = .ok (.new 9, 3) := by decide +kernel
theorem d_F_init_8 : decode c_F_init 8 = .ok (.dup, 1) := by decide +kernel
theorem d_F_init_9 : decode c_F_init 9 = .ok (.invokespecial 11, 3) := by decide +kernel
theorem d_F_init_12 : decode c_F_init 12 = .ok (.putfield 12, 3) := by decide +kernel
theorem d_F_init_15 : decode c_F_init 15 = .ok (.aload_n 0, 1) := by decide +kernel
theorem d_F_init_16 : decode c_F_init 16 = .ok (.new 9, 3) := by decide +kernel
theorem d_F_init_19 : decode c_F_init 19 = .ok (.dup, 1) := by decide +kernel
theorem d_F_init_20 : decode c_F_init 20 = .ok (.invokespecial 11, 3) := by decide +kernel
theorem d_F_init_23 : decode c_F_init 23 = .ok (.putfield 18, 3) := by decide +kernel
theorem d_F_init_26 : decode c_F_init 26 = .ok (.aload_n 0, 1) := by decide +kernel
theorem d_F_init_27 : decode c_F_init 27 = .ok (.bipush 24, 2) := by decide +kernel
theorem d_F_init_29 : decode c_F_init 29 = .ok (.newarray .int, 2) := by decide +kernel
theorem d_F_init_31 : decode c_F_init 31 = .ok (.putfield 21, 3) := by decide +kernel
theorem d_F_init_34 : decode c_F_init 34 = .ok (.aload_n 0, 1) := by decide +kernel
theorem d_F_init_35 : decode c_F_init 35 = .ok (.bipush 24, 2) := by decide +kernel
theorem d_F_init_37 : decode c_F_init 37 = .ok (.newarray .int, 2) := by decide +kernel
theorem d_F_init_39 : decode c_F_init 39 = .ok (.putfield 25, 3) := by decide +kernel
theorem d_F_init_42 : decode c_F_init 42 = .ok (.return_, 1) := by decide +kernel
set_option maxRecDepth 20000 in
set_option maxHeartbeats 4000000 in
theorem m_F_ini {E : kx_E} {w : va_W} {h : Nat} : kx_S E Y_F_init [.ref h] (w ++ [(h, .inr (2, [.null, .null, .null, .null, .int 0, .int 0]))]) (fun o w1 => o = .inl none ∧ ∃ a : Nat → Nat, w1 = w ++ [(h, .inr (2, [.ref (a 1), .ref (a 3), .ref (a 5), .ref (a 6), .int 0, .int 0])), ((a 1), .inr (3, [.ref (a 2), .int 0])), ((a 2), kx_ai E 24 (fun _ => 0)), ((a 3), .inr (3, [.ref (a 4), .int 0])), ((a 4), kx_ai E 24 (fun _ => 0)), ((a 5), kx_ai E 24 (fun _ => 0)), ((a 6), kx_ai E 24 (fun _ => 0))]) := by
  refine kx_go (by decide) rfl rfl (Nat.le_of_ble_eq_true rfl) (kx_cc rfl kx_c0) (fun z => ?_)
  refine kx_aload_n d_F_init_0 rfl (by first | rfl | exact kx_rf _) ?_
  refine kx_obj d_F_init_1 o_F_3 o_im o_cd (by decide) ?_
  refine kx_aload_n d_F_init_4 rfl (by first | rfl | exact kx_rf _) ?_
  refine kx_new d_F_init_5 n_F_9 (by decide) (by decide) (fun q1 => ?_)
  refine kx_w (w1 := w ++ [(h, .inr (2, [.null, .null, .null, .null, .int 0, .int 0])), (q1, .inr (3, [.null, .int 0]))]) (kx_aA w _ _) ?_
  refine kx_dup d_F_init_8 (by first | rfl | exact kx_rfc _) ?_
  refine kx_w (kx_aA w [(h, .inr (2, [.null, .null, .null, .null, .int 0, .int 0]))] [(q1, .inr (3, [.null, .int 0]))]).symm ?_
  refine kx_callI (as := []) (rest := [.ref q1, .ref h]) d_F_init_9 i_F_11 rfl (by decide) (by decide) (Nat.le_of_ble_eq_true rfl) (by decide) (by decide) rfl m_R_ini (fun X w1 h => by cases h.1) (fun v w1 hq9 => ?_)
  obtain ⟨hv, q2, hw9⟩ := hq9
  cases hv
  subst hw9
  refine kx_w (w1 := w ++ [(h, .inr (2, [.null, .null, .null, .null, .int 0, .int 0])), (q1, .inr (3, [.ref q2, .int 0])), (q2, kx_ai E 24 (fun _ => 0))]) (kx_aA w _ _) ?_
  refine kx_putF d_F_init_12 f_F_12 (p_F_0 _) rfl rfl rfl (by exact kx_gA w _ 0) (Nat.le_of_ble_eq_true rfl) ?_
  refine kx_w (w1 := w ++ [(h, .inr (2, [.ref q1, .null, .null, .null, .int 0, .int 0])), (q1, .inr (3, [.ref q2, .int 0])), (q2, kx_ai E 24 (fun _ => 0))]) (kx_sA w _ 0 _) ?_
  refine kx_aload_n d_F_init_15 rfl (by first | rfl | exact kx_rf _) ?_
  refine kx_new d_F_init_16 n_F_9 (by decide) (by decide) (fun q3 => ?_)
  refine kx_w (w1 := w ++ [(h, .inr (2, [.ref q1, .null, .null, .null, .int 0, .int 0])), (q1, .inr (3, [.ref q2, .int 0])), (q2, kx_ai E 24 (fun _ => 0)), (q3, .inr (3, [.null, .int 0]))]) (kx_aA w _ _) ?_
  refine kx_dup d_F_init_19 (by first | rfl | exact kx_rfc _) ?_
  refine kx_w (kx_aA w [(h, .inr (2, [.ref q1, .null, .null, .null, .int 0, .int 0])), (q1, .inr (3, [.ref q2, .int 0])), (q2, kx_ai E 24 (fun _ => 0))] [(q3, .inr (3, [.null, .int 0]))]).symm ?_
  refine kx_callI (as := []) (rest := [.ref q3, .ref h]) d_F_init_20 i_F_11 rfl (by decide) (by decide) (Nat.le_of_ble_eq_true rfl) (by decide) (by decide) rfl m_R_ini (fun X w1 h => by cases h.1) (fun v w1 hq9 => ?_)
  obtain ⟨hv, q4, hw9⟩ := hq9
  cases hv
  subst hw9
  refine kx_w (w1 := w ++ [(h, .inr (2, [.ref q1, .null, .null, .null, .int 0, .int 0])), (q1, .inr (3, [.ref q2, .int 0])), (q2, kx_ai E 24 (fun _ => 0)), (q3, .inr (3, [.ref q4, .int 0])), (q4, kx_ai E 24 (fun _ => 0))]) (kx_aA w _ _) ?_
  refine kx_putF d_F_init_23 f_F_18 (p_F_1 _) rfl rfl rfl (by exact kx_gA w _ 0) (Nat.le_of_ble_eq_true rfl) ?_
  refine kx_w (w1 := w ++ [(h, .inr (2, [.ref q1, .ref q3, .null, .null, .int 0, .int 0])), (q1, .inr (3, [.ref q2, .int 0])), (q2, kx_ai E 24 (fun _ => 0)), (q3, .inr (3, [.ref q4, .int 0])), (q4, kx_ai E 24 (fun _ => 0))]) (kx_sA w _ 0 _) ?_
  refine kx_aload_n d_F_init_26 rfl (by first | rfl | exact kx_rf _) ?_
  refine kx_bipush (nI 24) d_F_init_27 (by decide) ?_
  refine kx_newa (t := 0) (n := 24) (24, .inl (fun _ => 0)) d_F_init_29 ac_int rfl rfl (fun cA => rfl) (by decide) (by decide) (by decide) (by decide) (fun q5 => ?_)
  refine kx_w (w1 := w ++ [(h, .inr (2, [.ref q1, .ref q3, .null, .null, .int 0, .int 0])), (q1, .inr (3, [.ref q2, .int 0])), (q2, kx_ai E 24 (fun _ => 0)), (q3, .inr (3, [.ref q4, .int 0])), (q4, kx_ai E 24 (fun _ => 0)), (q5, kx_ai E 24 (fun _ => 0))]) (kx_aA w _ _) ?_
  refine kx_putF d_F_init_31 f_F_21 (p_F_2 _) rfl rfl rfl (by exact kx_gA w _ 0) (Nat.le_of_ble_eq_true rfl) ?_
  refine kx_w (w1 := w ++ [(h, .inr (2, [.ref q1, .ref q3, .ref q5, .null, .int 0, .int 0])), (q1, .inr (3, [.ref q2, .int 0])), (q2, kx_ai E 24 (fun _ => 0)), (q3, .inr (3, [.ref q4, .int 0])), (q4, kx_ai E 24 (fun _ => 0)), (q5, kx_ai E 24 (fun _ => 0))]) (kx_sA w _ 0 _) ?_
  refine kx_aload_n d_F_init_34 rfl (by first | rfl | exact kx_rf _) ?_
  refine kx_bipush (nI 24) d_F_init_35 (by decide) ?_
  refine kx_newa (t := 0) (n := 24) (24, .inl (fun _ => 0)) d_F_init_37 ac_int rfl rfl (fun cA => rfl) (by decide) (by decide) (by decide) (by decide) (fun q6 => ?_)
  refine kx_w (w1 := w ++ [(h, .inr (2, [.ref q1, .ref q3, .ref q5, .null, .int 0, .int 0])), (q1, .inr (3, [.ref q2, .int 0])), (q2, kx_ai E 24 (fun _ => 0)), (q3, .inr (3, [.ref q4, .int 0])), (q4, kx_ai E 24 (fun _ => 0)), (q5, kx_ai E 24 (fun _ => 0)), (q6, kx_ai E 24 (fun _ => 0))]) (kx_aA w _ _) ?_
  refine kx_putF d_F_init_39 f_F_25 (p_F_3 _) rfl rfl rfl (by exact kx_gA w _ 0) (Nat.le_of_ble_eq_true rfl) ?_
  refine kx_w (w1 := w ++ [(h, .inr (2, [.ref q1, .ref q3, .ref q5, .ref q6, .int 0, .int 0])), (q1, .inr (3, [.ref q2, .int 0])), (q2, kx_ai E 24 (fun _ => 0)), (q3, .inr (3, [.ref q4, .int 0])), (q4, kx_ai E 24 (fun _ => 0)), (q5, kx_ai E 24 (fun _ => 0)), (q6, kx_ai E 24 (fun _ => 0))]) (kx_sA w _ 0 _) ?_
  refine kx_vret d_F_init_42 rfl (by decide) (by decide) ?_
  exact ⟨rfl, fun j => [0, q1, q2, q3, q4, q5, q6].getD j 0, rfl⟩
theorem d_N_init_0 : decode c_N_init 0 = .ok (.aload_n 0, 1) := by decide +kernel
theorem d_N_init_1 : decode c_N_init 1 = .ok (.invokespecial 3, 3) := by decide +kernel
theorem d_N_init_4 : decode c_N_init 4 = .ok (.aload_n 0, 1) := by decide +kernel
theorem d_N_init_5 : decode c_N_init 5 = .ok (.iload_n 1, 1) := by decide +kernel
theorem d_N_init_6 : decode c_N_init 6 = .ok (.putfield 9, 3) := by decide +kernel
theorem d_N_init_9 : decode c_N_init 9 = .ok (.aload_n 0, 1) := by decide +kernel
theorem d_N_init_10 : decode c_N_init 10 = .ok (.new 15, 3) := by decide +kernel
theorem d_N_init_13 : decode c_N_init 13 = .ok (.dup, 1) := by decide +kernel
theorem d_N_init_14 : decode c_N_init 14 = .ok (.invokespecial 17, 3) := by decide +kernel
theorem d_N_init_17 : decode c_N_init 17 = .ok (.putfield 18, 3) := by decide +kernel
theorem d_N_init_20 : decode c_N_init 20 = .ok (.aload_n 0, 1) := by decide +kernel
theorem d_N_init_21 : decode c_N_init 21 = .ok (.new 15, 3) := by decide +kernel
theorem d_N_init_24 : decode c_N_init 24 = .ok (.dup, 1) := by decide +kernel
theorem d_N_init_25 : decode c_N_init 25 = .ok (.invokespecial 17, 3) := by decide +kernel
theorem d_N_init_28 : decode c_N_init 28 = .ok (.putfield 22, 3) := by decide +kernel
theorem d_N_init_31 : decode c_N_init 31 = .ok (.aload_n 0, 1) := by decide +kernel
theorem d_N_init_32 : decode c_N_init 32 = .ok (.new 25, 3) := by decide +kernel
theorem d_N_init_35 : decode c_N_init 35 = .ok (.dup, 1) := by decide +kernel
theorem d_N_init_36 : decode c_N_init 36 = .ok (.invokespecial 27, 3) := by decide +kernel
theorem d_N_init_39 : decode c_N_init 39 = .ok (.putfield 28, 3) := by decide +kernel
theorem d_N_init_42 : decode c_N_init 42 = .ok (.aload_n 0, 1) := by decide +kernel
theorem d_N_init_43 : decode c_N_init 43 = .ok (.iconst (-1), 1) := by decide +kernel
theorem d_N_init_44 : decode c_N_init 44 = .ok (.putfield 32, 3) := by decide +kernel
theorem d_N_init_47 : decode c_N_init 47 = .ok (.return_, 1) := by decide +kernel
set_option maxRecDepth 20000 in
set_option maxHeartbeats 4000000 in
theorem m_N_ini {E : kx_E} {w : va_W} {h : Nat} {it : Int32} : kx_S E Y_N_init [.ref h, .int it] (w ++ [(h, .inr (1, [.int 0, .null, .null, .null, .null, .null, .int 0, .int 0, .int 0]))]) (fun o w1 => o = .inl none ∧ ∃ a : Nat → Nat, w1 = w ++ [(h, .inr (1, [.int it, .ref (a 1), .ref (a 3), .ref (a 5), .null, .null, .int (-1), .int 0, .int 0])), ((a 1), .inr (3, [.ref (a 2), .int 0])), ((a 2), kx_ai E 24 (fun _ => 0)), ((a 3), .inr (3, [.ref (a 4), .int 0])), ((a 4), kx_ai E 24 (fun _ => 0)), ((a 5), .inr (2, [.ref (a 6), .ref (a 8), .ref (a 10), .ref (a 11), .int 0, .int 0])), ((a 6), .inr (3, [.ref (a 7), .int 0])), ((a 7), kx_ai E 24 (fun _ => 0)), ((a 8), .inr (3, [.ref (a 9), .int 0])), ((a 9), kx_ai E 24 (fun _ => 0)), ((a 10), kx_ai E 24 (fun _ => 0)), ((a 11), kx_ai E 24 (fun _ => 0))]) := by
  refine kx_go (by decide) rfl rfl (Nat.le_of_ble_eq_true rfl) (kx_cc rfl (kx_cc rfl kx_c0)) (fun z => ?_)
  refine kx_aload_n d_N_init_0 rfl (by first | rfl | exact kx_rf _) ?_
  refine kx_obj d_N_init_1 o_N_3 o_im o_cd (by decide) ?_
  refine kx_aload_n d_N_init_4 rfl (by first | rfl | exact kx_rf _) ?_
  refine kx_iload_n d_N_init_5 rfl ?_
  refine kx_putF d_N_init_6 f_N_9 (p_N_0 _) rfl rfl rfl (by exact kx_gA w _ 0) (Nat.le_of_ble_eq_true rfl) ?_
  refine kx_w (w1 := w ++ [(h, .inr (1, [.int it, .null, .null, .null, .null, .null, .int 0, .int 0, .int 0]))]) (kx_sA w _ 0 _) ?_
  refine kx_aload_n d_N_init_9 rfl (by first | rfl | exact kx_rf _) ?_
  refine kx_new d_N_init_10 n_N_15 (by decide) (by decide) (fun q1 => ?_)
  refine kx_w (w1 := w ++ [(h, .inr (1, [.int it, .null, .null, .null, .null, .null, .int 0, .int 0, .int 0])), (q1, .inr (3, [.null, .int 0]))]) (kx_aA w _ _) ?_
  refine kx_dup d_N_init_13 (by first | rfl | exact kx_rfc _) ?_
  refine kx_w (kx_aA w [(h, .inr (1, [.int it, .null, .null, .null, .null, .null, .int 0, .int 0, .int 0]))] [(q1, .inr (3, [.null, .int 0]))]).symm ?_
  refine kx_callI (as := []) (rest := [.ref q1, .ref h]) d_N_init_14 i_N_17 rfl (by decide) (by decide) (Nat.le_of_ble_eq_true rfl) (by decide) (by decide) rfl m_R_ini (fun X w1 h => by cases h.1) (fun v w1 hq9 => ?_)
  obtain ⟨hv, q2, hw9⟩ := hq9
  cases hv
  subst hw9
  refine kx_w (w1 := w ++ [(h, .inr (1, [.int it, .null, .null, .null, .null, .null, .int 0, .int 0, .int 0])), (q1, .inr (3, [.ref q2, .int 0])), (q2, kx_ai E 24 (fun _ => 0))]) (kx_aA w _ _) ?_
  refine kx_putF d_N_init_17 f_N_18 (p_N_1 _) rfl rfl rfl (by exact kx_gA w _ 0) (Nat.le_of_ble_eq_true rfl) ?_
  refine kx_w (w1 := w ++ [(h, .inr (1, [.int it, .ref q1, .null, .null, .null, .null, .int 0, .int 0, .int 0])), (q1, .inr (3, [.ref q2, .int 0])), (q2, kx_ai E 24 (fun _ => 0))]) (kx_sA w _ 0 _) ?_
  refine kx_aload_n d_N_init_20 rfl (by first | rfl | exact kx_rf _) ?_
  refine kx_new d_N_init_21 n_N_15 (by decide) (by decide) (fun q3 => ?_)
  refine kx_w (w1 := w ++ [(h, .inr (1, [.int it, .ref q1, .null, .null, .null, .null, .int 0, .int 0, .int 0])), (q1, .inr (3, [.ref q2, .int 0])), (q2, kx_ai E 24 (fun _ => 0)), (q3, .inr (3, [.null, .int 0]))]) (kx_aA w _ _) ?_
  refine kx_dup d_N_init_24 (by first | rfl | exact kx_rfc _) ?_
  refine kx_w (kx_aA w [(h, .inr (1, [.int it, .ref q1, .null, .null, .null, .null, .int 0, .int 0, .int 0])), (q1, .inr (3, [.ref q2, .int 0])), (q2, kx_ai E 24 (fun _ => 0))] [(q3, .inr (3, [.null, .int 0]))]).symm ?_
  refine kx_callI (as := []) (rest := [.ref q3, .ref h]) d_N_init_25 i_N_17 rfl (by decide) (by decide) (Nat.le_of_ble_eq_true rfl) (by decide) (by decide) rfl m_R_ini (fun X w1 h => by cases h.1) (fun v w1 hq9 => ?_)
  obtain ⟨hv, q4, hw9⟩ := hq9
  cases hv
  subst hw9
  refine kx_w (w1 := w ++ [(h, .inr (1, [.int it, .ref q1, .null, .null, .null, .null, .int 0, .int 0, .int 0])), (q1, .inr (3, [.ref q2, .int 0])), (q2, kx_ai E 24 (fun _ => 0)), (q3, .inr (3, [.ref q4, .int 0])), (q4, kx_ai E 24 (fun _ => 0))]) (kx_aA w _ _) ?_
  refine kx_putF d_N_init_28 f_N_22 (p_N_2 _) rfl rfl rfl (by exact kx_gA w _ 0) (Nat.le_of_ble_eq_true rfl) ?_
  refine kx_w (w1 := w ++ [(h, .inr (1, [.int it, .ref q1, .ref q3, .null, .null, .null, .int 0, .int 0, .int 0])), (q1, .inr (3, [.ref q2, .int 0])), (q2, kx_ai E 24 (fun _ => 0)), (q3, .inr (3, [.ref q4, .int 0])), (q4, kx_ai E 24 (fun _ => 0))]) (kx_sA w _ 0 _) ?_
  refine kx_aload_n d_N_init_31 rfl (by first | rfl | exact kx_rf _) ?_
  refine kx_new d_N_init_32 n_N_25 (by decide) (by decide) (fun q5 => ?_)
  refine kx_w (w1 := w ++ [(h, .inr (1, [.int it, .ref q1, .ref q3, .null, .null, .null, .int 0, .int 0, .int 0])), (q1, .inr (3, [.ref q2, .int 0])), (q2, kx_ai E 24 (fun _ => 0)), (q3, .inr (3, [.ref q4, .int 0])), (q4, kx_ai E 24 (fun _ => 0)), (q5, .inr (2, [.null, .null, .null, .null, .int 0, .int 0]))]) (kx_aA w _ _) ?_
  refine kx_dup d_N_init_35 (by first | rfl | exact kx_rfc _) ?_
  refine kx_w (kx_aA w [(h, .inr (1, [.int it, .ref q1, .ref q3, .null, .null, .null, .int 0, .int 0, .int 0])), (q1, .inr (3, [.ref q2, .int 0])), (q2, kx_ai E 24 (fun _ => 0)), (q3, .inr (3, [.ref q4, .int 0])), (q4, kx_ai E 24 (fun _ => 0))] [(q5, .inr (2, [.null, .null, .null, .null, .int 0, .int 0]))]).symm ?_
  refine kx_callI (as := []) (rest := [.ref q5, .ref h]) d_N_init_36 i_N_27 rfl (by decide) (by decide) (Nat.le_of_ble_eq_true rfl) (by decide) (by decide) rfl m_F_ini (fun X w1 h => by cases h.1) (fun v w1 hq9 => ?_)
  obtain ⟨hv, g, hw9⟩ := hq9
  cases hv
  subst hw9
  refine kx_w (w1 := w ++ [(h, .inr (1, [.int it, .ref q1, .ref q3, .null, .null, .null, .int 0, .int 0, .int 0])), (q1, .inr (3, [.ref q2, .int 0])), (q2, kx_ai E 24 (fun _ => 0)), (q3, .inr (3, [.ref q4, .int 0])), (q4, kx_ai E 24 (fun _ => 0)), (q5, .inr (2, [.ref (g 1), .ref (g 3), .ref (g 5), .ref (g 6), .int 0, .int 0])), ((g 1), .inr (3, [.ref (g 2), .int 0])), ((g 2), kx_ai E 24 (fun _ => 0)), ((g 3), .inr (3, [.ref (g 4), .int 0])), ((g 4), kx_ai E 24 (fun _ => 0)), ((g 5), kx_ai E 24 (fun _ => 0)), ((g 6), kx_ai E 24 (fun _ => 0))]) (kx_aA w _ _) ?_
  refine kx_putF d_N_init_39 f_N_28 (p_N_3 _) rfl rfl rfl (by exact kx_gA w _ 0) (Nat.le_of_ble_eq_true rfl) ?_
  refine kx_w (w1 := w ++ [(h, .inr (1, [.int it, .ref q1, .ref q3, .ref q5, .null, .null, .int 0, .int 0, .int 0])), (q1, .inr (3, [.ref q2, .int 0])), (q2, kx_ai E 24 (fun _ => 0)), (q3, .inr (3, [.ref q4, .int 0])), (q4, kx_ai E 24 (fun _ => 0)), (q5, .inr (2, [.ref (g 1), .ref (g 3), .ref (g 5), .ref (g 6), .int 0, .int 0])), ((g 1), .inr (3, [.ref (g 2), .int 0])), ((g 2), kx_ai E 24 (fun _ => 0)), ((g 3), .inr (3, [.ref (g 4), .int 0])), ((g 4), kx_ai E 24 (fun _ => 0)), ((g 5), kx_ai E 24 (fun _ => 0)), ((g 6), kx_ai E 24 (fun _ => 0))]) (kx_sA w _ 0 _) ?_
  refine kx_aload_n d_N_init_42 rfl (by first | rfl | exact kx_rf _) ?_
  refine kx_iconst (-1) d_N_init_43 (by decide) ?_
  refine kx_put d_N_init_44 f_N_32 (p_N_6 _) (by exact kx_gA w _ 0) (Nat.le_of_ble_eq_true rfl) ?_
  refine kx_w (w1 := w ++ [(h, .inr (1, [.int it, .ref q1, .ref q3, .ref q5, .null, .null, .int (-1), .int 0, .int 0])), (q1, .inr (3, [.ref q2, .int 0])), (q2, kx_ai E 24 (fun _ => 0)), (q3, .inr (3, [.ref q4, .int 0])), (q4, kx_ai E 24 (fun _ => 0)), (q5, .inr (2, [.ref (g 1), .ref (g 3), .ref (g 5), .ref (g 6), .int 0, .int 0])), ((g 1), .inr (3, [.ref (g 2), .int 0])), ((g 2), kx_ai E 24 (fun _ => 0)), ((g 3), .inr (3, [.ref (g 4), .int 0])), ((g 4), kx_ai E 24 (fun _ => 0)), ((g 5), kx_ai E 24 (fun _ => 0)), ((g 6), kx_ai E 24 (fun _ => 0))]) (kx_sA w _ 0 _) ?_
  refine kx_vret d_N_init_47 rfl (by decide) (by decide) ?_
  exact ⟨rfl, fun j => [0, q1, q2, q3, q4, q5, g 1, g 2, g 3, g 4, g 5, g 6].getD j 0, rfl⟩
end
section
/-! The makers of a car and of the bus -/
theorem kx_off_set {w w1 : va_W} {v : Nat} {c : Nat × va_E} (ho : kx_off w w1 (fun n => n = v)) (h : w1[v]? = some c) : w1 = w.set v c := by
  have hl := (List.getElem?_eq_some_iff.mp h).1
  apply List.ext_getElem?
  intro i
  by_cases e : i = v
  · subst e
    rw [h, List.getElem?_set_self (by rw [← ho.1]; exact hl)]
  · rw [ho.2 i e, List.getElem?_set_ne (fun q => e q.symm)]
theorem d_C_init_0 : decode c_C_init 0 = .ok (.aload_n 0, 1) := by decide +kernel
theorem d_C_init_1 : decode c_C_init 1 = .ok (.invokespecial 3, 3) := by decide +kernel
theorem d_C_init_4 : decode c_C_init 4 = .ok (.aload_n 0, 1) := by decide +kernel
theorem d_C_init_5 : decode c_C_init 5 = .ok (.iload_n 1, 1) := by decide +kernel
theorem d_C_init_6 : decode c_C_init 6 = .ok (.putfield 9, 3) := by decide +kernel
theorem d_C_init_9 : decode c_C_init 9 = .ok (.aload_n 0, 1) := by decide +kernel
theorem d_C_init_10 : decode c_C_init 10 = .ok (.iload_n 2, 1) := by decide +kernel
theorem d_C_init_11 : decode c_C_init 11 = .ok (.putfield 15, 3) := by decide +kernel
theorem d_C_init_14 : decode c_C_init 14 = .ok (.aload_n 0, 1) := by decide +kernel
theorem d_C_init_15 : decode c_C_init 15 = .ok (.iconst 2, 1) := by decide +kernel
theorem d_C_init_16 : decode c_C_init 16 = .ok (.anewarray 18, 3) := by decide +kernel
theorem d_C_init_19 : decode c_C_init 19 = .ok (.putfield 20, 3) := by decide +kernel
theorem d_C_init_22 : decode c_C_init 22 = .ok (.aload_n 0, 1) := by decide +kernel
theorem d_C_init_23 : decode c_C_init 23 = .ok (.getfield 20, 3) := by decide +kernel
theorem d_C_init_26 : decode c_C_init 26 = .ok (.iconst 0, 1) := by decide +kernel
theorem d_C_init_27 : decode c_C_init 27 = .ok (.new 18, 3) := by decide +kernel
theorem d_C_init_30 : decode c_C_init 30 = .ok (.dup, 1) := by decide +kernel
theorem d_C_init_31 : decode c_C_init 31 = .ok (.iconst 2, 1) := by decide +kernel
theorem d_C_init_32 : decode c_C_init 32 = .ok (.iload_n 1, 1) := by decide +kernel
theorem d_C_init_33 : decode c_C_init 33 = .ok (.imul, 1) := by decide +kernel
theorem d_C_init_34 : decode c_C_init 34 = .ok (.invokespecial 24, 3) := by decide +kernel
theorem d_C_init_37 : decode c_C_init 37 = .ok (.aastore, 1) := by decide +kernel
theorem d_C_init_38 : decode c_C_init 38 = .ok (.aload_n 0, 1) := by decide +kernel
theorem d_C_init_39 : decode c_C_init 39 = .ok (.getfield 20, 3) := by decide +kernel
theorem d_C_init_42 : decode c_C_init 42 = .ok (.iconst 1, 1) := by decide +kernel
theorem d_C_init_43 : decode c_C_init 43 = .ok (.new 18, 3) := by decide +kernel
theorem d_C_init_46 : decode c_C_init 46 = .ok (.dup, 1) := by decide +kernel
theorem d_C_init_47 : decode c_C_init 47 = .ok (.iconst 2, 1) := by decide +kernel
theorem d_C_init_48 : decode c_C_init 48 = .ok (.iload_n 1, 1) := by decide +kernel
theorem d_C_init_49 : decode c_C_init 49 = .ok (.imul, 1) := by decide +kernel
theorem d_C_init_50 : decode c_C_init 50 = .ok (.iconst 1, 1) := by decide +kernel
theorem d_C_init_51 : decode c_C_init 51 = .ok (.iadd, 1) := by decide +kernel
theorem d_C_init_52 : decode c_C_init 52 = .ok (.invokespecial 24, 3) := by decide +kernel
theorem d_C_init_55 : decode c_C_init 55 = .ok (.aastore, 1) := by decide +kernel
theorem d_C_init_56 : decode c_C_init 56 = .ok (.aload_n 0, 1) := by decide +kernel
theorem d_C_init_57 : decode c_C_init 57 = .ok (.getfield 20, 3) := by decide +kernel
theorem d_C_init_60 : decode c_C_init 60 = .ok (.iconst 0, 1) := by decide +kernel
theorem d_C_init_61 : decode c_C_init 61 = .ok (.aaload, 1) := by decide +kernel
theorem d_C_init_62 : decode c_C_init 62 = .ok (.aload_n 0, 1) := by decide +kernel
theorem d_C_init_63 : decode c_C_init 63 = .ok (.getfield 20, 3) := by decide +kernel
theorem d_C_init_66 : decode c_C_init 66 = .ok (.iconst 1, 1) := by decide +kernel
theorem d_C_init_67 : decode c_C_init 67 = .ok (.aaload, 1) := by decide +kernel
theorem d_C_init_68 : decode c_C_init 68 = .ok (.putfield 27, 3) := by decide +kernel
theorem d_C_init_71 : decode c_C_init 71 = .ok (.aload_n 0, 1) := by decide +kernel
theorem d_C_init_72 : decode c_C_init 72 = .ok (.getfield 20, 3) := by decide +kernel
theorem d_C_init_75 : decode c_C_init 75 = .ok (.iconst 1, 1) := by decide +kernel
theorem d_C_init_76 : decode c_C_init 76 = .ok (.aaload, 1) := by decide +kernel
theorem d_C_init_77 : decode c_C_init 77 = .ok (.aload_n 0, 1) := by decide +kernel
theorem d_C_init_78 : decode c_C_init 78 = .ok (.getfield 20, 3) := by decide +kernel
theorem d_C_init_81 : decode c_C_init 81 = .ok (.iconst 0, 1) := by decide +kernel
theorem d_C_init_82 : decode c_C_init 82 = .ok (.aaload, 1) := by decide +kernel
theorem d_C_init_83 : decode c_C_init 83 = .ok (.putfield 27, 3) := by decide +kernel
theorem d_C_init_86 : decode c_C_init 86 = .ok (.aload_n 0, 1) := by decide +kernel
theorem d_C_init_87 : decode c_C_init 87 = .ok (.new 31, 3) := by decide +kernel
theorem d_C_init_90 : decode c_C_init 90 = .ok (.dup, 1) := by decide +kernel
theorem d_C_init_91 : decode c_C_init 91 = .ok (.invokespecial 33, 3) := by decide +kernel
theorem d_C_init_94 : decode c_C_init 94 = .ok (.putfield 34, 3) := by decide +kernel
theorem d_C_init_97 : decode c_C_init 97 = .ok (.aload_n 0, 1) := by decide +kernel
theorem d_C_init_98 : decode c_C_init 98 = .ok (.new 31, 3) := by decide +kernel
theorem d_C_init_101 : decode c_C_init 101 = .ok (.dup, 1) := by decide +kernel
theorem d_C_init_102 : decode c_C_init 102 = .ok (.invokespecial 33, 3) := by decide +kernel
theorem d_C_init_105 : decode c_C_init 105 = .ok (.putfield 38, 3) := by decide +kernel
theorem d_C_init_108 : decode c_C_init 108 = .ok (.aload_n 0, 1) := by decide +kernel
theorem d_C_init_109 : decode c_C_init 109 = .ok (.bipush 24, 2) := by decide +kernel
theorem d_C_init_111 : decode c_C_init 111 = .ok (.newarray .int, 2) := by decide +kernel
theorem d_C_init_113 : decode c_C_init 113 = .ok (.putfield 41, 3) := by decide +kernel
theorem d_C_init_116 : decode c_C_init 116 = .ok (.aload_n 0, 1) := by decide +kernel
theorem d_C_init_117 : decode c_C_init 117 = .ok (.bipush 24, 2) := by decide +kernel
theorem d_C_init_119 : decode c_C_init 119 = .ok (.newarray .int, 2) := by decide +kernel
theorem d_C_init_121 : decode c_C_init 121 = .ok (.putfield 45, 3) := by decide +kernel
theorem d_C_init_124 : decode c_C_init 124 = .ok (.aload_n 0, 1) := by decide +kernel
theorem d_C_init_125 : decode c_C_init 125 = .ok (.getfield 41, 3) := by decide +kernel
theorem d_C_init_128 : decode c_C_init 128 = .ok (.iconst (-1), 1) := by decide +kernel
theorem d_C_init_129 : decode c_C_init 129 = .ok (.invokestatic 48, 3) := by decide +kernel
theorem d_C_init_132 : decode c_C_init 132 = .ok (.return_, 1) := by decide +kernel
def carK (E : kx_E) (h : Nat) (a : Nat → Nat) (id : Nat) (mask : Int32) (v : Nat → Int32) : va_W := [(h, .inr (0, [.int (nI id), .int mask, .ref (a 1), .ref (a 26), .ref (a 28), .ref (a 30), .ref (a 31), .int 0, .int 0, .int 0, .int 0])), ((a 1), kx_aq E 4 2 (va_up (va_up (fun _ => none) 0 (some (a 2))) 1 (some (a 14)))), ((a 2), .inr (1, [.int (nI (2 * id)), .ref (a 3), .ref (a 5), .ref (a 7), .ref (a 14), .null, .int (-1), .int 0, .int 0])), ((a 3), .inr (3, [.ref (a 4), .int 0])), ((a 4), kx_ai E 24 (fun _ => 0)), ((a 5), .inr (3, [.ref (a 6), .int 0])), ((a 6), kx_ai E 24 (fun _ => 0)), ((a 7), .inr (2, [.ref (a 8), .ref (a 10), .ref (a 12), .ref (a 13), .int 0, .int 0])), ((a 8), .inr (3, [.ref (a 9), .int 0])), ((a 9), kx_ai E 24 (fun _ => 0)), ((a 10), .inr (3, [.ref (a 11), .int 0])), ((a 11), kx_ai E 24 (fun _ => 0)), ((a 12), kx_ai E 24 (fun _ => 0)), ((a 13), kx_ai E 24 (fun _ => 0)), ((a 14), .inr (1, [.int (nI (2 * id + 1)), .ref (a 15), .ref (a 17), .ref (a 19), .ref (a 2), .null, .int (-1), .int 0, .int 0])), ((a 15), .inr (3, [.ref (a 16), .int 0])), ((a 16), kx_ai E 24 (fun _ => 0)), ((a 17), .inr (3, [.ref (a 18), .int 0])), ((a 18), kx_ai E 24 (fun _ => 0)), ((a 19), .inr (2, [.ref (a 20), .ref (a 22), .ref (a 24), .ref (a 25), .int 0, .int 0])), ((a 20), .inr (3, [.ref (a 21), .int 0])), ((a 21), kx_ai E 24 (fun _ => 0)), ((a 22), .inr (3, [.ref (a 23), .int 0])), ((a 23), kx_ai E 24 (fun _ => 0)), ((a 24), kx_ai E 24 (fun _ => 0)), ((a 25), kx_ai E 24 (fun _ => 0)), ((a 26), .inr (3, [.ref (a 27), .int 0])), ((a 27), kx_ai E 24 (fun _ => 0)), ((a 28), .inr (3, [.ref (a 29), .int 0])), ((a 29), kx_ai E 24 (fun _ => 0)), ((a 30), kx_ai E 24 v), ((a 31), kx_ai E 24 (fun _ => 0))]
set_option maxRecDepth 20000 in
set_option maxHeartbeats 4000000 in
theorem m_C_ini {E : kx_E} {w : va_W} {h : Nat} {id : Nat} {mask : Int32} : kx_S E Y_C_init [.ref h, .int (nI id), .int mask] (w ++ [(h, .inr (0, [.int 0, .int 0, .null, .null, .null, .null, .null, .int 0, .int 0, .int 0, .int 0]))]) (fun o w1 => o = .inl none ∧ ∃ (a : Nat → Nat) (v : Nat → Int32), (∀ i, i < 24 → v i = -1) ∧ w1 = w ++ carK E h a id mask v) := by
  refine kx_go (by decide) rfl rfl (Nat.le_of_ble_eq_true rfl) (kx_cc rfl (kx_cc rfl (kx_cc rfl kx_c0))) (fun z => ?_)
  refine kx_aload_n d_C_init_0 rfl (by first | rfl | exact kx_rf _) ?_
  refine kx_obj d_C_init_1 o_C_3 o_im o_cd (by decide) ?_
  refine kx_aload_n d_C_init_4 rfl (by first | rfl | exact kx_rf _) ?_
  refine kx_iload_n d_C_init_5 rfl ?_
  refine kx_putF d_C_init_6 f_C_9 (p_C_0 _) rfl rfl rfl (by exact kx_gA w _ 0) (Nat.le_of_ble_eq_true rfl) ?_
  refine kx_w (w1 := w ++ [(h, .inr (0, [.int (nI id), .int 0, .null, .null, .null, .null, .null, .int 0, .int 0, .int 0, .int 0]))]) (kx_sA w _ 0 _) ?_
  refine kx_aload_n d_C_init_9 rfl (by first | rfl | exact kx_rf _) ?_
  refine kx_iload_n d_C_init_10 rfl ?_
  refine kx_putF d_C_init_11 f_C_15 (p_C_1 _) rfl rfl rfl (by exact kx_gA w _ 0) (Nat.le_of_ble_eq_true rfl) ?_
  refine kx_w (w1 := w ++ [(h, .inr (0, [.int (nI id), .int mask, .null, .null, .null, .null, .null, .int 0, .int 0, .int 0, .int 0]))]) (kx_sA w _ 0 _) ?_
  refine kx_aload_n d_C_init_14 rfl (by first | rfl | exact kx_rf _) ?_
  refine kx_iconst (nI 2) d_C_init_15 (by decide) ?_
  refine kx_newq (t := 4) (n := 2) d_C_init_16 q_C_18 (fun U h => h.2.2.2.2.2.2.1) rfl (by decide) (by decide) (by decide) (by decide) (fun q1 => ?_)
  refine kx_w (w1 := w ++ [(h, .inr (0, [.int (nI id), .int mask, .null, .null, .null, .null, .null, .int 0, .int 0, .int 0, .int 0])), (q1, kx_aq E 4 2 (fun _ => none))]) (kx_aA w _ _) ?_
  refine kx_putF d_C_init_19 f_C_20 (p_C_2 _) rfl rfl rfl (by exact kx_gA w _ 0) (Nat.le_of_ble_eq_true rfl) ?_
  refine kx_w (w1 := w ++ [(h, .inr (0, [.int (nI id), .int mask, .ref q1, .null, .null, .null, .null, .int 0, .int 0, .int 0, .int 0])), (q1, kx_aq E 4 2 (fun _ => none))]) (kx_sA w _ 0 _) ?_
  refine kx_aload_n d_C_init_22 rfl (by first | rfl | exact kx_rf _) ?_
  refine kx_get _ d_C_init_23 f_C_20 (by exact kx_gA w _ 0) (by rfl) ?_
  refine kx_iconst (nI 0) d_C_init_26 (by decide) ?_
  refine kx_new d_C_init_27 n_C_18 (by decide) (by decide) (fun q2 => ?_)
  refine kx_w (w1 := w ++ [(h, .inr (0, [.int (nI id), .int mask, .ref q1, .null, .null, .null, .null, .int 0, .int 0, .int 0, .int 0])), (q1, kx_aq E 4 2 (fun _ => none)), (q2, .inr (1, [.int 0, .null, .null, .null, .null, .null, .int 0, .int 0, .int 0]))]) (kx_aA w _ _) ?_
  refine kx_dup d_C_init_30 (by first | rfl | exact kx_rfc _) ?_
  refine kx_iconst (nI 2) d_C_init_31 (by decide) ?_
  refine kx_iload_n d_C_init_32 rfl ?_
  refine kx_imul _ d_C_init_33 (pk_mul _ _) ?_
  refine kx_w (kx_aA w [(h, .inr (0, [.int (nI id), .int mask, .ref q1, .null, .null, .null, .null, .int 0, .int 0, .int 0, .int 0])), (q1, kx_aq E 4 2 (fun _ => none))] [(q2, .inr (1, [.int 0, .null, .null, .null, .null, .null, .int 0, .int 0, .int 0]))]).symm ?_
  refine kx_callI (as := [.int (nI (2 * id))]) (rest := [.ref q2, .int (nI 0), .ref q1]) d_C_init_34 i_C_24 rfl (by decide) (by decide) (Nat.le_of_ble_eq_true rfl) (by decide) (by decide) rfl m_N_ini (fun X w1 h => by cases h.1) (fun v w1 hq9 => ?_)
  obtain ⟨hv, g, hw9⟩ := hq9
  cases hv
  subst hw9
  refine kx_w (w1 := w ++ [(h, .inr (0, [.int (nI id), .int mask, .ref q1, .null, .null, .null, .null, .int 0, .int 0, .int 0, .int 0])), (q1, kx_aq E 4 2 (fun _ => none)), (q2, .inr (1, [.int (nI (2 * id)), .ref (g 1), .ref (g 3), .ref (g 5), .null, .null, .int (-1), .int 0, .int 0])), ((g 1), .inr (3, [.ref (g 2), .int 0])), ((g 2), kx_ai E 24 (fun _ => 0)), ((g 3), .inr (3, [.ref (g 4), .int 0])), ((g 4), kx_ai E 24 (fun _ => 0)), ((g 5), .inr (2, [.ref (g 6), .ref (g 8), .ref (g 10), .ref (g 11), .int 0, .int 0])), ((g 6), .inr (3, [.ref (g 7), .int 0])), ((g 7), kx_ai E 24 (fun _ => 0)), ((g 8), .inr (3, [.ref (g 9), .int 0])), ((g 9), kx_ai E 24 (fun _ => 0)), ((g 10), kx_ai E 24 (fun _ => 0)), ((g 11), kx_ai E 24 (fun _ => 0))]) (kx_aA w _ _) ?_
  refine kx_aast d_C_init_37 (by exact kx_gA w _ 1) (by exact kx_gA w _ 2) rfl rfl (by decide) (by decide) ?_
  refine kx_w (w1 := w ++ [(h, .inr (0, [.int (nI id), .int mask, .ref q1, .null, .null, .null, .null, .int 0, .int 0, .int 0, .int 0])), (q1, kx_aq E 4 2 (va_up (fun _ => none) 0 (some q2))), (q2, .inr (1, [.int (nI (2 * id)), .ref (g 1), .ref (g 3), .ref (g 5), .null, .null, .int (-1), .int 0, .int 0])), ((g 1), .inr (3, [.ref (g 2), .int 0])), ((g 2), kx_ai E 24 (fun _ => 0)), ((g 3), .inr (3, [.ref (g 4), .int 0])), ((g 4), kx_ai E 24 (fun _ => 0)), ((g 5), .inr (2, [.ref (g 6), .ref (g 8), .ref (g 10), .ref (g 11), .int 0, .int 0])), ((g 6), .inr (3, [.ref (g 7), .int 0])), ((g 7), kx_ai E 24 (fun _ => 0)), ((g 8), .inr (3, [.ref (g 9), .int 0])), ((g 9), kx_ai E 24 (fun _ => 0)), ((g 10), kx_ai E 24 (fun _ => 0)), ((g 11), kx_ai E 24 (fun _ => 0))]) (kx_sA w _ 1 _) ?_
  refine kx_aload_n d_C_init_38 rfl (by first | rfl | exact kx_rf _) ?_
  refine kx_get _ d_C_init_39 f_C_20 (by exact kx_gA w _ 0) (by rfl) ?_
  refine kx_iconst (nI 1) d_C_init_42 (by decide) ?_
  refine kx_new d_C_init_43 n_C_18 (by decide) (by decide) (fun q3 => ?_)
  refine kx_w (w1 := w ++ [(h, .inr (0, [.int (nI id), .int mask, .ref q1, .null, .null, .null, .null, .int 0, .int 0, .int 0, .int 0])), (q1, kx_aq E 4 2 (va_up (fun _ => none) 0 (some q2))), (q2, .inr (1, [.int (nI (2 * id)), .ref (g 1), .ref (g 3), .ref (g 5), .null, .null, .int (-1), .int 0, .int 0])), ((g 1), .inr (3, [.ref (g 2), .int 0])), ((g 2), kx_ai E 24 (fun _ => 0)), ((g 3), .inr (3, [.ref (g 4), .int 0])), ((g 4), kx_ai E 24 (fun _ => 0)), ((g 5), .inr (2, [.ref (g 6), .ref (g 8), .ref (g 10), .ref (g 11), .int 0, .int 0])), ((g 6), .inr (3, [.ref (g 7), .int 0])), ((g 7), kx_ai E 24 (fun _ => 0)), ((g 8), .inr (3, [.ref (g 9), .int 0])), ((g 9), kx_ai E 24 (fun _ => 0)), ((g 10), kx_ai E 24 (fun _ => 0)), ((g 11), kx_ai E 24 (fun _ => 0)), (q3, .inr (1, [.int 0, .null, .null, .null, .null, .null, .int 0, .int 0, .int 0]))]) (kx_aA w _ _) ?_
  refine kx_dup d_C_init_46 (by first | rfl | exact kx_rfc _) ?_
  refine kx_iconst (nI 2) d_C_init_47 (by decide) ?_
  refine kx_iload_n d_C_init_48 rfl ?_
  refine kx_imul _ d_C_init_49 (pk_mul _ _) ?_
  refine kx_iconst (nI 1) d_C_init_50 (by decide) ?_
  refine kx_iadd _ d_C_init_51 (nI_add _ _) ?_
  refine kx_w (kx_aA w [(h, .inr (0, [.int (nI id), .int mask, .ref q1, .null, .null, .null, .null, .int 0, .int 0, .int 0, .int 0])), (q1, kx_aq E 4 2 (va_up (fun _ => none) 0 (some q2))), (q2, .inr (1, [.int (nI (2 * id)), .ref (g 1), .ref (g 3), .ref (g 5), .null, .null, .int (-1), .int 0, .int 0])), ((g 1), .inr (3, [.ref (g 2), .int 0])), ((g 2), kx_ai E 24 (fun _ => 0)), ((g 3), .inr (3, [.ref (g 4), .int 0])), ((g 4), kx_ai E 24 (fun _ => 0)), ((g 5), .inr (2, [.ref (g 6), .ref (g 8), .ref (g 10), .ref (g 11), .int 0, .int 0])), ((g 6), .inr (3, [.ref (g 7), .int 0])), ((g 7), kx_ai E 24 (fun _ => 0)), ((g 8), .inr (3, [.ref (g 9), .int 0])), ((g 9), kx_ai E 24 (fun _ => 0)), ((g 10), kx_ai E 24 (fun _ => 0)), ((g 11), kx_ai E 24 (fun _ => 0))] [(q3, .inr (1, [.int 0, .null, .null, .null, .null, .null, .int 0, .int 0, .int 0]))]).symm ?_
  refine kx_callI (as := [.int (nI (2 * id + 1))]) (rest := [.ref q3, .int (nI 1), .ref q1]) d_C_init_52 i_C_24 rfl (by decide) (by decide) (Nat.le_of_ble_eq_true rfl) (by decide) (by decide) rfl m_N_ini (fun X w1 h => by cases h.1) (fun v w1 hq9 => ?_)
  obtain ⟨hv, r, hw9⟩ := hq9
  cases hv
  subst hw9
  refine kx_w (w1 := w ++ [(h, .inr (0, [.int (nI id), .int mask, .ref q1, .null, .null, .null, .null, .int 0, .int 0, .int 0, .int 0])), (q1, kx_aq E 4 2 (va_up (fun _ => none) 0 (some q2))), (q2, .inr (1, [.int (nI (2 * id)), .ref (g 1), .ref (g 3), .ref (g 5), .null, .null, .int (-1), .int 0, .int 0])), ((g 1), .inr (3, [.ref (g 2), .int 0])), ((g 2), kx_ai E 24 (fun _ => 0)), ((g 3), .inr (3, [.ref (g 4), .int 0])), ((g 4), kx_ai E 24 (fun _ => 0)), ((g 5), .inr (2, [.ref (g 6), .ref (g 8), .ref (g 10), .ref (g 11), .int 0, .int 0])), ((g 6), .inr (3, [.ref (g 7), .int 0])), ((g 7), kx_ai E 24 (fun _ => 0)), ((g 8), .inr (3, [.ref (g 9), .int 0])), ((g 9), kx_ai E 24 (fun _ => 0)), ((g 10), kx_ai E 24 (fun _ => 0)), ((g 11), kx_ai E 24 (fun _ => 0)), (q3, .inr (1, [.int (nI (2 * id + 1)), .ref (r 1), .ref (r 3), .ref (r 5), .null, .null, .int (-1), .int 0, .int 0])), ((r 1), .inr (3, [.ref (r 2), .int 0])), ((r 2), kx_ai E 24 (fun _ => 0)), ((r 3), .inr (3, [.ref (r 4), .int 0])), ((r 4), kx_ai E 24 (fun _ => 0)), ((r 5), .inr (2, [.ref (r 6), .ref (r 8), .ref (r 10), .ref (r 11), .int 0, .int 0])), ((r 6), .inr (3, [.ref (r 7), .int 0])), ((r 7), kx_ai E 24 (fun _ => 0)), ((r 8), .inr (3, [.ref (r 9), .int 0])), ((r 9), kx_ai E 24 (fun _ => 0)), ((r 10), kx_ai E 24 (fun _ => 0)), ((r 11), kx_ai E 24 (fun _ => 0))]) (kx_aA w _ _) ?_
  refine kx_aast d_C_init_55 (by exact kx_gA w _ 1) (by exact kx_gA w _ 14) rfl rfl (by decide) (by decide) ?_
  refine kx_w (w1 := w ++ [(h, .inr (0, [.int (nI id), .int mask, .ref q1, .null, .null, .null, .null, .int 0, .int 0, .int 0, .int 0])), (q1, kx_aq E 4 2 (va_up (va_up (fun _ => none) 0 (some q2)) 1 (some q3))), (q2, .inr (1, [.int (nI (2 * id)), .ref (g 1), .ref (g 3), .ref (g 5), .null, .null, .int (-1), .int 0, .int 0])), ((g 1), .inr (3, [.ref (g 2), .int 0])), ((g 2), kx_ai E 24 (fun _ => 0)), ((g 3), .inr (3, [.ref (g 4), .int 0])), ((g 4), kx_ai E 24 (fun _ => 0)), ((g 5), .inr (2, [.ref (g 6), .ref (g 8), .ref (g 10), .ref (g 11), .int 0, .int 0])), ((g 6), .inr (3, [.ref (g 7), .int 0])), ((g 7), kx_ai E 24 (fun _ => 0)), ((g 8), .inr (3, [.ref (g 9), .int 0])), ((g 9), kx_ai E 24 (fun _ => 0)), ((g 10), kx_ai E 24 (fun _ => 0)), ((g 11), kx_ai E 24 (fun _ => 0)), (q3, .inr (1, [.int (nI (2 * id + 1)), .ref (r 1), .ref (r 3), .ref (r 5), .null, .null, .int (-1), .int 0, .int 0])), ((r 1), .inr (3, [.ref (r 2), .int 0])), ((r 2), kx_ai E 24 (fun _ => 0)), ((r 3), .inr (3, [.ref (r 4), .int 0])), ((r 4), kx_ai E 24 (fun _ => 0)), ((r 5), .inr (2, [.ref (r 6), .ref (r 8), .ref (r 10), .ref (r 11), .int 0, .int 0])), ((r 6), .inr (3, [.ref (r 7), .int 0])), ((r 7), kx_ai E 24 (fun _ => 0)), ((r 8), .inr (3, [.ref (r 9), .int 0])), ((r 9), kx_ai E 24 (fun _ => 0)), ((r 10), kx_ai E 24 (fun _ => 0)), ((r 11), kx_ai E 24 (fun _ => 0))]) (kx_sA w _ 1 _) ?_
  refine kx_aload_n d_C_init_56 rfl (by first | rfl | exact kx_rf _) ?_
  refine kx_get _ d_C_init_57 f_C_20 (by exact kx_gA w _ 0) (by rfl) ?_
  refine kx_iconst (nI 0) d_C_init_60 (by decide) ?_
  refine kx_aald d_C_init_61 (by exact kx_gA w _ 1) rfl (by decide) (by decide) ?_
  refine kx_stk (st1 := [.ref q2]) rfl ?_
  refine kx_aload_n d_C_init_62 rfl (by first | rfl | exact kx_rf _) ?_
  refine kx_get _ d_C_init_63 f_C_20 (by exact kx_gA w _ 0) (by rfl) ?_
  refine kx_iconst (nI 1) d_C_init_66 (by decide) ?_
  refine kx_aald d_C_init_67 (by exact kx_gA w _ 1) rfl (by decide) (by decide) ?_
  refine kx_stk (st1 := [.ref q3, .ref q2]) rfl ?_
  refine kx_put d_C_init_68 f_C_27 (p_N_4 _) (by exact kx_gA w _ 2) (Nat.le_of_ble_eq_true rfl) ?_
  refine kx_w (w1 := w ++ [(h, .inr (0, [.int (nI id), .int mask, .ref q1, .null, .null, .null, .null, .int 0, .int 0, .int 0, .int 0])), (q1, kx_aq E 4 2 (va_up (va_up (fun _ => none) 0 (some q2)) 1 (some q3))), (q2, .inr (1, [.int (nI (2 * id)), .ref (g 1), .ref (g 3), .ref (g 5), .ref q3, .null, .int (-1), .int 0, .int 0])), ((g 1), .inr (3, [.ref (g 2), .int 0])), ((g 2), kx_ai E 24 (fun _ => 0)), ((g 3), .inr (3, [.ref (g 4), .int 0])), ((g 4), kx_ai E 24 (fun _ => 0)), ((g 5), .inr (2, [.ref (g 6), .ref (g 8), .ref (g 10), .ref (g 11), .int 0, .int 0])), ((g 6), .inr (3, [.ref (g 7), .int 0])), ((g 7), kx_ai E 24 (fun _ => 0)), ((g 8), .inr (3, [.ref (g 9), .int 0])), ((g 9), kx_ai E 24 (fun _ => 0)), ((g 10), kx_ai E 24 (fun _ => 0)), ((g 11), kx_ai E 24 (fun _ => 0)), (q3, .inr (1, [.int (nI (2 * id + 1)), .ref (r 1), .ref (r 3), .ref (r 5), .null, .null, .int (-1), .int 0, .int 0])), ((r 1), .inr (3, [.ref (r 2), .int 0])), ((r 2), kx_ai E 24 (fun _ => 0)), ((r 3), .inr (3, [.ref (r 4), .int 0])), ((r 4), kx_ai E 24 (fun _ => 0)), ((r 5), .inr (2, [.ref (r 6), .ref (r 8), .ref (r 10), .ref (r 11), .int 0, .int 0])), ((r 6), .inr (3, [.ref (r 7), .int 0])), ((r 7), kx_ai E 24 (fun _ => 0)), ((r 8), .inr (3, [.ref (r 9), .int 0])), ((r 9), kx_ai E 24 (fun _ => 0)), ((r 10), kx_ai E 24 (fun _ => 0)), ((r 11), kx_ai E 24 (fun _ => 0))]) (kx_sA w _ 2 _) ?_
  refine kx_aload_n d_C_init_71 rfl (by first | rfl | exact kx_rf _) ?_
  refine kx_get _ d_C_init_72 f_C_20 (by exact kx_gA w _ 0) (by rfl) ?_
  refine kx_iconst (nI 1) d_C_init_75 (by decide) ?_
  refine kx_aald d_C_init_76 (by exact kx_gA w _ 1) rfl (by decide) (by decide) ?_
  refine kx_stk (st1 := [.ref q3]) rfl ?_
  refine kx_aload_n d_C_init_77 rfl (by first | rfl | exact kx_rf _) ?_
  refine kx_get _ d_C_init_78 f_C_20 (by exact kx_gA w _ 0) (by rfl) ?_
  refine kx_iconst (nI 0) d_C_init_81 (by decide) ?_
  refine kx_aald d_C_init_82 (by exact kx_gA w _ 1) rfl (by decide) (by decide) ?_
  refine kx_stk (st1 := [.ref q2, .ref q3]) rfl ?_
  refine kx_put d_C_init_83 f_C_27 (p_N_4 _) (by exact kx_gA w _ 14) (Nat.le_of_ble_eq_true rfl) ?_
  refine kx_w (w1 := w ++ [(h, .inr (0, [.int (nI id), .int mask, .ref q1, .null, .null, .null, .null, .int 0, .int 0, .int 0, .int 0])), (q1, kx_aq E 4 2 (va_up (va_up (fun _ => none) 0 (some q2)) 1 (some q3))), (q2, .inr (1, [.int (nI (2 * id)), .ref (g 1), .ref (g 3), .ref (g 5), .ref q3, .null, .int (-1), .int 0, .int 0])), ((g 1), .inr (3, [.ref (g 2), .int 0])), ((g 2), kx_ai E 24 (fun _ => 0)), ((g 3), .inr (3, [.ref (g 4), .int 0])), ((g 4), kx_ai E 24 (fun _ => 0)), ((g 5), .inr (2, [.ref (g 6), .ref (g 8), .ref (g 10), .ref (g 11), .int 0, .int 0])), ((g 6), .inr (3, [.ref (g 7), .int 0])), ((g 7), kx_ai E 24 (fun _ => 0)), ((g 8), .inr (3, [.ref (g 9), .int 0])), ((g 9), kx_ai E 24 (fun _ => 0)), ((g 10), kx_ai E 24 (fun _ => 0)), ((g 11), kx_ai E 24 (fun _ => 0)), (q3, .inr (1, [.int (nI (2 * id + 1)), .ref (r 1), .ref (r 3), .ref (r 5), .ref q2, .null, .int (-1), .int 0, .int 0])), ((r 1), .inr (3, [.ref (r 2), .int 0])), ((r 2), kx_ai E 24 (fun _ => 0)), ((r 3), .inr (3, [.ref (r 4), .int 0])), ((r 4), kx_ai E 24 (fun _ => 0)), ((r 5), .inr (2, [.ref (r 6), .ref (r 8), .ref (r 10), .ref (r 11), .int 0, .int 0])), ((r 6), .inr (3, [.ref (r 7), .int 0])), ((r 7), kx_ai E 24 (fun _ => 0)), ((r 8), .inr (3, [.ref (r 9), .int 0])), ((r 9), kx_ai E 24 (fun _ => 0)), ((r 10), kx_ai E 24 (fun _ => 0)), ((r 11), kx_ai E 24 (fun _ => 0))]) (kx_sA w _ 14 _) ?_
  refine kx_aload_n d_C_init_86 rfl (by first | rfl | exact kx_rf _) ?_
  refine kx_new d_C_init_87 n_C_31 (by decide) (by decide) (fun q4 => ?_)
  refine kx_w (w1 := w ++ [(h, .inr (0, [.int (nI id), .int mask, .ref q1, .null, .null, .null, .null, .int 0, .int 0, .int 0, .int 0])), (q1, kx_aq E 4 2 (va_up (va_up (fun _ => none) 0 (some q2)) 1 (some q3))), (q2, .inr (1, [.int (nI (2 * id)), .ref (g 1), .ref (g 3), .ref (g 5), .ref q3, .null, .int (-1), .int 0, .int 0])), ((g 1), .inr (3, [.ref (g 2), .int 0])), ((g 2), kx_ai E 24 (fun _ => 0)), ((g 3), .inr (3, [.ref (g 4), .int 0])), ((g 4), kx_ai E 24 (fun _ => 0)), ((g 5), .inr (2, [.ref (g 6), .ref (g 8), .ref (g 10), .ref (g 11), .int 0, .int 0])), ((g 6), .inr (3, [.ref (g 7), .int 0])), ((g 7), kx_ai E 24 (fun _ => 0)), ((g 8), .inr (3, [.ref (g 9), .int 0])), ((g 9), kx_ai E 24 (fun _ => 0)), ((g 10), kx_ai E 24 (fun _ => 0)), ((g 11), kx_ai E 24 (fun _ => 0)), (q3, .inr (1, [.int (nI (2 * id + 1)), .ref (r 1), .ref (r 3), .ref (r 5), .ref q2, .null, .int (-1), .int 0, .int 0])), ((r 1), .inr (3, [.ref (r 2), .int 0])), ((r 2), kx_ai E 24 (fun _ => 0)), ((r 3), .inr (3, [.ref (r 4), .int 0])), ((r 4), kx_ai E 24 (fun _ => 0)), ((r 5), .inr (2, [.ref (r 6), .ref (r 8), .ref (r 10), .ref (r 11), .int 0, .int 0])), ((r 6), .inr (3, [.ref (r 7), .int 0])), ((r 7), kx_ai E 24 (fun _ => 0)), ((r 8), .inr (3, [.ref (r 9), .int 0])), ((r 9), kx_ai E 24 (fun _ => 0)), ((r 10), kx_ai E 24 (fun _ => 0)), ((r 11), kx_ai E 24 (fun _ => 0)), (q4, .inr (3, [.null, .int 0]))]) (kx_aA w _ _) ?_
  refine kx_dup d_C_init_90 (by first | rfl | exact kx_rfc _) ?_
  refine kx_w (kx_aA w [(h, .inr (0, [.int (nI id), .int mask, .ref q1, .null, .null, .null, .null, .int 0, .int 0, .int 0, .int 0])), (q1, kx_aq E 4 2 (va_up (va_up (fun _ => none) 0 (some q2)) 1 (some q3))), (q2, .inr (1, [.int (nI (2 * id)), .ref (g 1), .ref (g 3), .ref (g 5), .ref q3, .null, .int (-1), .int 0, .int 0])), ((g 1), .inr (3, [.ref (g 2), .int 0])), ((g 2), kx_ai E 24 (fun _ => 0)), ((g 3), .inr (3, [.ref (g 4), .int 0])), ((g 4), kx_ai E 24 (fun _ => 0)), ((g 5), .inr (2, [.ref (g 6), .ref (g 8), .ref (g 10), .ref (g 11), .int 0, .int 0])), ((g 6), .inr (3, [.ref (g 7), .int 0])), ((g 7), kx_ai E 24 (fun _ => 0)), ((g 8), .inr (3, [.ref (g 9), .int 0])), ((g 9), kx_ai E 24 (fun _ => 0)), ((g 10), kx_ai E 24 (fun _ => 0)), ((g 11), kx_ai E 24 (fun _ => 0)), (q3, .inr (1, [.int (nI (2 * id + 1)), .ref (r 1), .ref (r 3), .ref (r 5), .ref q2, .null, .int (-1), .int 0, .int 0])), ((r 1), .inr (3, [.ref (r 2), .int 0])), ((r 2), kx_ai E 24 (fun _ => 0)), ((r 3), .inr (3, [.ref (r 4), .int 0])), ((r 4), kx_ai E 24 (fun _ => 0)), ((r 5), .inr (2, [.ref (r 6), .ref (r 8), .ref (r 10), .ref (r 11), .int 0, .int 0])), ((r 6), .inr (3, [.ref (r 7), .int 0])), ((r 7), kx_ai E 24 (fun _ => 0)), ((r 8), .inr (3, [.ref (r 9), .int 0])), ((r 9), kx_ai E 24 (fun _ => 0)), ((r 10), kx_ai E 24 (fun _ => 0)), ((r 11), kx_ai E 24 (fun _ => 0))] [(q4, .inr (3, [.null, .int 0]))]).symm ?_
  refine kx_callI (as := []) (rest := [.ref q4, .ref h]) d_C_init_91 i_C_33 rfl (by decide) (by decide) (Nat.le_of_ble_eq_true rfl) (by decide) (by decide) rfl m_R_ini (fun X w1 h => by cases h.1) (fun v w1 hq9 => ?_)
  obtain ⟨hv, q5, hw9⟩ := hq9
  cases hv
  subst hw9
  refine kx_w (w1 := w ++ [(h, .inr (0, [.int (nI id), .int mask, .ref q1, .null, .null, .null, .null, .int 0, .int 0, .int 0, .int 0])), (q1, kx_aq E 4 2 (va_up (va_up (fun _ => none) 0 (some q2)) 1 (some q3))), (q2, .inr (1, [.int (nI (2 * id)), .ref (g 1), .ref (g 3), .ref (g 5), .ref q3, .null, .int (-1), .int 0, .int 0])), ((g 1), .inr (3, [.ref (g 2), .int 0])), ((g 2), kx_ai E 24 (fun _ => 0)), ((g 3), .inr (3, [.ref (g 4), .int 0])), ((g 4), kx_ai E 24 (fun _ => 0)), ((g 5), .inr (2, [.ref (g 6), .ref (g 8), .ref (g 10), .ref (g 11), .int 0, .int 0])), ((g 6), .inr (3, [.ref (g 7), .int 0])), ((g 7), kx_ai E 24 (fun _ => 0)), ((g 8), .inr (3, [.ref (g 9), .int 0])), ((g 9), kx_ai E 24 (fun _ => 0)), ((g 10), kx_ai E 24 (fun _ => 0)), ((g 11), kx_ai E 24 (fun _ => 0)), (q3, .inr (1, [.int (nI (2 * id + 1)), .ref (r 1), .ref (r 3), .ref (r 5), .ref q2, .null, .int (-1), .int 0, .int 0])), ((r 1), .inr (3, [.ref (r 2), .int 0])), ((r 2), kx_ai E 24 (fun _ => 0)), ((r 3), .inr (3, [.ref (r 4), .int 0])), ((r 4), kx_ai E 24 (fun _ => 0)), ((r 5), .inr (2, [.ref (r 6), .ref (r 8), .ref (r 10), .ref (r 11), .int 0, .int 0])), ((r 6), .inr (3, [.ref (r 7), .int 0])), ((r 7), kx_ai E 24 (fun _ => 0)), ((r 8), .inr (3, [.ref (r 9), .int 0])), ((r 9), kx_ai E 24 (fun _ => 0)), ((r 10), kx_ai E 24 (fun _ => 0)), ((r 11), kx_ai E 24 (fun _ => 0)), (q4, .inr (3, [.ref q5, .int 0])), (q5, kx_ai E 24 (fun _ => 0))]) (kx_aA w _ _) ?_
  refine kx_putF d_C_init_94 f_C_34 (p_C_3 _) rfl rfl rfl (by exact kx_gA w _ 0) (Nat.le_of_ble_eq_true rfl) ?_
  refine kx_w (w1 := w ++ [(h, .inr (0, [.int (nI id), .int mask, .ref q1, .ref q4, .null, .null, .null, .int 0, .int 0, .int 0, .int 0])), (q1, kx_aq E 4 2 (va_up (va_up (fun _ => none) 0 (some q2)) 1 (some q3))), (q2, .inr (1, [.int (nI (2 * id)), .ref (g 1), .ref (g 3), .ref (g 5), .ref q3, .null, .int (-1), .int 0, .int 0])), ((g 1), .inr (3, [.ref (g 2), .int 0])), ((g 2), kx_ai E 24 (fun _ => 0)), ((g 3), .inr (3, [.ref (g 4), .int 0])), ((g 4), kx_ai E 24 (fun _ => 0)), ((g 5), .inr (2, [.ref (g 6), .ref (g 8), .ref (g 10), .ref (g 11), .int 0, .int 0])), ((g 6), .inr (3, [.ref (g 7), .int 0])), ((g 7), kx_ai E 24 (fun _ => 0)), ((g 8), .inr (3, [.ref (g 9), .int 0])), ((g 9), kx_ai E 24 (fun _ => 0)), ((g 10), kx_ai E 24 (fun _ => 0)), ((g 11), kx_ai E 24 (fun _ => 0)), (q3, .inr (1, [.int (nI (2 * id + 1)), .ref (r 1), .ref (r 3), .ref (r 5), .ref q2, .null, .int (-1), .int 0, .int 0])), ((r 1), .inr (3, [.ref (r 2), .int 0])), ((r 2), kx_ai E 24 (fun _ => 0)), ((r 3), .inr (3, [.ref (r 4), .int 0])), ((r 4), kx_ai E 24 (fun _ => 0)), ((r 5), .inr (2, [.ref (r 6), .ref (r 8), .ref (r 10), .ref (r 11), .int 0, .int 0])), ((r 6), .inr (3, [.ref (r 7), .int 0])), ((r 7), kx_ai E 24 (fun _ => 0)), ((r 8), .inr (3, [.ref (r 9), .int 0])), ((r 9), kx_ai E 24 (fun _ => 0)), ((r 10), kx_ai E 24 (fun _ => 0)), ((r 11), kx_ai E 24 (fun _ => 0)), (q4, .inr (3, [.ref q5, .int 0])), (q5, kx_ai E 24 (fun _ => 0))]) (kx_sA w _ 0 _) ?_
  refine kx_aload_n d_C_init_97 rfl (by first | rfl | exact kx_rf _) ?_
  refine kx_new d_C_init_98 n_C_31 (by decide) (by decide) (fun q6 => ?_)
  refine kx_w (w1 := w ++ [(h, .inr (0, [.int (nI id), .int mask, .ref q1, .ref q4, .null, .null, .null, .int 0, .int 0, .int 0, .int 0])), (q1, kx_aq E 4 2 (va_up (va_up (fun _ => none) 0 (some q2)) 1 (some q3))), (q2, .inr (1, [.int (nI (2 * id)), .ref (g 1), .ref (g 3), .ref (g 5), .ref q3, .null, .int (-1), .int 0, .int 0])), ((g 1), .inr (3, [.ref (g 2), .int 0])), ((g 2), kx_ai E 24 (fun _ => 0)), ((g 3), .inr (3, [.ref (g 4), .int 0])), ((g 4), kx_ai E 24 (fun _ => 0)), ((g 5), .inr (2, [.ref (g 6), .ref (g 8), .ref (g 10), .ref (g 11), .int 0, .int 0])), ((g 6), .inr (3, [.ref (g 7), .int 0])), ((g 7), kx_ai E 24 (fun _ => 0)), ((g 8), .inr (3, [.ref (g 9), .int 0])), ((g 9), kx_ai E 24 (fun _ => 0)), ((g 10), kx_ai E 24 (fun _ => 0)), ((g 11), kx_ai E 24 (fun _ => 0)), (q3, .inr (1, [.int (nI (2 * id + 1)), .ref (r 1), .ref (r 3), .ref (r 5), .ref q2, .null, .int (-1), .int 0, .int 0])), ((r 1), .inr (3, [.ref (r 2), .int 0])), ((r 2), kx_ai E 24 (fun _ => 0)), ((r 3), .inr (3, [.ref (r 4), .int 0])), ((r 4), kx_ai E 24 (fun _ => 0)), ((r 5), .inr (2, [.ref (r 6), .ref (r 8), .ref (r 10), .ref (r 11), .int 0, .int 0])), ((r 6), .inr (3, [.ref (r 7), .int 0])), ((r 7), kx_ai E 24 (fun _ => 0)), ((r 8), .inr (3, [.ref (r 9), .int 0])), ((r 9), kx_ai E 24 (fun _ => 0)), ((r 10), kx_ai E 24 (fun _ => 0)), ((r 11), kx_ai E 24 (fun _ => 0)), (q4, .inr (3, [.ref q5, .int 0])), (q5, kx_ai E 24 (fun _ => 0)), (q6, .inr (3, [.null, .int 0]))]) (kx_aA w _ _) ?_
  refine kx_dup d_C_init_101 (by first | rfl | exact kx_rfc _) ?_
  refine kx_w (kx_aA w [(h, .inr (0, [.int (nI id), .int mask, .ref q1, .ref q4, .null, .null, .null, .int 0, .int 0, .int 0, .int 0])), (q1, kx_aq E 4 2 (va_up (va_up (fun _ => none) 0 (some q2)) 1 (some q3))), (q2, .inr (1, [.int (nI (2 * id)), .ref (g 1), .ref (g 3), .ref (g 5), .ref q3, .null, .int (-1), .int 0, .int 0])), ((g 1), .inr (3, [.ref (g 2), .int 0])), ((g 2), kx_ai E 24 (fun _ => 0)), ((g 3), .inr (3, [.ref (g 4), .int 0])), ((g 4), kx_ai E 24 (fun _ => 0)), ((g 5), .inr (2, [.ref (g 6), .ref (g 8), .ref (g 10), .ref (g 11), .int 0, .int 0])), ((g 6), .inr (3, [.ref (g 7), .int 0])), ((g 7), kx_ai E 24 (fun _ => 0)), ((g 8), .inr (3, [.ref (g 9), .int 0])), ((g 9), kx_ai E 24 (fun _ => 0)), ((g 10), kx_ai E 24 (fun _ => 0)), ((g 11), kx_ai E 24 (fun _ => 0)), (q3, .inr (1, [.int (nI (2 * id + 1)), .ref (r 1), .ref (r 3), .ref (r 5), .ref q2, .null, .int (-1), .int 0, .int 0])), ((r 1), .inr (3, [.ref (r 2), .int 0])), ((r 2), kx_ai E 24 (fun _ => 0)), ((r 3), .inr (3, [.ref (r 4), .int 0])), ((r 4), kx_ai E 24 (fun _ => 0)), ((r 5), .inr (2, [.ref (r 6), .ref (r 8), .ref (r 10), .ref (r 11), .int 0, .int 0])), ((r 6), .inr (3, [.ref (r 7), .int 0])), ((r 7), kx_ai E 24 (fun _ => 0)), ((r 8), .inr (3, [.ref (r 9), .int 0])), ((r 9), kx_ai E 24 (fun _ => 0)), ((r 10), kx_ai E 24 (fun _ => 0)), ((r 11), kx_ai E 24 (fun _ => 0)), (q4, .inr (3, [.ref q5, .int 0])), (q5, kx_ai E 24 (fun _ => 0))] [(q6, .inr (3, [.null, .int 0]))]).symm ?_
  refine kx_callI (as := []) (rest := [.ref q6, .ref h]) d_C_init_102 i_C_33 rfl (by decide) (by decide) (Nat.le_of_ble_eq_true rfl) (by decide) (by decide) rfl m_R_ini (fun X w1 h => by cases h.1) (fun v w1 hq9 => ?_)
  obtain ⟨hv, q7, hw9⟩ := hq9
  cases hv
  subst hw9
  refine kx_w (w1 := w ++ [(h, .inr (0, [.int (nI id), .int mask, .ref q1, .ref q4, .null, .null, .null, .int 0, .int 0, .int 0, .int 0])), (q1, kx_aq E 4 2 (va_up (va_up (fun _ => none) 0 (some q2)) 1 (some q3))), (q2, .inr (1, [.int (nI (2 * id)), .ref (g 1), .ref (g 3), .ref (g 5), .ref q3, .null, .int (-1), .int 0, .int 0])), ((g 1), .inr (3, [.ref (g 2), .int 0])), ((g 2), kx_ai E 24 (fun _ => 0)), ((g 3), .inr (3, [.ref (g 4), .int 0])), ((g 4), kx_ai E 24 (fun _ => 0)), ((g 5), .inr (2, [.ref (g 6), .ref (g 8), .ref (g 10), .ref (g 11), .int 0, .int 0])), ((g 6), .inr (3, [.ref (g 7), .int 0])), ((g 7), kx_ai E 24 (fun _ => 0)), ((g 8), .inr (3, [.ref (g 9), .int 0])), ((g 9), kx_ai E 24 (fun _ => 0)), ((g 10), kx_ai E 24 (fun _ => 0)), ((g 11), kx_ai E 24 (fun _ => 0)), (q3, .inr (1, [.int (nI (2 * id + 1)), .ref (r 1), .ref (r 3), .ref (r 5), .ref q2, .null, .int (-1), .int 0, .int 0])), ((r 1), .inr (3, [.ref (r 2), .int 0])), ((r 2), kx_ai E 24 (fun _ => 0)), ((r 3), .inr (3, [.ref (r 4), .int 0])), ((r 4), kx_ai E 24 (fun _ => 0)), ((r 5), .inr (2, [.ref (r 6), .ref (r 8), .ref (r 10), .ref (r 11), .int 0, .int 0])), ((r 6), .inr (3, [.ref (r 7), .int 0])), ((r 7), kx_ai E 24 (fun _ => 0)), ((r 8), .inr (3, [.ref (r 9), .int 0])), ((r 9), kx_ai E 24 (fun _ => 0)), ((r 10), kx_ai E 24 (fun _ => 0)), ((r 11), kx_ai E 24 (fun _ => 0)), (q4, .inr (3, [.ref q5, .int 0])), (q5, kx_ai E 24 (fun _ => 0)), (q6, .inr (3, [.ref q7, .int 0])), (q7, kx_ai E 24 (fun _ => 0))]) (kx_aA w _ _) ?_
  refine kx_putF d_C_init_105 f_C_38 (p_C_4 _) rfl rfl rfl (by exact kx_gA w _ 0) (Nat.le_of_ble_eq_true rfl) ?_
  refine kx_w (w1 := w ++ [(h, .inr (0, [.int (nI id), .int mask, .ref q1, .ref q4, .ref q6, .null, .null, .int 0, .int 0, .int 0, .int 0])), (q1, kx_aq E 4 2 (va_up (va_up (fun _ => none) 0 (some q2)) 1 (some q3))), (q2, .inr (1, [.int (nI (2 * id)), .ref (g 1), .ref (g 3), .ref (g 5), .ref q3, .null, .int (-1), .int 0, .int 0])), ((g 1), .inr (3, [.ref (g 2), .int 0])), ((g 2), kx_ai E 24 (fun _ => 0)), ((g 3), .inr (3, [.ref (g 4), .int 0])), ((g 4), kx_ai E 24 (fun _ => 0)), ((g 5), .inr (2, [.ref (g 6), .ref (g 8), .ref (g 10), .ref (g 11), .int 0, .int 0])), ((g 6), .inr (3, [.ref (g 7), .int 0])), ((g 7), kx_ai E 24 (fun _ => 0)), ((g 8), .inr (3, [.ref (g 9), .int 0])), ((g 9), kx_ai E 24 (fun _ => 0)), ((g 10), kx_ai E 24 (fun _ => 0)), ((g 11), kx_ai E 24 (fun _ => 0)), (q3, .inr (1, [.int (nI (2 * id + 1)), .ref (r 1), .ref (r 3), .ref (r 5), .ref q2, .null, .int (-1), .int 0, .int 0])), ((r 1), .inr (3, [.ref (r 2), .int 0])), ((r 2), kx_ai E 24 (fun _ => 0)), ((r 3), .inr (3, [.ref (r 4), .int 0])), ((r 4), kx_ai E 24 (fun _ => 0)), ((r 5), .inr (2, [.ref (r 6), .ref (r 8), .ref (r 10), .ref (r 11), .int 0, .int 0])), ((r 6), .inr (3, [.ref (r 7), .int 0])), ((r 7), kx_ai E 24 (fun _ => 0)), ((r 8), .inr (3, [.ref (r 9), .int 0])), ((r 9), kx_ai E 24 (fun _ => 0)), ((r 10), kx_ai E 24 (fun _ => 0)), ((r 11), kx_ai E 24 (fun _ => 0)), (q4, .inr (3, [.ref q5, .int 0])), (q5, kx_ai E 24 (fun _ => 0)), (q6, .inr (3, [.ref q7, .int 0])), (q7, kx_ai E 24 (fun _ => 0))]) (kx_sA w _ 0 _) ?_
  refine kx_aload_n d_C_init_108 rfl (by first | rfl | exact kx_rf _) ?_
  refine kx_bipush (nI 24) d_C_init_109 (by decide) ?_
  refine kx_newa (t := 0) (n := 24) (24, .inl (fun _ => 0)) d_C_init_111 ac_int rfl rfl (fun cA => rfl) (by decide) (by decide) (by decide) (by decide) (fun q8 => ?_)
  refine kx_w (w1 := w ++ [(h, .inr (0, [.int (nI id), .int mask, .ref q1, .ref q4, .ref q6, .null, .null, .int 0, .int 0, .int 0, .int 0])), (q1, kx_aq E 4 2 (va_up (va_up (fun _ => none) 0 (some q2)) 1 (some q3))), (q2, .inr (1, [.int (nI (2 * id)), .ref (g 1), .ref (g 3), .ref (g 5), .ref q3, .null, .int (-1), .int 0, .int 0])), ((g 1), .inr (3, [.ref (g 2), .int 0])), ((g 2), kx_ai E 24 (fun _ => 0)), ((g 3), .inr (3, [.ref (g 4), .int 0])), ((g 4), kx_ai E 24 (fun _ => 0)), ((g 5), .inr (2, [.ref (g 6), .ref (g 8), .ref (g 10), .ref (g 11), .int 0, .int 0])), ((g 6), .inr (3, [.ref (g 7), .int 0])), ((g 7), kx_ai E 24 (fun _ => 0)), ((g 8), .inr (3, [.ref (g 9), .int 0])), ((g 9), kx_ai E 24 (fun _ => 0)), ((g 10), kx_ai E 24 (fun _ => 0)), ((g 11), kx_ai E 24 (fun _ => 0)), (q3, .inr (1, [.int (nI (2 * id + 1)), .ref (r 1), .ref (r 3), .ref (r 5), .ref q2, .null, .int (-1), .int 0, .int 0])), ((r 1), .inr (3, [.ref (r 2), .int 0])), ((r 2), kx_ai E 24 (fun _ => 0)), ((r 3), .inr (3, [.ref (r 4), .int 0])), ((r 4), kx_ai E 24 (fun _ => 0)), ((r 5), .inr (2, [.ref (r 6), .ref (r 8), .ref (r 10), .ref (r 11), .int 0, .int 0])), ((r 6), .inr (3, [.ref (r 7), .int 0])), ((r 7), kx_ai E 24 (fun _ => 0)), ((r 8), .inr (3, [.ref (r 9), .int 0])), ((r 9), kx_ai E 24 (fun _ => 0)), ((r 10), kx_ai E 24 (fun _ => 0)), ((r 11), kx_ai E 24 (fun _ => 0)), (q4, .inr (3, [.ref q5, .int 0])), (q5, kx_ai E 24 (fun _ => 0)), (q6, .inr (3, [.ref q7, .int 0])), (q7, kx_ai E 24 (fun _ => 0)), (q8, kx_ai E 24 (fun _ => 0))]) (kx_aA w _ _) ?_
  refine kx_putF d_C_init_113 f_C_41 (p_C_5 _) rfl rfl rfl (by exact kx_gA w _ 0) (Nat.le_of_ble_eq_true rfl) ?_
  refine kx_w (w1 := w ++ [(h, .inr (0, [.int (nI id), .int mask, .ref q1, .ref q4, .ref q6, .ref q8, .null, .int 0, .int 0, .int 0, .int 0])), (q1, kx_aq E 4 2 (va_up (va_up (fun _ => none) 0 (some q2)) 1 (some q3))), (q2, .inr (1, [.int (nI (2 * id)), .ref (g 1), .ref (g 3), .ref (g 5), .ref q3, .null, .int (-1), .int 0, .int 0])), ((g 1), .inr (3, [.ref (g 2), .int 0])), ((g 2), kx_ai E 24 (fun _ => 0)), ((g 3), .inr (3, [.ref (g 4), .int 0])), ((g 4), kx_ai E 24 (fun _ => 0)), ((g 5), .inr (2, [.ref (g 6), .ref (g 8), .ref (g 10), .ref (g 11), .int 0, .int 0])), ((g 6), .inr (3, [.ref (g 7), .int 0])), ((g 7), kx_ai E 24 (fun _ => 0)), ((g 8), .inr (3, [.ref (g 9), .int 0])), ((g 9), kx_ai E 24 (fun _ => 0)), ((g 10), kx_ai E 24 (fun _ => 0)), ((g 11), kx_ai E 24 (fun _ => 0)), (q3, .inr (1, [.int (nI (2 * id + 1)), .ref (r 1), .ref (r 3), .ref (r 5), .ref q2, .null, .int (-1), .int 0, .int 0])), ((r 1), .inr (3, [.ref (r 2), .int 0])), ((r 2), kx_ai E 24 (fun _ => 0)), ((r 3), .inr (3, [.ref (r 4), .int 0])), ((r 4), kx_ai E 24 (fun _ => 0)), ((r 5), .inr (2, [.ref (r 6), .ref (r 8), .ref (r 10), .ref (r 11), .int 0, .int 0])), ((r 6), .inr (3, [.ref (r 7), .int 0])), ((r 7), kx_ai E 24 (fun _ => 0)), ((r 8), .inr (3, [.ref (r 9), .int 0])), ((r 9), kx_ai E 24 (fun _ => 0)), ((r 10), kx_ai E 24 (fun _ => 0)), ((r 11), kx_ai E 24 (fun _ => 0)), (q4, .inr (3, [.ref q5, .int 0])), (q5, kx_ai E 24 (fun _ => 0)), (q6, .inr (3, [.ref q7, .int 0])), (q7, kx_ai E 24 (fun _ => 0)), (q8, kx_ai E 24 (fun _ => 0))]) (kx_sA w _ 0 _) ?_
  refine kx_aload_n d_C_init_116 rfl (by first | rfl | exact kx_rf _) ?_
  refine kx_bipush (nI 24) d_C_init_117 (by decide) ?_
  refine kx_newa (t := 0) (n := 24) (24, .inl (fun _ => 0)) d_C_init_119 ac_int rfl rfl (fun cA => rfl) (by decide) (by decide) (by decide) (by decide) (fun q9 => ?_)
  refine kx_w (w1 := w ++ [(h, .inr (0, [.int (nI id), .int mask, .ref q1, .ref q4, .ref q6, .ref q8, .null, .int 0, .int 0, .int 0, .int 0])), (q1, kx_aq E 4 2 (va_up (va_up (fun _ => none) 0 (some q2)) 1 (some q3))), (q2, .inr (1, [.int (nI (2 * id)), .ref (g 1), .ref (g 3), .ref (g 5), .ref q3, .null, .int (-1), .int 0, .int 0])), ((g 1), .inr (3, [.ref (g 2), .int 0])), ((g 2), kx_ai E 24 (fun _ => 0)), ((g 3), .inr (3, [.ref (g 4), .int 0])), ((g 4), kx_ai E 24 (fun _ => 0)), ((g 5), .inr (2, [.ref (g 6), .ref (g 8), .ref (g 10), .ref (g 11), .int 0, .int 0])), ((g 6), .inr (3, [.ref (g 7), .int 0])), ((g 7), kx_ai E 24 (fun _ => 0)), ((g 8), .inr (3, [.ref (g 9), .int 0])), ((g 9), kx_ai E 24 (fun _ => 0)), ((g 10), kx_ai E 24 (fun _ => 0)), ((g 11), kx_ai E 24 (fun _ => 0)), (q3, .inr (1, [.int (nI (2 * id + 1)), .ref (r 1), .ref (r 3), .ref (r 5), .ref q2, .null, .int (-1), .int 0, .int 0])), ((r 1), .inr (3, [.ref (r 2), .int 0])), ((r 2), kx_ai E 24 (fun _ => 0)), ((r 3), .inr (3, [.ref (r 4), .int 0])), ((r 4), kx_ai E 24 (fun _ => 0)), ((r 5), .inr (2, [.ref (r 6), .ref (r 8), .ref (r 10), .ref (r 11), .int 0, .int 0])), ((r 6), .inr (3, [.ref (r 7), .int 0])), ((r 7), kx_ai E 24 (fun _ => 0)), ((r 8), .inr (3, [.ref (r 9), .int 0])), ((r 9), kx_ai E 24 (fun _ => 0)), ((r 10), kx_ai E 24 (fun _ => 0)), ((r 11), kx_ai E 24 (fun _ => 0)), (q4, .inr (3, [.ref q5, .int 0])), (q5, kx_ai E 24 (fun _ => 0)), (q6, .inr (3, [.ref q7, .int 0])), (q7, kx_ai E 24 (fun _ => 0)), (q8, kx_ai E 24 (fun _ => 0)), (q9, kx_ai E 24 (fun _ => 0))]) (kx_aA w _ _) ?_
  refine kx_putF d_C_init_121 f_C_45 (p_C_6 _) rfl rfl rfl (by exact kx_gA w _ 0) (Nat.le_of_ble_eq_true rfl) ?_
  refine kx_w (w1 := w ++ [(h, .inr (0, [.int (nI id), .int mask, .ref q1, .ref q4, .ref q6, .ref q8, .ref q9, .int 0, .int 0, .int 0, .int 0])), (q1, kx_aq E 4 2 (va_up (va_up (fun _ => none) 0 (some q2)) 1 (some q3))), (q2, .inr (1, [.int (nI (2 * id)), .ref (g 1), .ref (g 3), .ref (g 5), .ref q3, .null, .int (-1), .int 0, .int 0])), ((g 1), .inr (3, [.ref (g 2), .int 0])), ((g 2), kx_ai E 24 (fun _ => 0)), ((g 3), .inr (3, [.ref (g 4), .int 0])), ((g 4), kx_ai E 24 (fun _ => 0)), ((g 5), .inr (2, [.ref (g 6), .ref (g 8), .ref (g 10), .ref (g 11), .int 0, .int 0])), ((g 6), .inr (3, [.ref (g 7), .int 0])), ((g 7), kx_ai E 24 (fun _ => 0)), ((g 8), .inr (3, [.ref (g 9), .int 0])), ((g 9), kx_ai E 24 (fun _ => 0)), ((g 10), kx_ai E 24 (fun _ => 0)), ((g 11), kx_ai E 24 (fun _ => 0)), (q3, .inr (1, [.int (nI (2 * id + 1)), .ref (r 1), .ref (r 3), .ref (r 5), .ref q2, .null, .int (-1), .int 0, .int 0])), ((r 1), .inr (3, [.ref (r 2), .int 0])), ((r 2), kx_ai E 24 (fun _ => 0)), ((r 3), .inr (3, [.ref (r 4), .int 0])), ((r 4), kx_ai E 24 (fun _ => 0)), ((r 5), .inr (2, [.ref (r 6), .ref (r 8), .ref (r 10), .ref (r 11), .int 0, .int 0])), ((r 6), .inr (3, [.ref (r 7), .int 0])), ((r 7), kx_ai E 24 (fun _ => 0)), ((r 8), .inr (3, [.ref (r 9), .int 0])), ((r 9), kx_ai E 24 (fun _ => 0)), ((r 10), kx_ai E 24 (fun _ => 0)), ((r 11), kx_ai E 24 (fun _ => 0)), (q4, .inr (3, [.ref q5, .int 0])), (q5, kx_ai E 24 (fun _ => 0)), (q6, .inr (3, [.ref q7, .int 0])), (q7, kx_ai E 24 (fun _ => 0)), (q8, kx_ai E 24 (fun _ => 0)), (q9, kx_ai E 24 (fun _ => 0))]) (kx_sA w _ 0 _) ?_
  refine kx_aload_n d_C_init_124 rfl (by first | rfl | exact kx_rf _) ?_
  refine kx_get _ d_C_init_125 f_C_41 (by exact kx_gA w _ 0) (by rfl) ?_
  refine kx_iconst (-1) d_C_init_128 (by decide) ?_
  refine kx_callS (as := [.ref q8, .int (-1)]) (rest := []) d_C_init_129 s_C_48 rfl (by decide) (by decide) (by decide) (by decide) (by decide) rfl (m_A_fill (kx_gA w _ 30) (-1)) (fun X w1 h => by cases h.1) (fun v w1 hq9 => ?_)
  obtain ⟨hv, ⟨v9, hg1, hg2⟩, ho9⟩ := hq9
  cases hv
  have hw9 := kx_off_set ho9 hg1
  subst hw9
  refine kx_w (w1 := w ++ [(h, .inr (0, [.int (nI id), .int mask, .ref q1, .ref q4, .ref q6, .ref q8, .ref q9, .int 0, .int 0, .int 0, .int 0])), (q1, kx_aq E 4 2 (va_up (va_up (fun _ => none) 0 (some q2)) 1 (some q3))), (q2, .inr (1, [.int (nI (2 * id)), .ref (g 1), .ref (g 3), .ref (g 5), .ref q3, .null, .int (-1), .int 0, .int 0])), ((g 1), .inr (3, [.ref (g 2), .int 0])), ((g 2), kx_ai E 24 (fun _ => 0)), ((g 3), .inr (3, [.ref (g 4), .int 0])), ((g 4), kx_ai E 24 (fun _ => 0)), ((g 5), .inr (2, [.ref (g 6), .ref (g 8), .ref (g 10), .ref (g 11), .int 0, .int 0])), ((g 6), .inr (3, [.ref (g 7), .int 0])), ((g 7), kx_ai E 24 (fun _ => 0)), ((g 8), .inr (3, [.ref (g 9), .int 0])), ((g 9), kx_ai E 24 (fun _ => 0)), ((g 10), kx_ai E 24 (fun _ => 0)), ((g 11), kx_ai E 24 (fun _ => 0)), (q3, .inr (1, [.int (nI (2 * id + 1)), .ref (r 1), .ref (r 3), .ref (r 5), .ref q2, .null, .int (-1), .int 0, .int 0])), ((r 1), .inr (3, [.ref (r 2), .int 0])), ((r 2), kx_ai E 24 (fun _ => 0)), ((r 3), .inr (3, [.ref (r 4), .int 0])), ((r 4), kx_ai E 24 (fun _ => 0)), ((r 5), .inr (2, [.ref (r 6), .ref (r 8), .ref (r 10), .ref (r 11), .int 0, .int 0])), ((r 6), .inr (3, [.ref (r 7), .int 0])), ((r 7), kx_ai E 24 (fun _ => 0)), ((r 8), .inr (3, [.ref (r 9), .int 0])), ((r 9), kx_ai E 24 (fun _ => 0)), ((r 10), kx_ai E 24 (fun _ => 0)), ((r 11), kx_ai E 24 (fun _ => 0)), (q4, .inr (3, [.ref q5, .int 0])), (q5, kx_ai E 24 (fun _ => 0)), (q6, .inr (3, [.ref q7, .int 0])), (q7, kx_ai E 24 (fun _ => 0)), (q8, kx_ai E 24 v9), (q9, kx_ai E 24 (fun _ => 0))]) (kx_sA w _ 30 _) ?_
  refine kx_vret d_C_init_132 rfl (by decide) (by decide) ?_
  exact ⟨rfl, fun j => [0, q1, q2, g 1, g 2, g 3, g 4, g 5, g 6, g 7, g 8, g 9, g 10, g 11, q3, r 1, r 2, r 3, r 4, r 5, r 6, r 7, r 8, r 9, r 10, r 11, q4, q5, q6, q7, q8, q9].getD j 0, v9, hg2, rfl⟩
theorem d_B_init_0 : decode c_B_init 0 = .ok (.aload_n 0, 1) := by decide +kernel
theorem d_B_init_1 : decode c_B_init 1 = .ok (.invokespecial 1, 3) := by decide +kernel
theorem d_B_init_4 : decode c_B_init 4 = .ok (.aload_n 0, 1) := by decide +kernel
theorem d_B_init_5 : decode c_B_init 5 = .ok (.bipush 24, 2) := by decide +kernel
theorem d_B_init_7 : decode c_B_init 7 = .ok (.anewarray 9, 3) := by decide +kernel
theorem d_B_init_10 : decode c_B_init 10 = .ok (.putfield 11, 3) := by decide +kernel
theorem d_B_init_13 : decode c_B_init 13 = .ok (.aload_n 0, 1) := by decide +kernel
theorem d_B_init_14 : decode c_B_init 14 = .ok (.sipush 256, 3) := by decide +kernel
theorem d_B_init_17 : decode c_B_init 17 = .ok (.anewarray 9, 3) := by decide +kernel
theorem d_B_init_20 : decode c_B_init 20 = .ok (.putfield 15, 3) := by decide +kernel
theorem d_B_init_23 : decode c_B_init 23 = .ok (.aload_n 0, 1) := by decide +kernel
theorem d_B_init_24 : decode c_B_init 24 = .ok (.sipush 256, 3) := by decide +kernel
theorem d_B_init_27 : decode c_B_init 27 = .ok (.newarray .boolean, 2) := by decide +kernel
theorem d_B_init_29 : decode c_B_init 29 = .ok (.putfield 18, 3) := by decide +kernel
theorem d_B_init_32 : decode c_B_init 32 = .ok (.aload_n 0, 1) := by decide +kernel
theorem d_B_init_33 : decode c_B_init 33 = .ok (.new 22, 3) := by decide +kernel
theorem d_B_init_36 : decode c_B_init 36 = .ok (.dup, 1) := by decide +kernel
theorem d_B_init_37 : decode c_B_init 37 = .ok (.invokespecial 24, 3) := by decide +kernel
theorem d_B_init_40 : decode c_B_init 40 = .ok (.putfield 25, 3) := by decide +kernel
theorem d_B_init_43 : decode c_B_init 43 = .ok (.return_, 1) := by decide +kernel
def busK (E : kx_E) (h : Nat) (a : Nat → Nat) : va_W := [(h, .inr (4, [.ref (a 1), .ref (a 2), .ref (a 3), .ref (a 4), .int 0, .int 0, .int 0, .int 0, .int 0])), ((a 1), kx_aq E 3 24 (fun _ => none)), ((a 2), kx_aq E 3 256 (fun _ => none)), ((a 3), kx_az E 256 (fun _ => 0)), ((a 4), .inr (3, [.ref (a 5), .int 0])), ((a 5), kx_ai E 24 (fun _ => 0))]
set_option maxRecDepth 20000 in
set_option maxHeartbeats 4000000 in
theorem m_B_ini {E : kx_E} {w : va_W} {h : Nat} : kx_S E Y_B_init [.ref h] (w ++ [(h, .inr (4, [.null, .null, .null, .null, .int 0, .int 0, .int 0, .int 0, .int 0]))]) (fun o w1 => o = .inl none ∧ ∃ a : Nat → Nat, w1 = w ++ busK E h a) := by
  refine kx_go (by decide) rfl rfl (Nat.le_of_ble_eq_true rfl) (kx_cc rfl kx_c0) (fun z => ?_)
  refine kx_aload_n d_B_init_0 rfl (by first | rfl | exact kx_rf _) ?_
  refine kx_obj d_B_init_1 o_B_1 o_im o_cd (by decide) ?_
  refine kx_aload_n d_B_init_4 rfl (by first | rfl | exact kx_rf _) ?_
  refine kx_bipush (nI 24) d_B_init_5 (by decide) ?_
  refine kx_newq (t := 3) (n := 24) d_B_init_7 q_B_9 (fun U h => h.2.2.2.2.2.1) rfl (by decide) (by decide) (by decide) (by decide) (fun q1 => ?_)
  refine kx_w (w1 := w ++ [(h, .inr (4, [.null, .null, .null, .null, .int 0, .int 0, .int 0, .int 0, .int 0])), (q1, kx_aq E 3 24 (fun _ => none))]) (kx_aA w _ _) ?_
  refine kx_putF d_B_init_10 f_B_11 (p_B_0 _) rfl rfl rfl (by exact kx_gA w _ 0) (Nat.le_of_ble_eq_true rfl) ?_
  refine kx_w (w1 := w ++ [(h, .inr (4, [.ref q1, .null, .null, .null, .int 0, .int 0, .int 0, .int 0, .int 0])), (q1, kx_aq E 3 24 (fun _ => none))]) (kx_sA w _ 0 _) ?_
  refine kx_aload_n d_B_init_13 rfl (by first | rfl | exact kx_rf _) ?_
  refine kx_sipush (nI 256) d_B_init_14 (by decide) ?_
  refine kx_newq (t := 3) (n := 256) d_B_init_17 q_B_9 (fun U h => h.2.2.2.2.2.1) rfl (by decide) (by decide) (by decide) (by decide) (fun q2 => ?_)
  refine kx_w (w1 := w ++ [(h, .inr (4, [.ref q1, .null, .null, .null, .int 0, .int 0, .int 0, .int 0, .int 0])), (q1, kx_aq E 3 24 (fun _ => none)), (q2, kx_aq E 3 256 (fun _ => none))]) (kx_aA w _ _) ?_
  refine kx_putF d_B_init_20 f_B_15 (p_B_1 _) rfl rfl rfl (by exact kx_gA w _ 0) (Nat.le_of_ble_eq_true rfl) ?_
  refine kx_w (w1 := w ++ [(h, .inr (4, [.ref q1, .ref q2, .null, .null, .int 0, .int 0, .int 0, .int 0, .int 0])), (q1, kx_aq E 3 24 (fun _ => none)), (q2, kx_aq E 3 256 (fun _ => none))]) (kx_sA w _ 0 _) ?_
  refine kx_aload_n d_B_init_23 rfl (by first | rfl | exact kx_rf _) ?_
  refine kx_sipush (nI 256) d_B_init_24 (by decide) ?_
  refine kx_newa (t := 1) (n := 256) (256, .inl (fun _ => 0)) d_B_init_27 ac_boolean rfl rfl (fun cA => rfl) (by decide) (by decide) (by decide) (by decide) (fun q3 => ?_)
  refine kx_w (w1 := w ++ [(h, .inr (4, [.ref q1, .ref q2, .null, .null, .int 0, .int 0, .int 0, .int 0, .int 0])), (q1, kx_aq E 3 24 (fun _ => none)), (q2, kx_aq E 3 256 (fun _ => none)), (q3, kx_az E 256 (fun _ => 0))]) (kx_aA w _ _) ?_
  refine kx_putF d_B_init_29 f_B_18 (p_B_2 _) rfl rfl rfl (by exact kx_gA w _ 0) (Nat.le_of_ble_eq_true rfl) ?_
  refine kx_w (w1 := w ++ [(h, .inr (4, [.ref q1, .ref q2, .ref q3, .null, .int 0, .int 0, .int 0, .int 0, .int 0])), (q1, kx_aq E 3 24 (fun _ => none)), (q2, kx_aq E 3 256 (fun _ => none)), (q3, kx_az E 256 (fun _ => 0))]) (kx_sA w _ 0 _) ?_
  refine kx_aload_n d_B_init_32 rfl (by first | rfl | exact kx_rf _) ?_
  refine kx_new d_B_init_33 n_B_22 (by decide) (by decide) (fun q4 => ?_)
  refine kx_w (w1 := w ++ [(h, .inr (4, [.ref q1, .ref q2, .ref q3, .null, .int 0, .int 0, .int 0, .int 0, .int 0])), (q1, kx_aq E 3 24 (fun _ => none)), (q2, kx_aq E 3 256 (fun _ => none)), (q3, kx_az E 256 (fun _ => 0)), (q4, .inr (3, [.null, .int 0]))]) (kx_aA w _ _) ?_
  refine kx_dup d_B_init_36 (by first | rfl | exact kx_rfc _) ?_
  refine kx_w (kx_aA w [(h, .inr (4, [.ref q1, .ref q2, .ref q3, .null, .int 0, .int 0, .int 0, .int 0, .int 0])), (q1, kx_aq E 3 24 (fun _ => none)), (q2, kx_aq E 3 256 (fun _ => none)), (q3, kx_az E 256 (fun _ => 0))] [(q4, .inr (3, [.null, .int 0]))]).symm ?_
  refine kx_callI (as := []) (rest := [.ref q4, .ref h]) d_B_init_37 i_B_24 rfl (by decide) (by decide) (Nat.le_of_ble_eq_true rfl) (by decide) (by decide) rfl m_R_ini (fun X w1 h => by cases h.1) (fun v w1 hq9 => ?_)
  obtain ⟨hv, q5, hw9⟩ := hq9
  cases hv
  subst hw9
  refine kx_w (w1 := w ++ [(h, .inr (4, [.ref q1, .ref q2, .ref q3, .null, .int 0, .int 0, .int 0, .int 0, .int 0])), (q1, kx_aq E 3 24 (fun _ => none)), (q2, kx_aq E 3 256 (fun _ => none)), (q3, kx_az E 256 (fun _ => 0)), (q4, .inr (3, [.ref q5, .int 0])), (q5, kx_ai E 24 (fun _ => 0))]) (kx_aA w _ _) ?_
  refine kx_putF d_B_init_40 f_B_25 (p_B_3 _) rfl rfl rfl (by exact kx_gA w _ 0) (Nat.le_of_ble_eq_true rfl) ?_
  refine kx_w (w1 := w ++ [(h, .inr (4, [.ref q1, .ref q2, .ref q3, .ref q4, .int 0, .int 0, .int 0, .int 0, .int 0])), (q1, kx_aq E 3 24 (fun _ => none)), (q2, kx_aq E 3 256 (fun _ => none)), (q3, kx_az E 256 (fun _ => 0)), (q4, .inr (3, [.ref q5, .int 0])), (q5, kx_ai E 24 (fun _ => 0))]) (kx_sA w _ 0 _) ?_
  refine kx_vret d_B_init_43 rfl (by decide) (by decide) ?_
  exact ⟨rfl, fun j => [0, q1, q2, q3, q4, q5].getD j 0, rfl⟩
end
section
/-! A car more -/
def gAd (n : Nat) (ad a : Nat → Nat) : Nat → Nat := fun x => if x < 34 + 32 * n then ad x else a (x - (34 + 32 * n))
def gL (n : Nat) (L : Nat → List Nat) : Nat → List Nat := fun x => if x < 34 + 32 * n then L x else []
def gV (n : Nat) (V : Nat → Nat → Int32) : Nat → Nat → Int32 := fun x => if x < 34 + 32 * n then V x else if x = 34 + 32 * n + 30 then fun _ => -1 else fun _ => 0
def gK (id : Nat) (mask : Int32) (x k : Nat) : Int32 := if x = 0 then (if k = 0 then nI id else if k = 1 then mask else 0) else if x = 2 then (if k = 0 then nI (2 * id) else if k = 6 then -1 else 0) else if x = 14 then (if k = 0 then nI (2 * id + 1) else if k = 6 then -1 else 0) else 0
def gS (n : Nat) (S : Nat → Nat → Int32) (id : Nat) (mask : Int32) : Nat → Nat → Int32 := fun x => if x < 34 + 32 * n then S x else gK id mask (x - (34 + 32 * n))
def gP (n : Nat) (pe : Nat → Option Nat) : Nat → Option Nat := fun x => if x < 34 + 32 * n then pe x else none
theorem gAd_o {n : Nat} {ad a : Nat → Nat} {x : Nat} (h : x < 34 + 32 * n) : gAd n ad a x = ad x := if_pos h
theorem gAd_n {n : Nat} {ad a : Nat → Nat} (k : Nat) : gAd n ad a (carB n + k) = a k := by
  unfold gAd
  rw [if_neg (by simp only [carB]; omega)]
  congr 1
  simp only [carB]; omega
theorem gL_o {n : Nat} {L : Nat → List Nat} {x : Nat} (h : x < 34 + 32 * n) : gL n L x = L x := if_pos h
theorem gL_n {n : Nat} {L : Nat → List Nat} (k : Nat) : gL n L (carB n + k) = [] := if_neg (by simp only [carB]; omega)
theorem gV_o {n : Nat} {V : Nat → Nat → Int32} {x : Nat} (h : x < 34 + 32 * n) : gV n V x = V x := if_pos h
theorem gV_n {n : Nat} {V : Nat → Nat → Int32} (k : Nat) : gV n V (carB n + k) = if k = 30 then fun _ => -1 else fun _ => 0 := by
  unfold gV
  rw [if_neg (by simp only [carB]; omega)]
  by_cases h : k = 30
  · rw [if_pos (by simp only [carB]; omega), if_pos h]
  · rw [if_neg (by simp only [carB]; omega), if_neg h]
theorem gS_o {n : Nat} {S : Nat → Nat → Int32} {id : Nat} {mask : Int32} {x : Nat} (h : x < 34 + 32 * n) : gS n S id mask x = S x := if_pos h
theorem gS_n {n : Nat} {S : Nat → Nat → Int32} {id : Nat} {mask : Int32} (k : Nat) : gS n S id mask (carB n + k) = gK id mask k := by
  unfold gS
  rw [if_neg (by simp only [carB]; omega)]
  congr 1
  simp only [carB]; omega
theorem gP_o {n : Nat} {pe : Nat → Option Nat} {x : Nat} (h : x < 34 + 32 * n) : gP n pe x = pe x := if_pos h
theorem gP_n {n : Nat} {pe : Nat → Option Nat} (k : Nat) : gP n pe (carB n + k) = none := if_neg (by simp only [carB]; omega)
theorem endN_lt {n e : Nat} (h : endN n e) : e + 12 ≤ 34 + 32 * n := by unfold endN at h; omega
theorem rowN_lt {n x : Nat} (h : rowN n x) : x + 1 < 34 + 32 * n := by unfold rowN at h; omega
theorem intN_lt {n x : Nat} (h : intN n x) : x < 34 + 32 * n := by unfold intN at h; omega
theorem carB_lt {n c k : Nat} (h : c < n) (hk : k < 32) : carB c + k < 34 + 32 * n := by simp only [carB]; omega
theorem carC_o {n : Nat} {ad a : Nat → Nat} {S : Nat → Nat → Int32} {id : Nat} {mask : Int32} {c : Nat} (h : c < n) : carC (gAd n ad a) (gS n S id mask) (carB c) = carC ad S (carB c) := by
  unfold carC
  rw [gAd_o (carB_lt h (by decide)), gAd_o (carB_lt h (by decide)), gAd_o (carB_lt h (by decide)), gAd_o (carB_lt h (by decide)), gAd_o (carB_lt h (by decide)), gS_o (x := carB c) (carB_lt (k := 0) h (by decide))]
theorem mapO {pe : Nat → Option Nat} {ad ad' : Nat → Nat} {e : Nat} (h : ∀ q, pe e = some q → ad' q = ad q) : (pe e).map ad' = (pe e).map ad := by
  cases hq : pe e with
  | none => rfl
  | some q => exact congrArg some (h q hq)
theorem endC_o {n : Nat} {ad a : Nat → Nat} {S : Nat → Nat → Int32} {pe : Nat → Option Nat} {id : Nat} {mask : Int32} {e o : Nat} (hp : peOk n pe) (he : endN n e) (ho : o < 34 + 32 * n) : endC (gAd n ad a) (gS n S id mask) (gP n pe) e o = endC ad S pe e o := by
  have hl := endN_lt he
  unfold endC
  rw [gAd_o (by omega), gAd_o (by omega), gAd_o (by omega), gAd_o ho, gS_o (by omega), gP_o (by omega), mapO (fun q hq => gAd_o (by have := endN_lt (hp e q he hq); omega))]
theorem frmC_o {n : Nat} {ad a : Nat → Nat} {S : Nat → Nat → Int32} {id : Nat} {mask : Int32} {e : Nat} (he : endN n e) : frmC (gAd n ad a) (gS n S id mask) (e + 5) = frmC ad S (e + 5) := by
  have hl := endN_lt he
  unfold frmC
  rw [gAd_o (by omega), gAd_o (by omega), gAd_o (by omega), gAd_o (by omega), gS_o (by omega)]
theorem carC_n {n : Nat} {ad a : Nat → Nat} {S : Nat → Nat → Int32} {id : Nat} {mask : Int32} : carC (gAd n ad a) (gS n S id mask) (carB n) = .inr (0, [.int (nI id), .int mask, .ref (a 1), .ref (a 26), .ref (a 28), .ref (a 30), .ref (a 31), .int 0, .int 0, .int 0, .int 0]) := by
  unfold carC
  rw [gAd_n, gAd_n, gAd_n, gAd_n, gAd_n, show gS n S id mask (carB n) = gK id mask 0 from gS_n 0]
  rfl
theorem endC_n0 {n : Nat} {ad a : Nat → Nat} {S : Nat → Nat → Int32} {pe : Nat → Option Nat} {id : Nat} {mask : Int32} : endC (gAd n ad a) (gS n S id mask) (gP n pe) (carB n + 2) (carB n + 14) = .inr (1, [.int (nI (2 * id)), .ref (a 3), .ref (a 5), .ref (a 7), .ref (a 14), .null, .int (-1), .int 0, .int 0]) := by
  unfold endC
  rw [show gAd n ad a (carB n + 2 + 1) = a 3 from gAd_n 3, show gAd n ad a (carB n + 2 + 3) = a 5 from gAd_n 5, show gAd n ad a (carB n + 2 + 5) = a 7 from gAd_n 7, gAd_n, gS_n, gP_n]
  rfl
theorem endC_n1 {n : Nat} {ad a : Nat → Nat} {S : Nat → Nat → Int32} {pe : Nat → Option Nat} {id : Nat} {mask : Int32} : endC (gAd n ad a) (gS n S id mask) (gP n pe) (carB n + 14) (carB n + 2) = .inr (1, [.int (nI (2 * id + 1)), .ref (a 15), .ref (a 17), .ref (a 19), .ref (a 2), .null, .int (-1), .int 0, .int 0]) := by
  unfold endC
  rw [show gAd n ad a (carB n + 14 + 1) = a 15 from gAd_n 15, show gAd n ad a (carB n + 14 + 3) = a 17 from gAd_n 17, show gAd n ad a (carB n + 14 + 5) = a 19 from gAd_n 19, gAd_n, gS_n, gP_n]
  rfl
theorem frmC_n {n k : Nat} {ad a : Nat → Nat} {S : Nat → Nat → Int32} {id : Nat} {mask : Int32} (hk : k = 7 ∨ k = 19) : frmC (gAd n ad a) (gS n S id mask) (carB n + k) = .inr (2, [.ref (a (k + 1)), .ref (a (k + 3)), .ref (a (k + 5)), .ref (a (k + 6)), .int 0, .int 0]) := by
  unfold frmC
  rw [show gAd n ad a (carB n + k + 1) = a (k + 1) from gAd_n (k + 1), show gAd n ad a (carB n + k + 3) = a (k + 3) from gAd_n (k + 3), show gAd n ad a (carB n + k + 5) = a (k + 5) from gAd_n (k + 5), show gAd n ad a (carB n + k + 6) = a (k + 6) from gAd_n (k + 6), gS_n]
  rcases hk with rfl | rfl <;> rfl
theorem kx_apL {w K : va_W} {i : Nat} {c : Nat × va_E} (h : w[i]? = some c) : (w ++ K)[i]? = some c := by
  rw [List.getElem?_append_left (List.getElem?_eq_some_iff.mp h).1]; exact h
theorem RowAt.apL {E : kx_E} {w K : va_W} {x y h a : Nat} {l : List Nat} (hR : RowAt E w x y h a l) : RowAt E (w ++ K) x y h a l := by
  obtain ⟨h1, ⟨f, h2, h3⟩, h4⟩ := hR
  exact ⟨kx_apL h1, ⟨f, kx_apL h2, h3⟩, h4⟩
section GROW
variable {E : kx_E} {w : va_W} {n : Nat} {K : va_W} {ad a : Nat → Nat} {S : Nat → Nat → Int32} {id : Nat} {mask : Int32}
theorem g_cell (hl : w.length = 34 + 32 * n) (k : Nat) {c : va_E} (h : K[k]? = some (a k, c)) : (w ++ K)[carB n + k]? = some (gAd n ad a (carB n + k), c) := by
  rw [gAd_n, ← h, show carB n + k = w.length + k by rw [hl]]
  exact kx_gA w K k
theorem g_row (hl : w.length = 34 + 32 * n) (k : Nat) (h : K[k]? = some (a k, .inr (3, [.ref (a (k + 1)), .int 0]))) (h1 : K[k + 1]? = some (a (k + 1), kx_ai E 24 (fun _ => 0))) (x : Nat) (hx : x = carB n + k) {L : Nat → List Nat} : RowAt E (w ++ K) x (x + 1) (gAd n ad a x) (gAd n ad a (x + 1)) (gL n L x) := by
  subst hx
  rw [gL_n]
  refine ⟨?_, ⟨_, g_cell hl (k + 1) h1, fun j hj => absurd hj (Nat.not_lt_zero _)⟩, Nat.zero_le _, fun v hv => by cases hv⟩
  rw [show gAd n ad a (carB n + k + 1) = a (k + 1) from gAd_n (k + 1)]
  exact g_cell hl k h
end GROW
set_option maxHeartbeats 2000000 in
theorem Cls.grow {E : kx_E} {w w' : va_W} {n : Nat} {ad a : Nat → Nat} {L : Nat → List Nat} {V S : Nat → Nat → Int32} {pe bi bi' : Nat → Option Nat} {id : Nat} {mask : Int32} {v : Nat → Int32} (h : Cls E w n ad L V S pe bi) (hp : peOk n pe) {S' : Nat → Nat → Int32} (hS : ∀ x, x ≠ 0 → S' x = S x)
    (ho : kx_off w w' (fun x => x < 3)) (h0 : w'[0]? = some (ad 0, busC ad S')) (h1 : ∃ f, w'[1]? = some (ad 1, kx_aq E 3 24 f) ∧ ∀ c, c < n + 1 → f c = some (gAd n ad a (carB c))) (h2 : ∃ f, w'[2]? = some (ad 2, kx_aq E 3 256 f) ∧ ∀ i, i < 256 → f i = (bi' i).map (fun c => gAd n ad a (carB c))) (hv : ∀ i, i < 24 → v i = -1) :
    Cls E (w' ++ carK E (a 0) a id mask v) (n + 1) (gAd n ad a) (gL n L) (gV n V) (gS n S' id mask) (gP n pe) bi' := by
  have hl : w'.length = 34 + 32 * n := by rw [ho.1]; exact h.len
  have s0 : ∀ x, x < 34 → x < 34 + 32 * n := fun x hx => by omega
  refine ⟨?_, ?_, ?_, ?_, ?_, ?_, ?_, ?_, ?_, ?_, ?_, ?_⟩
  · rw [List.length_append, hl]; show 34 + 32 * n + 32 = _; omega
  · have e : busC (gAd n ad a) (gS n S' id mask) = busC ad S' := by
      unfold busC
      rw [gAd_o (s0 1 (by decide)), gAd_o (s0 2 (by decide)), gAd_o (s0 3 (by decide)), gAd_o (s0 4 (by decide)), gS_o (s0 0 (by decide))]
    rw [e, gAd_o (s0 0 (by decide))]
    exact kx_apL h0
  · obtain ⟨f, g1, g2⟩ := h1
    rw [gAd_o (s0 1 (by decide))]
    exact ⟨f, kx_apL g1, g2⟩
  · obtain ⟨f, g1, g2⟩ := h2
    rw [gAd_o (s0 2 (by decide))]
    exact ⟨f, kx_apL g1, g2⟩
  · obtain ⟨f, g1, g2⟩ := h.marks
    rw [gAd_o (s0 3 (by decide))]
    exact ⟨f, kx_apL (ho.at (by decide) g1), g2⟩
  · intro x hx
    by_cases hx0 : x < 34 + 32 * n
    · have hx1 : rowN n x := by unfold rowN at hx ⊢; omega
      have hx2 := rowN_lt hx1
      have hx3 : 3 ≤ x := by unfold rowN at hx1; omega
      rw [gAd_o hx0, gAd_o hx2, gL_o hx0]
      exact ((h.row x hx1).off ho (by omega) (by omega)).apL
    · have hx1 : x = carB n + 3 ∨ x = carB n + 5 ∨ x = carB n + 8 ∨ x = carB n + 10 ∨ x = carB n + 15 ∨ x = carB n + 17 ∨ x = carB n + 20 ∨ x = carB n + 22 ∨ x = carB n + 26 ∨ x = carB n + 28 := by unfold rowN at hx; simp only [carB]; omega
      rcases hx1 with e | e | e | e | e | e | e | e | e | e
      · exact g_row hl 3 rfl rfl x e
      · exact g_row hl 5 rfl rfl x e
      · exact g_row hl 8 rfl rfl x e
      · exact g_row hl 10 rfl rfl x e
      · exact g_row hl 15 rfl rfl x e
      · exact g_row hl 17 rfl rfl x e
      · exact g_row hl 20 rfl rfl x e
      · exact g_row hl 22 rfl rfl x e
      · exact g_row hl 26 rfl rfl x e
      · exact g_row hl 28 rfl rfl x e
  · intro c hc
    by_cases e : c < n
    · rw [carC_o e, gAd_o (x := carB c) (carB_lt (k := 0) e (by decide))]
      have hS1 := hS (carB c) (by simp only [carB]; omega)
      unfold carC
      rw [hS1]
      exact kx_apL (ho.at (by simp only [carB]; omega) (h.car c e))
    · have e : c = n := by omega
      subst e
      rw [carC_n]
      exact g_cell hl 0 rfl
  · intro c hc
    by_cases e : c < n
    · obtain ⟨f, g1, g2, g3⟩ := h.arr c e
      rw [gAd_o (carB_lt e (by decide)), gAd_o (carB_lt e (by decide)), gAd_o (carB_lt e (by decide))]
      exact ⟨f, kx_apL (ho.at (by simp only [carB]; omega) g1), g2, g3⟩
    · have e : c = n := by omega
      subst e
      rw [gAd_n 2, gAd_n 14]
      exact ⟨_, g_cell hl 1 rfl, rfl, rfl⟩
  · intro c hc
    by_cases e : c < n
    · rw [endC_o hp (end0N e) (carB_lt e (by decide)), gAd_o (carB_lt e (by decide))]
      have hS1 := hS (carB c + 2) (by simp only [carB]; omega)
      unfold endC
      rw [hS1]
      exact kx_apL (ho.at (by simp only [carB]; omega) (h.end0 c e))
    · have e : c = n := by omega
      subst e
      rw [endC_n0]
      exact g_cell hl 2 rfl
  · intro c hc
    by_cases e : c < n
    · rw [endC_o hp (end1N e) (carB_lt e (by decide)), gAd_o (carB_lt e (by decide))]
      have hS1 := hS (carB c + 14) (by simp only [carB]; omega)
      unfold endC
      rw [hS1]
      exact kx_apL (ho.at (by simp only [carB]; omega) (h.end1 c e))
    · have e : c = n := by omega
      subst e
      rw [endC_n1]
      exact g_cell hl 14 rfl
  · intro e he
    by_cases e0 : endN n e
    · have hlt := endN_lt e0
      have h34 : 34 ≤ e := e0.1
      rw [frmC_o e0, gAd_o (by omega)]
      have hS1 := hS (e + 5) (by omega)
      unfold frmC
      rw [hS1]
      exact kx_apL (ho.at (by omega) (h.frm e e0))
    · have e1 : e = carB n + 2 ∨ e = carB n + 14 := by unfold endN at he e0; simp only [carB]; omega
      rcases e1 with rfl | rfl
      · show (w' ++ _)[carB n + 7]? = some (gAd n ad a (carB n + 7), frmC (gAd n ad a) (gS n S' id mask) (carB n + 7))
        rw [frmC_n (Or.inl rfl)]
        exact g_cell hl 7 rfl
      · show (w' ++ _)[carB n + 19]? = some (gAd n ad a (carB n + 19), frmC (gAd n ad a) (gS n S' id mask) (carB n + 19))
        rw [frmC_n (Or.inr rfl)]
        exact g_cell hl 19 rfl
  · intro x hx
    by_cases e0 : intN n x
    · have hlt := intN_lt e0
      have h34 : 34 ≤ x := e0.1
      obtain ⟨g, g1, g2⟩ := h.int x e0
      rw [gAd_o hlt, gV_o hlt]
      exact ⟨g, kx_apL (ho.at (by omega) g1), g2⟩
    · have hx1 : x = carB n + 12 ∨ x = carB n + 13 ∨ x = carB n + 24 ∨ x = carB n + 25 ∨ x = carB n + 30 ∨ x = carB n + 31 := by unfold intN at hx e0; simp only [carB]; omega
      rcases hx1 with rfl | rfl | rfl | rfl | rfl | rfl
      · rw [gV_n]; exact ⟨_, g_cell hl 12 rfl, fun i hi => rfl⟩
      · rw [gV_n]; exact ⟨_, g_cell hl 13 rfl, fun i hi => rfl⟩
      · rw [gV_n]; exact ⟨_, g_cell hl 24 rfl, fun i hi => rfl⟩
      · rw [gV_n]; exact ⟨_, g_cell hl 25 rfl, fun i hi => rfl⟩
      · rw [gV_n]; exact ⟨_, g_cell hl 30 rfl, fun i hi => hv i hi⟩
      · rw [gV_n]; exact ⟨_, g_cell hl 31 rfl, fun i hi => rfl⟩
end
section
/-! ConsistBus.add -/
theorem d_B_add_0 : decode c_B_add 0 = .ok (.iload_n 1, 1) := by decide +kernel
theorem d_B_add_1 : decode c_B_add 1 = .ok (.iconst 1, 1) := by decide +kernel
theorem d_B_add_2 : decode c_B_add 2 = .ok (.if_icmp .lt 20, 3) := by decide +kernel
theorem d_B_add_5 : decode c_B_add 5 = .ok (.iload_n 1, 1) := by decide +kernel
theorem d_B_add_6 : decode c_B_add 6 = .ok (.sipush 255, 3) := by decide +kernel
theorem d_B_add_9 : decode c_B_add 9 = .ok (.if_icmp .gt 13, 3) := by decide +kernel
theorem d_B_add_12 : decode c_B_add 12 = .ok (.iload_n 2, 1) := by decide +kernel
theorem d_B_add_13 : decode c_B_add 13 = .ok (.ifCond .lt 9, 3) := by decide +kernel
theorem d_B_add_16 : decode c_B_add 16 = .ok (.iload_n 2, 1) := by decide +kernel
theorem d_B_add_17 : decode c_B_add 17 = .ok (.ldc 29, 2) := by decide +kernel
theorem d_B_add_19 : decode c_B_add 19 = .ok (.if_icmp .le 13, 3) := by decide +kernel
theorem d_B_add_22 : decode c_B_add 22 = .ok (.new 30, 3) := by decide +kernel
theorem d_B_add_25 : decode c_B_add 25 = .ok (.dup, 1) := by decide +kernel
theorem d_B_add_26 : decode c_B_add 26 = .ok (.ldc 32, 2) := by decide +kernel
theorem d_B_add_28 : decode c_B_add 28 = .ok (.invokespecial 34, 3) := by decide +kernel
theorem d_B_add_31 : decode c_B_add 31 = .ok (.athrow, 1) := by decide +kernel
theorem d_B_add_32 : decode c_B_add 32 = .ok (.aload_n 0, 1) := by decide +kernel
theorem d_B_add_33 : decode c_B_add 33 = .ok (.getfield 15, 3) := by decide +kernel
theorem d_B_add_36 : decode c_B_add 36 = .ok (.iload_n 1, 1) := by decide +kernel
theorem d_B_add_37 : decode c_B_add 37 = .ok (.aaload, 1) := by decide +kernel
theorem d_B_add_38 : decode c_B_add 38 = .ok (.ifnonnull 12, 3) := by decide +kernel
theorem d_B_add_41 : decode c_B_add 41 = .ok (.aload_n 0, 1) := by decide +kernel
theorem d_B_add_42 : decode c_B_add 42 = .ok (.getfield 37, 3) := by decide +kernel
theorem d_B_add_45 : decode c_B_add 45 = .ok (.bipush 24, 2) := by decide +kernel
theorem d_B_add_47 : decode c_B_add 47 = .ok (.if_icmp .lt 13, 3) := by decide +kernel
theorem d_B_add_50 : decode c_B_add 50 = .ok (.new 41, 3) := by decide +kernel
theorem d_B_add_53 : decode c_B_add 53 = .ok (.dup, 1) := by decide +kernel
theorem d_B_add_54 : decode c_B_add 54 = .ok (.ldc 43, 2) := by decide +kernel
theorem d_B_add_56 : decode c_B_add 56 = .ok (.invokespecial 45, 3) := by decide +kernel
theorem d_B_add_59 : decode c_B_add 59 = .ok (.athrow, 1) := by decide +kernel
theorem d_B_add_60 : decode c_B_add 60 = .ok (.new 9, 3) := by decide +kernel
theorem d_B_add_63 : decode c_B_add 63 = .ok (.dup, 1) := by decide +kernel
theorem d_B_add_64 : decode c_B_add 64 = .ok (.iload_n 1, 1) := by decide +kernel
theorem d_B_add_65 : decode c_B_add 65 = .ok (.iload_n 2, 1) := by decide +kernel
theorem d_B_add_66 : decode c_B_add 66 = .ok (.invokespecial 46, 3) := by decide +kernel
theorem d_B_add_69 : decode c_B_add 69 = .ok (.astore_n 3, 1) := by decide +kernel
theorem d_B_add_70 : decode c_B_add 70 = .ok (.aload_n 0, 1) := by decide +kernel
theorem d_B_add_71 : decode c_B_add 71 = .ok (.getfield 15, 3) := by decide +kernel
theorem d_B_add_74 : decode c_B_add 74 = .ok (.iload_n 1, 1) := by decide +kernel
theorem d_B_add_75 : decode c_B_add 75 = .ok (.aload_n 3, 1) := by decide +kernel
theorem d_B_add_76 : decode c_B_add 76 = .ok (.aastore, 1) := by decide +kernel
theorem d_B_add_77 : decode c_B_add 77 = .ok (.aload_n 0, 1) := by decide +kernel
theorem d_B_add_78 : decode c_B_add 78 = .ok (.getfield 11, 3) := by decide +kernel
theorem d_B_add_81 : decode c_B_add 81 = .ok (.aload_n 0, 1) := by decide +kernel
theorem d_B_add_82 : decode c_B_add 82 = .ok (.getfield 37, 3) := by decide +kernel
theorem d_B_add_85 : decode c_B_add 85 = .ok (.aload_n 3, 1) := by decide +kernel
theorem d_B_add_86 : decode c_B_add 86 = .ok (.aastore, 1) := by decide +kernel
theorem d_B_add_87 : decode c_B_add 87 = .ok (.aload_n 0, 1) := by decide +kernel
theorem d_B_add_88 : decode c_B_add 88 = .ok (.dup, 1) := by decide +kernel
theorem d_B_add_89 : decode c_B_add 89 = .ok (.getfield 37, 3) := by decide +kernel
theorem d_B_add_92 : decode c_B_add 92 = .ok (.iconst 1, 1) := by decide +kernel
theorem d_B_add_93 : decode c_B_add 93 = .ok (.iadd, 1) := by decide +kernel
theorem d_B_add_94 : decode c_B_add 94 = .ok (.putfield 37, 3) := by decide +kernel
theorem d_B_add_97 : decode c_B_add 97 = .ok (.aload_n 0, 1) := by decide +kernel
theorem d_B_add_98 : decode c_B_add 98 = .ok (.getfield 37, 3) := by decide +kernel
theorem d_B_add_101 : decode c_B_add 101 = .ok (.ireturn, 1) := by decide +kernel
set_option maxRecDepth 20000 in
set_option maxHeartbeats 4000000 in
theorem m_B_add_bad {E : kx_E} {w : va_W} {n : Nat} {ad : Nat → Nat} {L : Nat → List Nat} {V S : Nat → Nat → Int32} {pe bi : Nat → Option Nat} (hC : Cls E w n ad L V S pe bi) {id mask : Int32} (hv : id < nI 1 ∨ nI 255 < id ∨ mask < 0 ∨ nI 65535 < mask) : kx_S E Y_B_add [.ref (ad 0), .int id, .int mask] w (fun o w1 => o = .inr kx_iae ∧ w1 = w) := by
  refine kx_go (by decide) rfl rfl (Nat.le_of_ble_eq_true rfl) (kx_cc rfl (kx_cc rfl (kx_cc rfl kx_c0))) (fun z => ?_)
  have hO : kx_off w w clsN := kx_off.rf
  refine kx_iload_n d_B_add_0 rfl ?_
  refine kx_iconst (nI 1) d_B_add_1 (by decide) ?_
  refine kx_icmp_lt 22 d_B_add_2 (by decide) ?_ ?_
  · intro h2
    exact kx_throw d_B_add_22 d_B_add_25 d_B_add_26 d_B_add_28 d_B_add_31 t_B_32 rfl (by decide) (Nat.le_of_ble_eq_true rfl) (by decide) (by decide) ⟨rfl, rfl⟩
  · intro h2
    refine kx_iload_n d_B_add_5 rfl ?_
    refine kx_sipush (nI 255) d_B_add_6 (by decide) ?_
    refine kx_icmp_gt 22 d_B_add_9 (by decide) ?_ ?_
    · intro h9
      exact kx_throw d_B_add_22 d_B_add_25 d_B_add_26 d_B_add_28 d_B_add_31 t_B_32 rfl (by decide) (Nat.le_of_ble_eq_true rfl) (by decide) (by decide) ⟨rfl, rfl⟩
    · intro h9
      refine kx_iload_n d_B_add_12 rfl ?_
      refine kx_if_lt 22 d_B_add_13 (by decide) ?_ ?_
      · intro h13
        exact kx_throw d_B_add_22 d_B_add_25 d_B_add_26 d_B_add_28 d_B_add_31 t_B_32 rfl (by decide) (Nat.le_of_ble_eq_true rfl) (by decide) (by decide) ⟨rfl, rfl⟩
      · intro h13
        refine kx_iload_n d_B_add_16 rfl ?_
        refine kx_ldci (nI 65535) d_B_add_17 ic_B_29 ?_
        refine kx_icmp_le 32 d_B_add_19 (by decide) ?_ ?_
        · intro h19
          exact absurd hv (by rintro (h | h | h | h); exact h2 h; exact h9 h; exact h13 h; exact absurd h19 (i32_nle.mpr h))
        · intro h19
          exact kx_throw d_B_add_22 d_B_add_25 d_B_add_26 d_B_add_28 d_B_add_31 t_B_32 rfl (by decide) (Nat.le_of_ble_eq_true rfl) (by decide) (by decide) ⟨rfl, rfl⟩
set_option maxRecDepth 20000 in
set_option maxHeartbeats 4000000 in
theorem m_B_add_full {E : kx_E} {w : va_W} {n : Nat} {ad : Nat → Nat} {L : Nat → List Nat} {V S : Nat → Nat → Int32} {pe bi : Nat → Option Nat} (hC : Cls E w n ad L V S pe bi) {id mask : Nat} (h1 : 1 ≤ id) (h2 : id ≤ 255) (h3 : mask ≤ 65535) (h24 : n ≤ 24) (hn : S 0 4 = nI n) (hb : bi id ≠ none ∨ 24 ≤ n) : kx_S E Y_B_add [.ref (ad 0), .int (nI id), .int (nI mask)] w (fun o w1 => o = .inr kx_ise ∧ w1 = w) := by
  refine kx_go (by decide) rfl rfl (Nat.le_of_ble_eq_true rfl) (kx_cc rfl (kx_cc rfl (kx_cc rfl kx_c0))) (fun z => ?_)
  have hO : kx_off w w clsN := kx_off.rf
  refine kx_iload_n d_B_add_0 rfl ?_
  refine kx_iconst (nI 1) d_B_add_1 (by decide) ?_
  first | refine kx_icmp_lt_n 22 d_B_add_2 (by decide) (by omega) (by omega) ?_ ?_ | refine kx_icmp_lt 22 d_B_add_2 (by decide) ?_ ?_
  · intro h2
    first
      | exact absurd h2 (by omega)
      | exact absurd h9 (by omega)
      | exact absurd h19 (by omega)
  · intro h2
    refine kx_iload_n d_B_add_5 rfl ?_
    refine kx_sipush (nI 255) d_B_add_6 (by decide) ?_
    first | refine kx_icmp_gt_n 22 d_B_add_9 (by decide) (by omega) (by omega) ?_ ?_ | refine kx_icmp_gt 22 d_B_add_9 (by decide) ?_ ?_
    · intro h9
      first
        | exact absurd h2 (by omega)
        | exact absurd h9 (by omega)
        | exact absurd h19 (by omega)
    · intro h9
      refine kx_iload_n d_B_add_12 rfl ?_
      refine kx_if_lt_n 22 d_B_add_13 (by decide) (by omega) ?_
      refine kx_iload_n d_B_add_16 rfl ?_
      refine kx_ldci (nI 65535) d_B_add_17 ic_B_29 ?_
      first | refine kx_icmp_le_n 32 d_B_add_19 (by decide) (by omega) (by omega) ?_ ?_ | refine kx_icmp_le 32 d_B_add_19 (by decide) ?_ ?_
      · intro h19
        refine kx_aload_n d_B_add_32 rfl (by first | rfl | exact kx_rf _) ?_
        refine kx_get _ d_B_add_33 f_B_15 hC.bus (by rfl) ?_
        refine kx_iload_n d_B_add_36 rfl ?_
        obtain ⟨f9, hf1, hf2⟩ := hC.byId
        refine kx_aald d_B_add_37 hf1 rfl (by omega) (by decide) ?_
        rw [hf2 id (by omega)]
        refine kx_ifnonnull (o := (bi id).map (fun c => ad (carB c))) 50 d_B_add_38 (by decide) ?_ ?_
        · intro a38 h38
          exact kx_throw d_B_add_50 d_B_add_53 d_B_add_54 d_B_add_56 d_B_add_59 t_B_43 rfl (by decide) (Nat.le_of_ble_eq_true rfl) (by decide) (by decide) ⟨rfl, rfl⟩
        · intro h38
          refine kx_aload_n d_B_add_41 rfl (by first | rfl | exact kx_rf _) ?_
          refine kx_get _ d_B_add_42 f_B_37 hC.bus (by rfl) ?_
          rw [hn]
          refine kx_bipush (nI 24) d_B_add_45 (by decide) ?_
          first | refine kx_icmp_lt_n 60 d_B_add_47 (by decide) (by omega) (by omega) ?_ ?_ | refine kx_icmp_lt 60 d_B_add_47 (by decide) ?_ ?_
          · intro h47
            rcases hb with h | h
            · exact absurd (by cases e : bi id with | none => rfl | some q => rw [e] at h38; cases h38) h
            · exact absurd h47 (by omega)
          · intro h47
            exact kx_throw d_B_add_50 d_B_add_53 d_B_add_54 d_B_add_56 d_B_add_59 t_B_43 rfl (by decide) (Nat.le_of_ble_eq_true rfl) (by decide) (by decide) ⟨rfl, rfl⟩
      · intro h19
        first
          | exact absurd h2 (by omega)
          | exact absurd h9 (by omega)
          | exact absurd h19 (by omega)
def modK (w w1 : va_W) : Prop := ∀ x, 6 ≤ x → x < 34 → w1[x]? = w[x]?
theorem kx_off.modK {w w1 : va_W} (h : kx_off w w1 clsN) : modK w w1 := fun x h1 h2 => h.2 x (by unfold clsN; omega)
set_option maxRecDepth 20000 in
set_option maxHeartbeats 4000000 in
theorem m_B_add {E : kx_E} {w : va_W} {n : Nat} {ad : Nat → Nat} {L : Nat → List Nat} {V S : Nat → Nat → Int32} {pe bi : Nat → Option Nat} (hC : Cls E w n ad L V S pe bi) (hp : peOk n pe) (hbo : biOk n bi) {id mask : Nat} (h1 : 1 ≤ id) (h2 : id ≤ 255) (h3 : mask ≤ 65535) (h24 : n < 24) (hn : S 0 4 = nI n) (hb : bi id = none) : kx_S E Y_B_add [.ref (ad 0), .int (nI id), .int (nI mask)] w (fun o w1 => o = .inl (some (.int (nI (n + 1)))) ∧ ∃ a : Nat → Nat, Cls E w1 (n + 1) (gAd n ad a) (gL n L) (gV n V) (gS n (up2 S 0 4 (nI (n + 1))) id (nI mask)) (gP n pe) (up1 bi id (some n)) ∧ modK w w1) := by
  refine kx_go (by decide) rfl rfl (Nat.le_of_ble_eq_true rfl) (kx_cc rfl (kx_cc rfl (kx_cc rfl kx_c0))) (fun z => ?_)
  have hO : kx_off w w clsN := kx_off.rf
  refine kx_iload_n d_B_add_0 rfl ?_
  refine kx_iconst (nI 1) d_B_add_1 (by decide) ?_
  first | refine kx_icmp_lt_n 22 d_B_add_2 (by decide) (by omega) (by omega) ?_ ?_ | refine kx_icmp_lt 22 d_B_add_2 (by decide) ?_ ?_
  · intro h2
    first
      | exact absurd h2 (by omega)
      | exact absurd h9 (by omega)
      | exact absurd h19 (by omega)
  · intro h2
    refine kx_iload_n d_B_add_5 rfl ?_
    refine kx_sipush (nI 255) d_B_add_6 (by decide) ?_
    first | refine kx_icmp_gt_n 22 d_B_add_9 (by decide) (by omega) (by omega) ?_ ?_ | refine kx_icmp_gt 22 d_B_add_9 (by decide) ?_ ?_
    · intro h9
      first
        | exact absurd h2 (by omega)
        | exact absurd h9 (by omega)
        | exact absurd h19 (by omega)
    · intro h9
      refine kx_iload_n d_B_add_12 rfl ?_
      refine kx_if_lt_n 22 d_B_add_13 (by decide) (by omega) ?_
      refine kx_iload_n d_B_add_16 rfl ?_
      refine kx_ldci (nI 65535) d_B_add_17 ic_B_29 ?_
      first | refine kx_icmp_le_n 32 d_B_add_19 (by decide) (by omega) (by omega) ?_ ?_ | refine kx_icmp_le 32 d_B_add_19 (by decide) ?_ ?_
      · intro h19
        refine kx_aload_n d_B_add_32 rfl (by first | rfl | exact kx_rf _) ?_
        refine kx_get _ d_B_add_33 f_B_15 hC.bus (by rfl) ?_
        refine kx_iload_n d_B_add_36 rfl ?_
        obtain ⟨f9, hf1, hf2⟩ := hC.byId
        refine kx_aald d_B_add_37 hf1 rfl (by omega) (by decide) ?_
        rw [hf2 id (by omega)]
        refine kx_ifnonnull (o := (bi id).map (fun c => ad (carB c))) 50 d_B_add_38 (by decide) ?_ ?_
        · intro a38 h38
          first
            | exact absurd h47 (by omega)
            | (rw [hb] at h38; cases h38)
        · intro h38
          refine kx_aload_n d_B_add_41 rfl (by first | rfl | exact kx_rf _) ?_
          refine kx_get _ d_B_add_42 f_B_37 hC.bus (by rfl) ?_
          rw [hn]
          refine kx_bipush (nI 24) d_B_add_45 (by decide) ?_
          first | refine kx_icmp_lt_n 60 d_B_add_47 (by decide) (by omega) (by omega) ?_ ?_ | refine kx_icmp_lt 60 d_B_add_47 (by decide) ?_ ?_
          · intro h47
            refine kx_new d_B_add_60 n_B_9 (by decide) (by decide) (fun q => ?_)
            refine kx_dup d_B_add_63 (by first | rfl | exact kx_rfc _) ?_
            refine kx_iload_n d_B_add_64 rfl ?_
            refine kx_iload_n d_B_add_65 rfl ?_
            refine kx_callI (as := [.int (nI id), .int (nI mask)]) (rest := [.ref q]) d_B_add_66 i_B_46 rfl (by decide) (by decide) (Nat.le_of_ble_eq_true rfl) (by decide) (by decide) rfl (m_C_ini (w := w) (h := q) (id := id) (mask := nI mask)) (fun X w1 h => by cases h.1) (fun v w1 hq9 => ?_)
            obtain ⟨hv, a0, v9, hv9, hw9⟩ := hq9
            cases hv
            subst hw9
            refine kx_stk (st1 := [.ref q]) rfl ?_
            obtain ⟨a, ha⟩ : ∃ a : Nat → Nat, carK E q a0 id (nI mask) v9 = carK E (a 0) a id (nI mask) v9 ∧ a 0 = q := ⟨fun k => if k = 0 then q else a0 k, rfl, rfl⟩
            obtain ⟨ha, haq⟩ := ha
            subst haq
            refine kx_w (w1 := w ++ carK E (a 0) a id (nI mask) v9) (by rw [ha]) ?_
            clear ha
            obtain ⟨K, hK⟩ : ∃ K, K = carK E (a 0) a id (nI mask) v9 := ⟨_, rfl⟩
            have hK0 : (w ++ K)[w.length + 0]? = some (a 0, .inr (0, [.int (nI id), .int (nI mask), .ref (a 1), .ref (a 26), .ref (a 28), .ref (a 30), .ref (a 31), .int 0, .int 0, .int 0, .int 0])) := by rw [kx_gA, hK]; rfl
            rw [← hK]
            have hlen := hC.len
            have hbus := hC.bus
            obtain ⟨f8, hg1, hg2⟩ := hC.cars
            refine kx_astore_n d_B_add_69 (by decide) (by first | rfl | exact kx_rf _) ?_
            refine kx_aload_n d_B_add_70 rfl (by first | rfl | exact kx_rf _) ?_
            refine kx_get _ d_B_add_71 f_B_15 (kx_apL hbus) (by rfl) ?_
            refine kx_iload_n d_B_add_74 rfl ?_
            refine kx_aload_n d_B_add_75 rfl (by first | rfl | exact kx_rf _) ?_
            refine kx_aast d_B_add_76 (kx_apL hf1) hK0 rfl rfl (by omega) (by decide) ?_
            obtain ⟨w1, hw1⟩ : ∃ w1, w1 = w.set 2 (ad 2, kx_aq E 3 256 (va_up f9 id (some (a 0)))) := ⟨_, rfl⟩
            refine kx_w (w1 := w1 ++ K) (by rw [hw1, List.set_append_left _ _ (by omega)]) ?_
            have o1 : kx_off w w1 (fun x => x < 3) := by rw [hw1]; exact kx_off.rf.set (by decide)
            have b1 : w1[0]? = some (ad 0, busC ad S) := by rw [hw1]; exact kx_s2 (by decide) hbus
            have c1 : w1[1]? = some (ad 1, kx_aq E 3 24 f8) := by rw [hw1]; exact kx_s2 (by decide) hg1
            have d1 : w1[2]? = some (ad 2, kx_aq E 3 256 (va_up f9 id (some (a 0)))) := by rw [hw1]; exact kx_s1 hf1
            have hK1 : (w1 ++ K)[w1.length + 0]? = some (a 0, .inr (0, [.int (nI id), .int (nI mask), .ref (a 1), .ref (a 26), .ref (a 28), .ref (a 30), .ref (a 31), .int 0, .int 0, .int 0, .int 0])) := by rw [kx_gA, hK]; rfl
            have l1 : w1.length = 34 + 32 * n := by rw [o1.1]; exact hlen
            refine kx_aload_n d_B_add_77 rfl (by first | rfl | exact kx_rf _) ?_
            refine kx_get _ d_B_add_78 f_B_11 (kx_apL b1) (by rfl) ?_
            refine kx_aload_n d_B_add_81 rfl (by first | rfl | exact kx_rf _) ?_
            refine kx_get _ d_B_add_82 f_B_37 (kx_apL b1) (by rfl) ?_
            rw [hn]
            refine kx_aload_n d_B_add_85 rfl (by first | rfl | exact kx_rf _) ?_
            refine kx_aast d_B_add_86 (kx_apL c1) hK1 rfl rfl (by omega) (by decide) ?_
            obtain ⟨w2, hw2⟩ : ∃ w2, w2 = w1.set 1 (ad 1, kx_aq E 3 24 (va_up f8 n (some (a 0)))) := ⟨_, rfl⟩
            refine kx_w (w1 := w2 ++ K) (by rw [hw2, List.set_append_left _ _ (by omega)]) ?_
            have o2 : kx_off w w2 (fun x => x < 3) := by rw [hw2]; exact o1.set (by decide)
            have b2 : w2[0]? = some (ad 0, busC ad S) := by rw [hw2]; exact kx_s2 (by decide) b1
            have c2 : w2[1]? = some (ad 1, kx_aq E 3 24 (va_up f8 n (some (a 0)))) := by rw [hw2]; exact kx_s1 c1
            have d2 : w2[2]? = some (ad 2, kx_aq E 3 256 (va_up f9 id (some (a 0)))) := by rw [hw2]; exact kx_s2 (by decide) d1
            have l2 : w2.length = 34 + 32 * n := by rw [o2.1]; exact hlen
            refine kx_aload_n d_B_add_87 rfl (by first | rfl | exact kx_rf _) ?_
            refine kx_dup d_B_add_88 (by first | rfl | exact kx_rfc _) ?_
            refine kx_get _ d_B_add_89 f_B_37 (kx_apL b2) (by rfl) ?_
            rw [hn]
            refine kx_iconst (nI 1) d_B_add_92 (by decide) ?_
            first | refine kx_iadd _ d_B_add_93 (nI_add _ _) ?_ | refine kx_iadd _ d_B_add_93 rfl ?_
            refine kx_put d_B_add_94 f_B_37 (p_B_4 _) (kx_apL b2) (Nat.le_of_ble_eq_true rfl) ?_
            obtain ⟨w3, hw3⟩ : ∃ w3, w3 = w2.set 0 (ad 0, busC ad (up2 S 0 4 (nI (n + 1)))) := ⟨_, rfl⟩
            refine kx_w (w1 := w3 ++ K) (by rw [hw3, ← List.set_append_left _ _ (by omega)]; rfl) ?_
            have o3 : kx_off w w3 (fun x => x < 3) := by rw [hw3]; exact o2.set (by decide)
            have b3 : w3[0]? = some (ad 0, busC ad (up2 S 0 4 (nI (n + 1)))) := by rw [hw3]; exact kx_s1 b2
            have c3 : w3[1]? = some (ad 1, kx_aq E 3 24 (va_up f8 n (some (a 0)))) := by rw [hw3]; exact kx_s2 (by decide) c2
            have d3 : w3[2]? = some (ad 2, kx_aq E 3 256 (va_up f9 id (some (a 0)))) := by rw [hw3]; exact kx_s2 (by decide) d2
            have l3 : w3.length = 34 + 32 * n := by rw [o3.1]; exact hlen
            refine kx_aload_n d_B_add_97 rfl (by first | rfl | exact kx_rf _) ?_
            refine kx_get _ d_B_add_98 f_B_37 (kx_apL b3) (by rfl) ?_
            rw [up2_s]
            refine kx_iret d_B_add_101 rfl (by decide) (by decide) ?_
            refine ⟨rfl, a, ?_, ?_⟩
            · rw [hK]
              refine hC.grow hp (fun x hx => funext (up2_n hx)) o3 b3 ⟨_, c3, ?_⟩ ⟨_, d3, ?_⟩ hv9
              · intro c hc
                unfold va_up
                by_cases e : c = n
                · subst e
                  rw [if_pos rfl]
                  exact congrArg some (gAd_n 0).symm
                · rw [if_neg e, hg2 c (by omega)]
                  exact congrArg some (gAd_o (carB_lt (k := 0) (by omega) (by decide))).symm
              · intro i hi
                unfold va_up up1
                by_cases e : i = id
                · rw [if_pos e, if_pos e]
                  exact congrArg some (gAd_n 0).symm
                · rw [if_neg e, if_neg e, hf2 i hi]
                  cases hq : bi i with
                  | none => rfl
                  | some c => exact congrArg some (gAd_o (carB_lt (k := 0) (hbo i c hq) (by decide))).symm
            · intro x h6 h34
              rw [List.getElem?_append_left (by omega)]
              exact o3.2 x (by omega)
          · intro h47
            first
              | exact absurd h47 (by omega)
              | (rw [hb] at h38; cases h38)
      · intro h19
        first
          | exact absurd h2 (by omega)
          | exact absurd h9 (by omega)
          | exact absurd h19 (by omega)
end
section
/-! The reference as a named world: 6 the object, 7 to 32 its arrays -/
abbrev mdlC (ma : Nat → Nat) (F : Nat → Int32) : va_E := .inr (5, [.int (F 0), .int (F 1), .ref (ma 1), .ref (ma 2), .ref (ma 3), .ref (ma 4), .ref (ma 5), .int (F 7), .int (F 8), .int (F 9), .ref (ma 6), .ref (ma 7), .ref (ma 8), .ref (ma 9), .ref (ma 10), .ref (ma 11), .ref (ma 12), .ref (ma 13), .ref (ma 14), .ref (ma 15), .ref (ma 16), .ref (ma 17), .ref (ma 18), .ref (ma 19), .ref (ma 20), .ref (ma 21), .ref (ma 22), .ref (ma 23), .ref (ma 24), .ref (ma 25), .ref (ma 26)])
def mLen : List Nat := [24, 24, 48, 48, 32, 1152, 48, 48, 48, 576, 24, 1152, 48, 576, 2304, 24, 24, 1152, 48, 48, 576, 24, 576, 2304, 64, 24]
def mArr (E : kx_E) (j : Nat) (f : Nat → Int32) : va_E := if j = 4 ∨ j = 7 ∨ j = 19 then kx_az E (mLen.getD j 0) f else kx_ai E (mLen.getD j 0) f
def Mdl (E : kx_E) (w : va_W) (ma : Nat → Nat) (F : Nat → Int32) (A : Nat → Nat → Int32) : Prop := w[6]? = some (ma 0, mdlC ma F) ∧ ∀ j, j < 26 → w[7 + j]? = some (ma (j + 1), mArr E j (A j))
def mdlN (x : Nat) : Prop := 6 ≤ x ∧ x < 33
theorem Mdl.a0 {E : kx_E} {w : va_W} {ma : Nat → Nat} {F : Nat → Int32} {A : Nat → Nat → Int32} (h : Mdl E w ma F A) : w[7]? = some (ma 1, kx_ai E 24 (A 0)) := h.2 0 (by decide)
theorem Mdl.a1 {E : kx_E} {w : va_W} {ma : Nat → Nat} {F : Nat → Int32} {A : Nat → Nat → Int32} (h : Mdl E w ma F A) : w[8]? = some (ma 2, kx_ai E 24 (A 1)) := h.2 1 (by decide)
theorem Mdl.a2 {E : kx_E} {w : va_W} {ma : Nat → Nat} {F : Nat → Int32} {A : Nat → Nat → Int32} (h : Mdl E w ma F A) : w[9]? = some (ma 3, kx_ai E 48 (A 2)) := h.2 2 (by decide)
theorem Mdl.a3 {E : kx_E} {w : va_W} {ma : Nat → Nat} {F : Nat → Int32} {A : Nat → Nat → Int32} (h : Mdl E w ma F A) : w[10]? = some (ma 4, kx_ai E 48 (A 3)) := h.2 3 (by decide)
theorem Mdl.a4 {E : kx_E} {w : va_W} {ma : Nat → Nat} {F : Nat → Int32} {A : Nat → Nat → Int32} (h : Mdl E w ma F A) : w[11]? = some (ma 5, kx_az E 32 (A 4)) := h.2 4 (by decide)
theorem Mdl.a5 {E : kx_E} {w : va_W} {ma : Nat → Nat} {F : Nat → Int32} {A : Nat → Nat → Int32} (h : Mdl E w ma F A) : w[12]? = some (ma 6, kx_ai E 1152 (A 5)) := h.2 5 (by decide)
theorem Mdl.a6 {E : kx_E} {w : va_W} {ma : Nat → Nat} {F : Nat → Int32} {A : Nat → Nat → Int32} (h : Mdl E w ma F A) : w[13]? = some (ma 7, kx_ai E 48 (A 6)) := h.2 6 (by decide)
theorem Mdl.a7 {E : kx_E} {w : va_W} {ma : Nat → Nat} {F : Nat → Int32} {A : Nat → Nat → Int32} (h : Mdl E w ma F A) : w[14]? = some (ma 8, kx_az E 48 (A 7)) := h.2 7 (by decide)
theorem Mdl.a8 {E : kx_E} {w : va_W} {ma : Nat → Nat} {F : Nat → Int32} {A : Nat → Nat → Int32} (h : Mdl E w ma F A) : w[15]? = some (ma 9, kx_ai E 48 (A 8)) := h.2 8 (by decide)
theorem Mdl.a9 {E : kx_E} {w : va_W} {ma : Nat → Nat} {F : Nat → Int32} {A : Nat → Nat → Int32} (h : Mdl E w ma F A) : w[16]? = some (ma 10, kx_ai E 576 (A 9)) := h.2 9 (by decide)
theorem Mdl.a10 {E : kx_E} {w : va_W} {ma : Nat → Nat} {F : Nat → Int32} {A : Nat → Nat → Int32} (h : Mdl E w ma F A) : w[17]? = some (ma 11, kx_ai E 24 (A 10)) := h.2 10 (by decide)
theorem Mdl.a11 {E : kx_E} {w : va_W} {ma : Nat → Nat} {F : Nat → Int32} {A : Nat → Nat → Int32} (h : Mdl E w ma F A) : w[18]? = some (ma 12, kx_ai E 1152 (A 11)) := h.2 11 (by decide)
theorem Mdl.a12 {E : kx_E} {w : va_W} {ma : Nat → Nat} {F : Nat → Int32} {A : Nat → Nat → Int32} (h : Mdl E w ma F A) : w[19]? = some (ma 13, kx_ai E 48 (A 12)) := h.2 12 (by decide)
theorem Mdl.a13 {E : kx_E} {w : va_W} {ma : Nat → Nat} {F : Nat → Int32} {A : Nat → Nat → Int32} (h : Mdl E w ma F A) : w[20]? = some (ma 14, kx_ai E 576 (A 13)) := h.2 13 (by decide)
theorem Mdl.a14 {E : kx_E} {w : va_W} {ma : Nat → Nat} {F : Nat → Int32} {A : Nat → Nat → Int32} (h : Mdl E w ma F A) : w[21]? = some (ma 15, kx_ai E 2304 (A 14)) := h.2 14 (by decide)
theorem Mdl.a15 {E : kx_E} {w : va_W} {ma : Nat → Nat} {F : Nat → Int32} {A : Nat → Nat → Int32} (h : Mdl E w ma F A) : w[22]? = some (ma 16, kx_ai E 24 (A 15)) := h.2 15 (by decide)
theorem Mdl.a16 {E : kx_E} {w : va_W} {ma : Nat → Nat} {F : Nat → Int32} {A : Nat → Nat → Int32} (h : Mdl E w ma F A) : w[23]? = some (ma 17, kx_ai E 24 (A 16)) := h.2 16 (by decide)
theorem Mdl.a17 {E : kx_E} {w : va_W} {ma : Nat → Nat} {F : Nat → Int32} {A : Nat → Nat → Int32} (h : Mdl E w ma F A) : w[24]? = some (ma 18, kx_ai E 1152 (A 17)) := h.2 17 (by decide)
theorem Mdl.a18 {E : kx_E} {w : va_W} {ma : Nat → Nat} {F : Nat → Int32} {A : Nat → Nat → Int32} (h : Mdl E w ma F A) : w[25]? = some (ma 19, kx_ai E 48 (A 18)) := h.2 18 (by decide)
theorem Mdl.a19 {E : kx_E} {w : va_W} {ma : Nat → Nat} {F : Nat → Int32} {A : Nat → Nat → Int32} (h : Mdl E w ma F A) : w[26]? = some (ma 20, kx_az E 48 (A 19)) := h.2 19 (by decide)
theorem Mdl.a20 {E : kx_E} {w : va_W} {ma : Nat → Nat} {F : Nat → Int32} {A : Nat → Nat → Int32} (h : Mdl E w ma F A) : w[27]? = some (ma 21, kx_ai E 576 (A 20)) := h.2 20 (by decide)
theorem Mdl.a21 {E : kx_E} {w : va_W} {ma : Nat → Nat} {F : Nat → Int32} {A : Nat → Nat → Int32} (h : Mdl E w ma F A) : w[28]? = some (ma 22, kx_ai E 24 (A 21)) := h.2 21 (by decide)
theorem Mdl.a22 {E : kx_E} {w : va_W} {ma : Nat → Nat} {F : Nat → Int32} {A : Nat → Nat → Int32} (h : Mdl E w ma F A) : w[29]? = some (ma 23, kx_ai E 576 (A 22)) := h.2 22 (by decide)
theorem Mdl.a23 {E : kx_E} {w : va_W} {ma : Nat → Nat} {F : Nat → Int32} {A : Nat → Nat → Int32} (h : Mdl E w ma F A) : w[30]? = some (ma 24, kx_ai E 2304 (A 23)) := h.2 23 (by decide)
theorem Mdl.a24 {E : kx_E} {w : va_W} {ma : Nat → Nat} {F : Nat → Int32} {A : Nat → Nat → Int32} (h : Mdl E w ma F A) : w[31]? = some (ma 25, kx_ai E 64 (A 24)) := h.2 24 (by decide)
theorem Mdl.a25 {E : kx_E} {w : va_W} {ma : Nat → Nat} {F : Nat → Int32} {A : Nat → Nat → Int32} (h : Mdl E w ma F A) : w[32]? = some (ma 26, kx_ai E 24 (A 25)) := h.2 25 (by decide)
section MDL
variable {E : kx_E} {w w0 : va_W} {ma : Nat → Nat} {F : Nat → Int32} {A : Nat → Nat → Int32} {Y : kx_Y} {z : kx_Z} {pc : Nat} {LL : kx_L} {st : List Value} {kc ks : Nat} {Q : kx_O → va_W → Prop}
theorem Mdl.uA (h : Mdl E w ma F A) {j : Nat} (hj : j < 26) {f : Nat → Int32} {c : va_E} (hc : mArr E j f = c) : Mdl E (w.set (7 + j) (ma (j + 1), c)) ma F (up1 A j f) := by
  subst hc
  refine ⟨kx_s2 (by omega) h.1, fun i hi => ?_⟩
  by_cases e : i = j
  · subst e
    rw [up1_s]
    exact kx_s1 (h.2 i hi)
  · rw [up1_n e]
    exact kx_s2 (by omega) (h.2 i hi)
theorem mA_put {j i len : Nat} {v : Int32} (hd : decode Y.1 pc = .ok (.iastore, 1)) (hM : Mdl E w ma F A) (hO : kx_off w0 w mdlN) (hj : j < 26) (hl : mArr E j = kx_ai E len) (hn : len < 2 ^ 31) (hi : i < len)
    (kk : ∀ w1, Mdl E w1 ma F (up1 A j (upd (A j) i v)) → kx_off w0 w1 mdlN → kx_R E Y z (pc + 1) LL st w1 kc ks Q) : kx_R E Y z pc LL (.int v :: .int (nI i) :: .ref (ma (j + 1)) :: st) w kc ks Q := by
  refine kx_iast hd ((hM.2 j hj).trans (by rw [hl])) hi hn (kk _ (hM.uA hj (by rw [hl])) (hO.set ⟨by omega, by omega⟩))
theorem mZ_put {j i len : Nat} {v : Int32} (hd : decode Y.1 pc = .ok (.bastore, 1)) (hM : Mdl E w ma F A) (hO : kx_off w0 w mdlN) (hj : j < 26) (hl : mArr E j = kx_az E len) (hn : len < 2 ^ 31) (hi : i < len) (hv : v = nI 0 ∨ v = nI 1)
    (kk : ∀ w1, Mdl E w1 ma F (up1 A j (upd (A j) i v)) → kx_off w0 w1 mdlN → kx_R E Y z (pc + 1) LL st w1 kc ks Q) : kx_R E Y z pc LL (.int v :: .int (nI i) :: .ref (ma (j + 1)) :: st) w kc ks Q := by
  refine kx_zast hd ((hM.2 j hj).trans (by rw [hl])) hi hn (by rcases hv with rfl | rfl <;> decide) (kk _ (hM.uA hj (by rw [hl])) (hO.set ⟨by omega, by omega⟩))
theorem mF_put0 {idx : Nat} {v : Int32} (hd : decode Y.1 pc = .ok (.putfield idx, 3)) (hf : kx_F Y.2.2.1 idx 5 0) (hM : Mdl E w ma F A) (hO : kx_off w0 w mdlN)
    (kk : ∀ w1, Mdl E w1 ma (up1 F 0 v) A → kx_off w0 w1 mdlN → kx_R E Y z (pc + 3) LL st w1 kc ks Q) : kx_R E Y z pc LL (.int v :: .ref (ma 0) :: st) w kc ks Q := by
  refine kx_put hd hf (p_M_0 _) hM.1 (Nat.le_of_ble_eq_true rfl) (kk _ ⟨?_, fun i hi => kx_s2 (by omega) (hM.2 i hi)⟩ (hO.set ⟨by omega, by omega⟩))
  rw [kx_s1 hM.1]
  rfl
theorem mF_put1 {idx : Nat} {v : Int32} (hd : decode Y.1 pc = .ok (.putfield idx, 3)) (hf : kx_F Y.2.2.1 idx 5 1) (hM : Mdl E w ma F A) (hO : kx_off w0 w mdlN)
    (kk : ∀ w1, Mdl E w1 ma (up1 F 1 v) A → kx_off w0 w1 mdlN → kx_R E Y z (pc + 3) LL st w1 kc ks Q) : kx_R E Y z pc LL (.int v :: .ref (ma 0) :: st) w kc ks Q := by
  refine kx_put hd hf (p_M_1 _) hM.1 (Nat.le_of_ble_eq_true rfl) (kk _ ⟨?_, fun i hi => kx_s2 (by omega) (hM.2 i hi)⟩ (hO.set ⟨by omega, by omega⟩))
  rw [kx_s1 hM.1]
  rfl
theorem mF_put7 {idx : Nat} {v : Int32} (hd : decode Y.1 pc = .ok (.putfield idx, 3)) (hf : kx_F Y.2.2.1 idx 5 7) (hM : Mdl E w ma F A) (hO : kx_off w0 w mdlN)
    (kk : ∀ w1, Mdl E w1 ma (up1 F 7 v) A → kx_off w0 w1 mdlN → kx_R E Y z (pc + 3) LL st w1 kc ks Q) : kx_R E Y z pc LL (.int v :: .ref (ma 0) :: st) w kc ks Q := by
  refine kx_put hd hf (p_M_7 _) hM.1 (Nat.le_of_ble_eq_true rfl) (kk _ ⟨?_, fun i hi => kx_s2 (by omega) (hM.2 i hi)⟩ (hO.set ⟨by omega, by omega⟩))
  rw [kx_s1 hM.1]
  rfl
theorem mF_put8 {idx : Nat} {v : Int32} (hd : decode Y.1 pc = .ok (.putfield idx, 3)) (hf : kx_F Y.2.2.1 idx 5 8) (hM : Mdl E w ma F A) (hO : kx_off w0 w mdlN)
    (kk : ∀ w1, Mdl E w1 ma (up1 F 8 v) A → kx_off w0 w1 mdlN → kx_R E Y z (pc + 3) LL st w1 kc ks Q) : kx_R E Y z pc LL (.int v :: .ref (ma 0) :: st) w kc ks Q := by
  refine kx_put hd hf (p_M_8 _) hM.1 (Nat.le_of_ble_eq_true rfl) (kk _ ⟨?_, fun i hi => kx_s2 (by omega) (hM.2 i hi)⟩ (hO.set ⟨by omega, by omega⟩))
  rw [kx_s1 hM.1]
  rfl
theorem mF_put9 {idx : Nat} {v : Int32} (hd : decode Y.1 pc = .ok (.putfield idx, 3)) (hf : kx_F Y.2.2.1 idx 5 9) (hM : Mdl E w ma F A) (hO : kx_off w0 w mdlN)
    (kk : ∀ w1, Mdl E w1 ma (up1 F 9 v) A → kx_off w0 w1 mdlN → kx_R E Y z (pc + 3) LL st w1 kc ks Q) : kx_R E Y z pc LL (.int v :: .ref (ma 0) :: st) w kc ks Q := by
  refine kx_put hd hf (p_M_9 _) hM.1 (Nat.le_of_ble_eq_true rfl) (kk _ ⟨?_, fun i hi => kx_s2 (by omega) (hM.2 i hi)⟩ (hO.set ⟨by omega, by omega⟩))
  rw [kx_s1 hM.1]
  rfl
end MDL
def MP (E : kx_E) (w0 : va_W) (ma : Nat → Nat) (F : Nat → Int32) (P : (Nat → Nat → Int32) → Prop) (r : Option Value) : kx_O → va_W → Prop := fun o w1 => o = .inl r ∧ ∃ A1, Mdl E w1 ma F A1 ∧ P A1 ∧ kx_off w0 w1 mdlN
def oI (x : Option Nat) : Int32 := match x with
  | none => -1
  | some q => nI q
theorem nI_m1 {a : Nat} (h : a < 2 ^ 31) : nI a ≠ -1 := by
  intro e
  have h1 := nI_toInt h
  rw [e] at h1
  have h2 : (-1 : Int32).toInt = -1 := by decide
  rw [h2] at h1
  omega
theorem oI_n {x : Option Nat} (hx : ∀ q, x = some q → q < 2 ^ 31) : oI x = -1 ↔ x = none := by
  cases x with
  | none => exact ⟨fun _ => rfl, fun _ => rfl⟩
  | some q => exact ⟨fun h => absurd h (nI_m1 (hx q rfl)), fun h => by cases h⟩
theorem upd_s {f : Nat → Int32} {i : Nat} {v : Int32} : upd f i v i = v := by unfold upd; simp
theorem upd_n {f : Nat → Int32} {i j : Nat} {v : Int32} (h : j ≠ i) : upd f i v j = f j := by unfold upd; simp [h]
end
section
/-! The reference: its small methods -/
theorem d_M_thrown_0 : decode c_M_thrown 0 = .ok (.aload_n 0, 1) := by decide +kernel
theorem d_M_thrown_1 : decode c_M_thrown 1 = .ok (.getfield 89, 3) := by decide +kernel
theorem d_M_thrown_4 : decode c_M_thrown 4 = .ok (.ireturn, 1) := by decide +kernel
set_option maxRecDepth 20000 in
set_option maxHeartbeats 4000000 in
theorem m_M_thrown {E : kx_E} {w : va_W} {ma : Nat → Nat} {F : Nat → Int32} {A : Nat → Nat → Int32} (hM : Mdl E w ma F A)  : kx_S E Y_M_thrown [.ref (ma 0)] w (kx_Qi w (F 0)) := by
  refine kx_go (by decide) rfl rfl (Nat.le_of_ble_eq_true rfl) (kx_cc rfl kx_c0) (fun z => ?_)
  have hO : kx_off w w mdlN := kx_off.rf
  refine kx_aload_n d_M_thrown_0 rfl (by first | rfl | exact kx_rf _) ?_
  refine kx_get _ d_M_thrown_1 f_M_89 hM.1 (by rfl) ?_
  refine kx_iret d_M_thrown_4 rfl (by decide) (by decide) ?_
  exact ⟨rfl, rfl⟩
theorem d_M_goes_0 : decode c_M_goes 0 = .ok (.aload_n 0, 1) := by decide +kernel
theorem d_M_goes_1 : decode c_M_goes 1 = .ok (.iload_n 1, 1) := by decide +kernel
theorem d_M_goes_2 : decode c_M_goes 2 = .ok (.ifCond .ne 7, 3) := by decide +kernel
theorem d_M_goes_5 : decode c_M_goes 5 = .ok (.iconst 1, 1) := by decide +kernel
theorem d_M_goes_6 : decode c_M_goes 6 = .ok (.goto 20, 3) := by decide +kernel
theorem d_M_goes_9 : decode c_M_goes 9 = .ok (.iload_n 2, 1) := by decide +kernel
theorem d_M_goes_10 : decode c_M_goes 10 = .ok (.ifCond .ne 7, 3) := by decide +kernel
theorem d_M_goes_13 : decode c_M_goes 13 = .ok (.iconst 2, 1) := by decide +kernel
theorem d_M_goes_14 : decode c_M_goes 14 = .ok (.goto 12, 3) := by decide +kernel
theorem d_M_goes_17 : decode c_M_goes 17 = .ok (.iload_n 3, 1) := by decide +kernel
theorem d_M_goes_18 : decode c_M_goes 18 = .ok (.ifCond .ne 7, 3) := by decide +kernel
theorem d_M_goes_21 : decode c_M_goes 21 = .ok (.iconst 3, 1) := by decide +kernel
theorem d_M_goes_22 : decode c_M_goes 22 = .ok (.goto 4, 3) := by decide +kernel
theorem d_M_goes_25 : decode c_M_goes 25 = .ok (.iconst 0, 1) := by decide +kernel
theorem d_M_goes_26 : decode c_M_goes 26 = .ok (.putfield 89, 3) := by decide +kernel
theorem d_M_goes_29 : decode c_M_goes 29 = .ok (.aload_n 0, 1) := by decide +kernel
theorem d_M_goes_30 : decode c_M_goes 30 = .ok (.getfield 89, 3) := by decide +kernel
theorem d_M_goes_33 : decode c_M_goes 33 = .ok (.ifCond .ne 7, 3) := by decide +kernel
theorem d_M_goes_36 : decode c_M_goes 36 = .ok (.iconst 1, 1) := by decide +kernel
theorem d_M_goes_37 : decode c_M_goes 37 = .ok (.goto 4, 3) := by decide +kernel
theorem d_M_goes_40 : decode c_M_goes 40 = .ok (.iconst 0, 1) := by decide +kernel
theorem d_M_goes_41 : decode c_M_goes 41 = .ok (.ireturn, 1) := by decide +kernel
def goI (a b c : Nat) : Nat := if a = 0 then 1 else if b = 0 then 2 else if c = 0 then 3 else 0
set_option maxRecDepth 20000 in
set_option maxHeartbeats 4000000 in
theorem m_M_goes {E : kx_E} {w : va_W} {ma : Nat → Nat} {F : Nat → Int32} {A : Nat → Nat → Int32} (hM : Mdl E w ma F A) {a b c : Nat} (ha : a < 2) (hb : b < 2) (hc : c < 2) : kx_S E Y_M_goes [.ref (ma 0), .int (nI a), .int (nI b), .int (nI c)] w (fun o w1 => o = .inl (some (.int (nI (if goI a b c = 0 then 1 else 0)))) ∧ Mdl E w1 ma (up1 F 0 (nI (goI a b c))) A ∧ kx_off w w1 mdlN) := by
  refine kx_go (by decide) rfl rfl (Nat.le_of_ble_eq_true rfl) (kx_cc rfl (kx_cc rfl (kx_cc rfl (kx_cc rfl kx_c0)))) (fun z => ?_)
  have hO : kx_off w w mdlN := kx_off.rf
  refine kx_aload_n d_M_goes_0 rfl (by first | rfl | exact kx_rf _) ?_
  refine kx_iload_n d_M_goes_1 rfl ?_
  first | refine kx_if_ne_n 9 d_M_goes_2 (by decide) (by omega) ?_ ?_ | refine kx_if_ne 9 d_M_goes_2 (by decide) ?_ ?_
  · intro h2
    refine kx_iload_n d_M_goes_9 rfl ?_
    first | refine kx_if_ne_n 17 d_M_goes_10 (by decide) (by omega) ?_ ?_ | refine kx_if_ne 17 d_M_goes_10 (by decide) ?_ ?_
    · intro h10
      refine kx_iload_n d_M_goes_17 rfl ?_
      first | refine kx_if_ne_n 25 d_M_goes_18 (by decide) (by omega) ?_ ?_ | refine kx_if_ne 25 d_M_goes_18 (by decide) ?_ ?_
      · intro h18
        refine kx_iconst (nI 0) d_M_goes_25 (by decide) ?_
        first
          | (have hg : goI a b c = 1 := by unfold goI; rw [if_pos h2]
             rw [hg])
          | (have hg : goI a b c = 2 := by unfold goI; rw [if_neg h2, if_pos h10]
             rw [hg])
          | (have hg : goI a b c = 3 := by unfold goI; rw [if_neg h2, if_neg h10, if_pos h18]
             rw [hg])
          | (have hg : goI a b c = 0 := by unfold goI; rw [if_neg h2, if_neg h10, if_neg h18]
             rw [hg])
        refine mF_put0 d_M_goes_26 f_M_89 hM hO (fun w hM hO => ?_)
        refine kx_aload_n d_M_goes_29 rfl (by first | rfl | exact kx_rf _) ?_
        refine kx_get _ d_M_goes_30 f_M_89 hM.1 (by rfl) ?_
        rw [up1_s]
        first | refine kx_if_ne_n 40 d_M_goes_33 (by decide) (by omega) ?_ ?_ | refine kx_if_ne 40 d_M_goes_33 (by decide) ?_ ?_
        · intro h33
          refine kx_iconst (nI 0) d_M_goes_40 (by decide) ?_
          refine kx_zret d_M_goes_41 rfl (by decide) (by decide) (by decide) ?_
          first
            | exact ⟨rfl, hM, hO⟩
            | exact absurd h33 (by decide)
        · intro h33
          refine kx_iconst (nI 1) d_M_goes_36 (by decide) ?_
          refine kx_goto 41 d_M_goes_37 (by decide) ?_
          refine kx_zret d_M_goes_41 rfl (by decide) (by decide) (by decide) ?_
          first
            | exact ⟨rfl, hM, hO⟩
            | exact absurd h33 (by decide)
      · intro h18
        refine kx_iconst (nI 3) d_M_goes_21 (by decide) ?_
        refine kx_goto 26 d_M_goes_22 (by decide) ?_
        first
          | (have hg : goI a b c = 1 := by unfold goI; rw [if_pos h2]
             rw [hg])
          | (have hg : goI a b c = 2 := by unfold goI; rw [if_neg h2, if_pos h10]
             rw [hg])
          | (have hg : goI a b c = 3 := by unfold goI; rw [if_neg h2, if_neg h10, if_pos h18]
             rw [hg])
          | (have hg : goI a b c = 0 := by unfold goI; rw [if_neg h2, if_neg h10, if_neg h18]
             rw [hg])
        refine mF_put0 d_M_goes_26 f_M_89 hM hO (fun w hM hO => ?_)
        refine kx_aload_n d_M_goes_29 rfl (by first | rfl | exact kx_rf _) ?_
        refine kx_get _ d_M_goes_30 f_M_89 hM.1 (by rfl) ?_
        rw [up1_s]
        first | refine kx_if_ne_n 40 d_M_goes_33 (by decide) (by omega) ?_ ?_ | refine kx_if_ne 40 d_M_goes_33 (by decide) ?_ ?_
        · intro h33
          refine kx_iconst (nI 0) d_M_goes_40 (by decide) ?_
          refine kx_zret d_M_goes_41 rfl (by decide) (by decide) (by decide) ?_
          first
            | exact ⟨rfl, hM, hO⟩
            | exact absurd h33 (by decide)
        · intro h33
          refine kx_iconst (nI 1) d_M_goes_36 (by decide) ?_
          refine kx_goto 41 d_M_goes_37 (by decide) ?_
          refine kx_zret d_M_goes_41 rfl (by decide) (by decide) (by decide) ?_
          first
            | exact ⟨rfl, hM, hO⟩
            | exact absurd h33 (by decide)
    · intro h10
      refine kx_iconst (nI 2) d_M_goes_13 (by decide) ?_
      refine kx_goto 26 d_M_goes_14 (by decide) ?_
      first
        | (have hg : goI a b c = 1 := by unfold goI; rw [if_pos h2]
           rw [hg])
        | (have hg : goI a b c = 2 := by unfold goI; rw [if_neg h2, if_pos h10]
           rw [hg])
        | (have hg : goI a b c = 3 := by unfold goI; rw [if_neg h2, if_neg h10, if_pos h18]
           rw [hg])
        | (have hg : goI a b c = 0 := by unfold goI; rw [if_neg h2, if_neg h10, if_neg h18]
           rw [hg])
      refine mF_put0 d_M_goes_26 f_M_89 hM hO (fun w hM hO => ?_)
      refine kx_aload_n d_M_goes_29 rfl (by first | rfl | exact kx_rf _) ?_
      refine kx_get _ d_M_goes_30 f_M_89 hM.1 (by rfl) ?_
      rw [up1_s]
      first | refine kx_if_ne_n 40 d_M_goes_33 (by decide) (by omega) ?_ ?_ | refine kx_if_ne 40 d_M_goes_33 (by decide) ?_ ?_
      · intro h33
        refine kx_iconst (nI 0) d_M_goes_40 (by decide) ?_
        refine kx_zret d_M_goes_41 rfl (by decide) (by decide) (by decide) ?_
        first
          | exact ⟨rfl, hM, hO⟩
          | exact absurd h33 (by decide)
      · intro h33
        refine kx_iconst (nI 1) d_M_goes_36 (by decide) ?_
        refine kx_goto 41 d_M_goes_37 (by decide) ?_
        refine kx_zret d_M_goes_41 rfl (by decide) (by decide) (by decide) ?_
        first
          | exact ⟨rfl, hM, hO⟩
          | exact absurd h33 (by decide)
  · intro h2
    refine kx_iconst (nI 1) d_M_goes_5 (by decide) ?_
    refine kx_goto 26 d_M_goes_6 (by decide) ?_
    first
      | (have hg : goI a b c = 1 := by unfold goI; rw [if_pos h2]
         rw [hg])
      | (have hg : goI a b c = 2 := by unfold goI; rw [if_neg h2, if_pos h10]
         rw [hg])
      | (have hg : goI a b c = 3 := by unfold goI; rw [if_neg h2, if_neg h10, if_pos h18]
         rw [hg])
      | (have hg : goI a b c = 0 := by unfold goI; rw [if_neg h2, if_neg h10, if_neg h18]
         rw [hg])
    refine mF_put0 d_M_goes_26 f_M_89 hM hO (fun w hM hO => ?_)
    refine kx_aload_n d_M_goes_29 rfl (by first | rfl | exact kx_rf _) ?_
    refine kx_get _ d_M_goes_30 f_M_89 hM.1 (by rfl) ?_
    rw [up1_s]
    first | refine kx_if_ne_n 40 d_M_goes_33 (by decide) (by omega) ?_ ?_ | refine kx_if_ne 40 d_M_goes_33 (by decide) ?_ ?_
    · intro h33
      refine kx_iconst (nI 0) d_M_goes_40 (by decide) ?_
      refine kx_zret d_M_goes_41 rfl (by decide) (by decide) (by decide) ?_
      first
        | exact ⟨rfl, hM, hO⟩
        | exact absurd h33 (by decide)
    · intro h33
      refine kx_iconst (nI 1) d_M_goes_36 (by decide) ?_
      refine kx_goto 41 d_M_goes_37 (by decide) ?_
      refine kx_zret d_M_goes_41 rfl (by decide) (by decide) (by decide) ?_
      first
        | exact ⟨rfl, hM, hO⟩
        | exact absurd h33 (by decide)
theorem d_M_find_0 : decode c_M_find 0 = .ok (.iconst 0, 1) := by decide +kernel
theorem d_M_find_1 : decode c_M_find 1 = .ok (.istore_n 2, 1) := by decide +kernel
theorem d_M_find_2 : decode c_M_find 2 = .ok (.iload_n 2, 1) := by decide +kernel
theorem d_M_find_3 : decode c_M_find 3 = .ok (.aload_n 0, 1) := by decide +kernel
theorem d_M_find_4 : decode c_M_find 4 = .ok (.getfield 93, 3) := by decide +kernel
theorem d_M_find_7 : decode c_M_find 7 = .ok (.if_icmp .ge 21, 3) := by decide +kernel
theorem d_M_find_10 : decode c_M_find 10 = .ok (.aload_n 0, 1) := by decide +kernel
theorem d_M_find_11 : decode c_M_find 11 = .ok (.getfield 7, 3) := by decide +kernel
theorem d_M_find_14 : decode c_M_find 14 = .ok (.iload_n 2, 1) := by decide +kernel
theorem d_M_find_15 : decode c_M_find 15 = .ok (.iaload, 1) := by decide +kernel
theorem d_M_find_16 : decode c_M_find 16 = .ok (.iload_n 1, 1) := by decide +kernel
theorem d_M_find_17 : decode c_M_find 17 = .ok (.if_icmp .ne 5, 3) := by decide +kernel
theorem d_M_find_20 : decode c_M_find 20 = .ok (.iload_n 2, 1) := by decide +kernel
theorem d_M_find_21 : decode c_M_find 21 = .ok (.ireturn, 1) := by decide +kernel
theorem d_M_find_22 : decode c_M_find 22 = .ok (.iinc 2 1, 3) := by decide +kernel
theorem d_M_find_25 : decode c_M_find 25 = .ok (.goto (-23), 3) := by decide +kernel
theorem d_M_find_28 : decode c_M_find 28 = .ok (.iconst (-1), 1) := by decide +kernel
theorem d_M_find_29 : decode c_M_find 29 = .ok (.ireturn, 1) := by decide +kernel
set_option maxRecDepth 20000 in
set_option maxHeartbeats 4000000 in
theorem l_M_find {E : kx_E} {w : va_W} {ma : Nat → Nat} {F : Nat → Int32} {A : Nat → Nat → Int32} (hM : Mdl E w ma F A) {n : Nat} (hn : F 1 = nI n) (h24 : n ≤ 24) {x : Int32} {z : kx_Z} {Q : kx_O → va_W → Prop} {r : Int32} (hQ : Q (.inl (some (.int r))) w) : ∀ (m k : Nat), m + k = n → (∀ i, k ≤ i → i < n → A 0 i = x → r = nI i ∨ ∃ j, k ≤ j ∧ j < i ∧ A 0 j = x) → ((∀ i, k ≤ i → i < n → A 0 i ≠ x) → r = -1) → kx_R E Y_M_find z 2 [(0, .ref (ma 0)), (1, .int x), (2, .int (nI k))] [] w 0 0 Q := by
  intro m
  induction m with
  | zero =>
    intro k hk h1 h2
    have hr := h2 (fun i hi hi2 => absurd hi2 (by omega))
    subst hr
    clear h1 h2
    refine kx_iload_n d_M_find_2 rfl ?_
    refine kx_aload_n d_M_find_3 rfl (by first | rfl | exact kx_rf _) ?_
    refine kx_get _ d_M_find_4 f_M_93 hM.1 (by rfl) ?_
    rw [hn]
    first | refine kx_icmp_ge_n 28 d_M_find_7 (by decide) (by omega) (by omega) ?_ ?_ | refine kx_icmp_ge 28 d_M_find_7 (by decide) ?_ ?_
    · intro h7
      refine kx_iconst (-1) d_M_find_28 (by decide) ?_
      refine kx_iret d_M_find_29 rfl (by decide) (by decide) ?_
      exact hQ
    · intro h7
      exact absurd h7 (by omega)
  | succ m ih =>
    intro k hk h1 h2
    have hk0 := h1 k (Nat.le_refl k) (by omega)
    have hk1 : A 0 k = x → r = nI k := fun e => by
      rcases hk0 e with h | ⟨j, hj1, hj2, _⟩
      · exact h
      · omega
    have g1 : A 0 k ≠ x → ∀ i, k + 1 ≤ i → i < n → A 0 i = x → r = nI i ∨ ∃ j, k + 1 ≤ j ∧ j < i ∧ A 0 j = x := fun hx i hi hi2 e => by
      rcases h1 i (by omega) hi2 e with h | ⟨j, hj1, hj2, hj3⟩
      · exact Or.inl h
      · refine Or.inr ⟨j, ?_, hj2, hj3⟩
        rcases Nat.lt_or_ge k j with q | q
        · omega
        · have : j = k := by omega
          subst this
          exact absurd hj3 hx
    have g2 : A 0 k ≠ x → (∀ i, k + 1 ≤ i → i < n → A 0 i ≠ x) → r = -1 := fun hx h => h2 (fun i hi hi2 => by
      by_cases e : i = k
      · subst e; exact hx
      · exact h i (by omega) hi2)
    clear h1 h2 hk0
    refine kx_iload_n d_M_find_2 rfl ?_
    refine kx_aload_n d_M_find_3 rfl (by first | rfl | exact kx_rf _) ?_
    refine kx_get _ d_M_find_4 f_M_93 hM.1 (by rfl) ?_
    rw [hn]
    first | refine kx_icmp_ge_n 28 d_M_find_7 (by decide) (by omega) (by omega) ?_ ?_ | refine kx_icmp_ge 28 d_M_find_7 (by decide) ?_ ?_
    · intro h7
      exact absurd h7 (by omega)
    · intro h7
      refine kx_aload_n d_M_find_10 rfl (by first | rfl | exact kx_rf _) ?_
      refine kx_get _ d_M_find_11 f_M_7 hM.1 (by rfl) ?_
      refine kx_iload_n d_M_find_14 rfl ?_
      refine kx_iald d_M_find_15 hM.a0 (by omega) (by decide) ?_
      refine kx_iload_n d_M_find_16 rfl ?_
      refine kx_icmp_ne 22 d_M_find_17 (by decide) ?_ ?_
      · intro h17
        refine kx_iinc _ d_M_find_22 rfl (by decide) (nI_1 _) ?_
        refine kx_goto 2 d_M_find_25 (by decide) ?_
        refine kx_loc (L1 := [(0, .ref (ma 0)), (1, .int x), (2, .int (nI (k + 1)))]) ⟨rfl, rfl, rfl, trivial⟩ ?_
        exact ih (k + 1) (by omega) (g1 h17) (g2 h17)
      · intro h17
        refine kx_iload_n d_M_find_20 rfl ?_
        refine kx_iret d_M_find_21 rfl (by decide) (by decide) ?_
        rw [hk1 (Decidable.byContradiction (fun q => absurd h17 q))] at hQ
        exact hQ
set_option maxRecDepth 20000 in
set_option maxHeartbeats 4000000 in
theorem m_M_find {E : kx_E} {w : va_W} {ma : Nat → Nat} {F : Nat → Int32} {A : Nat → Nat → Int32} (hM : Mdl E w ma F A) {n : Nat} (hn : F 1 = nI n) (h24 : n ≤ 24) {x : Int32} {c : Nat} (hc : c < n) (hx : A 0 c = x) (hu : ∀ i, i < c → A 0 i ≠ x) : kx_S E Y_M_find [.ref (ma 0), .int x] w (kx_Qi w (nI c)) := by
  refine kx_go (by decide) rfl rfl (Nat.le_of_ble_eq_true rfl) (kx_cc rfl (kx_cc rfl kx_c0)) (fun z => ?_)
  have hO : kx_off w w mdlN := kx_off.rf
  refine kx_iconst (nI 0) d_M_find_0 (by decide) ?_
  refine kx_istore_n d_M_find_1 (by decide) ?_
  refine kx_loc (L1 := [(0, .ref (ma 0)), (1, .int x), (2, .int (nI 0))]) ⟨rfl, rfl, rfl, trivial⟩ ?_
  refine l_M_find hM hn h24 (r := nI c) ⟨rfl, rfl⟩ n 0 rfl (fun i _ hi e => ?_) (fun h => absurd hx (h c (Nat.zero_le _) hc))
  rcases Nat.lt_trichotomy i c with q | q | q
  · exact absurd e (hu i q)
  · exact Or.inl (by rw [q])
  · exact Or.inr ⟨c, Nat.zero_le _, q, hx⟩
set_option maxRecDepth 20000 in
set_option maxHeartbeats 4000000 in
theorem m_M_find_no {E : kx_E} {w : va_W} {ma : Nat → Nat} {F : Nat → Int32} {A : Nat → Nat → Int32} (hM : Mdl E w ma F A) {n : Nat} (hn : F 1 = nI n) (h24 : n ≤ 24) {x : Int32} (hx : ∀ i, i < n → A 0 i ≠ x) : kx_S E Y_M_find [.ref (ma 0), .int x] w (kx_Qi w (-1)) := by
  refine kx_go (by decide) rfl rfl (Nat.le_of_ble_eq_true rfl) (kx_cc rfl (kx_cc rfl kx_c0)) (fun z => ?_)
  have hO : kx_off w w mdlN := kx_off.rf
  refine kx_iconst (nI 0) d_M_find_0 (by decide) ?_
  refine kx_istore_n d_M_find_1 (by decide) ?_
  refine kx_loc (L1 := [(0, .ref (ma 0)), (1, .int x), (2, .int (nI 0))]) ⟨rfl, rfl, rfl, trivial⟩ ?_
  exact l_M_find hM hn h24 (r := -1) ⟨rfl, rfl⟩ n 0 rfl (fun i _ hi e => absurd e (hx i hi)) (fun _ => rfl)
theorem d_M_isEnd_0 : decode c_M_isEnd 0 = .ok (.iload_n 0, 1) := by decide +kernel
theorem d_M_isEnd_1 : decode c_M_isEnd 1 = .ok (.ifCond .eq 8, 3) := by decide +kernel
theorem d_M_isEnd_4 : decode c_M_isEnd 4 = .ok (.iload_n 0, 1) := by decide +kernel
theorem d_M_isEnd_5 : decode c_M_isEnd 5 = .ok (.iconst 1, 1) := by decide +kernel
theorem d_M_isEnd_6 : decode c_M_isEnd 6 = .ok (.if_icmp .ne 7, 3) := by decide +kernel
theorem d_M_isEnd_9 : decode c_M_isEnd 9 = .ok (.iconst 1, 1) := by decide +kernel
theorem d_M_isEnd_10 : decode c_M_isEnd 10 = .ok (.goto 4, 3) := by decide +kernel
theorem d_M_isEnd_13 : decode c_M_isEnd 13 = .ok (.iconst 0, 1) := by decide +kernel
theorem d_M_isEnd_14 : decode c_M_isEnd 14 = .ok (.ireturn, 1) := by decide +kernel
set_option maxRecDepth 20000 in
set_option maxHeartbeats 4000000 in
def isE (e : Int32) : Nat := if e = nI 0 ∨ e = nI 1 then 1 else 0
theorem m_M_isEnd {E : kx_E} {w : va_W} (e : Int32) : kx_S E Y_M_isEnd [.int e] w (kx_Qi w (nI (isE e))) := by
  refine kx_go (by decide) rfl rfl (Nat.le_of_ble_eq_true rfl) (kx_cc rfl kx_c0) (fun z => ?_)
  refine kx_iload_n d_M_isEnd_0 rfl ?_
  refine kx_if_eq 9 d_M_isEnd_1 (by decide) ?_ ?_
  · intro h1
    refine kx_iconst (nI 1) d_M_isEnd_9 (by decide) ?_
    refine kx_goto 14 d_M_isEnd_10 (by decide) ?_
    refine kx_zret d_M_isEnd_14 rfl (by decide) (by decide) (by decide) ?_
    first
      | (have h : isE e = 1 := if_pos (Or.inl h1)
         rw [h]
         exact ⟨rfl, rfl⟩)
      | (have h : isE e = 1 := if_pos (Or.inr (Decidable.byContradiction (fun q => absurd h6 q)))
         rw [h]
         exact ⟨rfl, rfl⟩)
      | (have h : isE e = 0 := if_neg (fun q => by rcases q with q | q; exact h1 q; exact h6 q)
         rw [h]
         exact ⟨rfl, rfl⟩)
  · intro h1
    refine kx_iload_n d_M_isEnd_4 rfl ?_
    refine kx_iconst (nI 1) d_M_isEnd_5 (by decide) ?_
    refine kx_icmp_ne 13 d_M_isEnd_6 (by decide) ?_ ?_
    · intro h6
      refine kx_iconst (nI 0) d_M_isEnd_13 (by decide) ?_
      refine kx_zret d_M_isEnd_14 rfl (by decide) (by decide) (by decide) ?_
      first
        | (have h : isE e = 1 := if_pos (Or.inl h1)
           rw [h]
           exact ⟨rfl, rfl⟩)
        | (have h : isE e = 1 := if_pos (Or.inr (Decidable.byContradiction (fun q => absurd h6 q)))
           rw [h]
           exact ⟨rfl, rfl⟩)
        | (have h : isE e = 0 := if_neg (fun q => by rcases q with q | q; exact h1 q; exact h6 q)
           rw [h]
           exact ⟨rfl, rfl⟩)
    · intro h6
      refine kx_iconst (nI 1) d_M_isEnd_9 (by decide) ?_
      refine kx_goto 14 d_M_isEnd_10 (by decide) ?_
      refine kx_zret d_M_isEnd_14 rfl (by decide) (by decide) (by decide) ?_
      first
        | (have h : isE e = 1 := if_pos (Or.inl h1)
           rw [h]
           exact ⟨rfl, rfl⟩)
        | (have h : isE e = 1 := if_pos (Or.inr (Decidable.byContradiction (fun q => absurd h6 q)))
           rw [h]
           exact ⟨rfl, rfl⟩)
        | (have h : isE e = 0 := if_neg (fun q => by rcases q with q | q; exact h1 q; exact h6 q)
           rw [h]
           exact ⟨rfl, rfl⟩)
end
