/-! The start: classes, arrays, what throwing wants -/
theorem st_in {w : Cond} (i : Nat) (h : tables_1[i]? = some w) : w ∈ lw_tbl := List.mem_append_right _ (List.mem_of_getElem? h)
theorem st_ws {args : Array Value} {s : State} (htt : ∀ w ∈ lw_tbl, w.before args s = true) : ∀ w ∈ kx_WS, w.before args s = true := fun w hw => htt w (List.mem_filter.mp hw).1
theorem st_arr {args : Array Value} {s : State} {ty : FieldType} (h : (Cond.arrayClass ty).before args s = true) : ∃ cA, ArrOfT s cA ty ∧ s.vm.findClass ("[" ++ ty.toString) = some cA := by
  obtain ⟨c, k, comp, h1, h2, h3⟩ := Cond.arrayClass_spec h
  exact ⟨c, fun n z => ⟨fun k h => (by cases h), k, h2, comp, h3⟩, h1⟩
theorem st_arq {args : Array Value} {s : State} {C : String} (h : (Cond.arrayOver (.object C)).before args s = true) : ∃ cA, ArrOfT s cA (.object C) ∧ va_RA s cA (.object C) := by
  obtain ⟨comp, c, k, h1, h2, h3, h4, h5⟩ := Cond.arrayOver_spec h
  exact ⟨c, fun n z => ⟨fun k h => (by cases h), k, h3, comp, h4⟩, k, comp, h3, h4, h1, h5⟩
theorem st_cl {args : Array Value} {s : State} (hts : ∀ w ∈ kx_WS, w.before args s = true) : ∀ c : Nat, ∃ g : ClassId × (Nat → Nat), ∀ q, vwCl[c]? = some q → u_Kn s q.1 q.2.1 q.2.2 g.1 g.2
  | 0 => by
    obtain ⟨cC, iS, h⟩ := u_known hts u_C (n := 11) (hts _ (kx_in 81 (by decide +kernel) rfl))
    exact ⟨(cC, iS), fun q hq => by cases hq; exact h⟩
  | 1 => by
    obtain ⟨cC, iS, h⟩ := u_known hts u_N (n := 9) (hts _ (kx_in 204 (by decide +kernel) rfl))
    exact ⟨(cC, iS), fun q hq => by cases hq; exact h⟩
  | 2 => by
    obtain ⟨cC, iS, h⟩ := u_known hts u_F (n := 6) (hts _ (kx_in 212 (by decide +kernel) rfl))
    exact ⟨(cC, iS), fun q hq => by cases hq; exact h⟩
  | 3 => by
    obtain ⟨cC, iS, h⟩ := u_known hts u_R (n := 2) (hts _ (kx_in 27 (by decide +kernel) rfl))
    exact ⟨(cC, iS), fun q hq => by cases hq; exact h⟩
  | 4 => by
    obtain ⟨cC, iS, h⟩ := u_known hts u_B (n := 9) (hts _ (kx_in 17 (by decide +kernel) rfl))
    exact ⟨(cC, iS), fun q hq => by cases hq; exact h⟩
  | 5 => by
    obtain ⟨cC, iS, h⟩ := u_known hts u_M (n := 31) (hts _ (kx_in 595 (by decide +kernel) rfl))
    exact ⟨(cC, iS), fun q hq => by cases hq; exact h⟩
  | _ + 6 => ⟨(0, fun _ => 0), fun q hq => by cases hq⟩
theorem st_K {args : Array Value} {s : State} (htt : ∀ w ∈ lw_tbl, w.before args s = true) : ∃ (D : va_G) (tys : List (ClassId × FieldType)), va_K D vwCl tys s ∧ tys.map (·.2) = kx_tys := by
  have hts := st_ws htt
  obtain ⟨g, hg⟩ := Classical.axiomOfChoice (st_cl hts)
  obtain ⟨c0, a0, b0⟩ := st_arr (hts _ ac_int)
  obtain ⟨c1, a1, b1⟩ := st_arr (hts _ ac_boolean)
  obtain ⟨c2, a2, b2⟩ := st_arr (hts _ ac_long)
  obtain ⟨c3, a3, b3⟩ := st_arq (C := "ConsistBus$Car") (htt _ (st_in 25 (by decide +kernel)))
  obtain ⟨c4, a4, b4⟩ := st_arq (C := "ConsistBus$End") (htt _ (st_in 203 (by decide +kernel)))
  refine ⟨(fun c => (g c).1, fun c => (g c).2), [(c0, .int), (c1, .boolean), (c2, .long), (c3, .object "ConsistBus$Car"), (c4, .object "ConsistBus$End")], ⟨fun c q hq => hg c q hq, fun k q hk => ?_⟩, rfl⟩
  match k, hk with
  | 0, hk => cases hk; exact ⟨a0, b0⟩
  | 1, hk => cases hk; exact ⟨a1, b1⟩
  | 2, hk => cases hk; exact ⟨a2, b2⟩
  | 3, hk => cases hk; exact ⟨a3, b3⟩
  | 4, hk => cases hk; exact ⟨a4, b4⟩
  | k + 5, hk => cases hk
set_option maxRecDepth 20000 in
set_option maxHeartbeats 4000000 in
theorem st_s0 {args : Array Value} {s : State} (htt : ∀ w ∈ lw_tbl, w.before args s = true) (hs : ∀ c ∈ flatC (Jvm.Cond.and given_1 narrow_1), c.before args s = true) : ∃ sa, vk_R "ConsistBus" 32 "id or mask out of range" sa s := by
  obtain ⟨a, _, _, _, h1, -⟩ := Cond.exactly_spec (hs (.exactly (.string "ConsistBus" 32) "java/lang/String") (by decide +kernel))
  exact ⟨a, vk_R.of (htt _ (st_in 155 (by decide +kernel))) h1⟩
set_option maxRecDepth 20000 in
set_option maxHeartbeats 4000000 in
theorem st_s1 {args : Array Value} {s : State} (htt : ∀ w ∈ lw_tbl, w.before args s = true) (hs : ∀ c ∈ flatC (Jvm.Cond.and given_1 narrow_1), c.before args s = true) : ∃ sa, vk_R "ConsistBus" 43 "the id is taken, or the train is full" sa s := by
  obtain ⟨a, _, _, _, h1, -⟩ := Cond.exactly_spec (hs (.exactly (.string "ConsistBus" 43) "java/lang/String") (by decide +kernel))
  exact ⟨a, vk_R.of (htt _ (st_in 191 (by decide +kernel))) h1⟩
set_option maxRecDepth 20000 in
set_option maxHeartbeats 4000000 in
theorem st_s2 {args : Array Value} {s : State} (htt : ∀ w ∈ lw_tbl, w.before args s = true) (hs : ∀ c ∈ flatC (Jvm.Cond.and given_1 narrow_1), c.before args s = true) : ∃ sa, vk_R "ConsistBus" 160 "there is no such car" sa s := by
  obtain ⟨a, _, _, _, h1, -⟩ := Cond.exactly_spec (hs (.exactly (.string "ConsistBus" 160) "java/lang/String") (by decide +kernel))
  exact ⟨a, vk_R.of (htt _ (st_in 357 (by decide +kernel))) h1⟩
set_option maxRecDepth 20000 in
set_option maxHeartbeats 4000000 in
theorem st_s3 {args : Array Value} {s : State} (htt : ∀ w ∈ lw_tbl, w.before args s = true) (hs : ∀ c ∈ flatC (Jvm.Cond.and given_1 narrow_1), c.before args s = true) : ∃ sa, vk_R "ConsistBus" 163 "there is no such end" sa s := by
  obtain ⟨a, _, _, _, h1, -⟩ := Cond.exactly_spec (hs (.exactly (.string "ConsistBus" 163) "java/lang/String") (by decide +kernel))
  exact ⟨a, vk_R.of (htt _ (st_in 364 (by decide +kernel))) h1⟩
set_option maxRecDepth 20000 in
set_option maxHeartbeats 4000000 in
theorem st_s4 {args : Array Value} {s : State} (htt : ∀ w ∈ lw_tbl, w.before args s = true) (hs : ∀ c ∈ flatC (Jvm.Cond.and given_1 narrow_1), c.before args s = true) : ∃ sa, vk_R "ConsistBus" 71 "an end is coupled, or both cars are of one run" sa s := by
  obtain ⟨a, _, _, _, h1, -⟩ := Cond.exactly_spec (hs (.exactly (.string "ConsistBus" 71) "java/lang/String") (by decide +kernel))
  exact ⟨a, vk_R.of (htt _ (st_in 369 (by decide +kernel))) h1⟩
set_option maxRecDepth 20000 in
set_option maxHeartbeats 4000000 in
theorem st_s5 {args : Array Value} {s : State} (htt : ∀ w ∈ lw_tbl, w.before args s = true) (hs : ∀ c ∈ flatC (Jvm.Cond.and given_1 narrow_1), c.before args s = true) : ∃ sa, vk_R "ConsistBus" 87 "the end is not coupled" sa s := by
  obtain ⟨a, _, _, _, h1, -⟩ := Cond.exactly_spec (hs (.exactly (.string "ConsistBus" 87) "java/lang/String") (by decide +kernel))
  exact ⟨a, vk_R.of (htt _ (st_in 385 (by decide +kernel))) h1⟩
set_option maxRecDepth 20000 in
set_option maxHeartbeats 4000000 in
theorem st_s6 {args : Array Value} {s : State} (htt : ∀ w ∈ lw_tbl, w.before args s = true) (hs : ∀ c ∈ flatC (Jvm.Cond.and given_1 narrow_1), c.before args s = true) : ∃ sa, vk_R "ConsistBus" 98 "rounds out of range" sa s := by
  obtain ⟨a, _, _, _, h1, -⟩ := Cond.exactly_spec (hs (.exactly (.string "ConsistBus" 98) "java/lang/String") (by decide +kernel))
  exact ⟨a, vk_R.of (htt _ (st_in 414 (by decide +kernel))) h1⟩
set_option maxRecDepth 20000 in
set_option maxHeartbeats 4000000 in
theorem st_s7 {args : Array Value} {s : State} (htt : ∀ w ∈ lw_tbl, w.before args s = true) (hs : ∀ c ∈ flatC (Jvm.Cond.and given_1 narrow_1), c.before args s = true) : ∃ sa, vk_R "ConsistBus" 109 "there is no such fact" sa s := by
  obtain ⟨a, _, _, _, h1, -⟩ := Cond.exactly_spec (hs (.exactly (.string "ConsistBus" 109) "java/lang/String") (by decide +kernel))
  exact ⟨a, vk_R.of (htt _ (st_in 510 (by decide +kernel))) h1⟩
set_option maxRecDepth 20000 in
set_option maxHeartbeats 4000000 in
theorem st_s8 {args : Array Value} {s : State} (htt : ∀ w ∈ lw_tbl, w.before args s = true) (hs : ∀ c ∈ flatC (Jvm.Cond.and given_1 narrow_1), c.before args s = true) : ∃ sa, vk_R "ConsistBus" 126 "byte or value out of range" sa s := by
  obtain ⟨a, _, _, _, h1, -⟩ := Cond.exactly_spec (hs (.exactly (.string "ConsistBus" 126) "java/lang/String") (by decide +kernel))
  exact ⟨a, vk_R.of (htt _ (st_in 546 (by decide +kernel))) h1⟩
set_option maxRecDepth 20000 in
set_option maxHeartbeats 4000000 in
theorem st_s9 {args : Array Value} {s : State} (htt : ∀ w ∈ lw_tbl, w.before args s = true) (hs : ∀ c ∈ flatC (Jvm.Cond.and given_1 narrow_1), c.before args s = true) : ∃ sa, vk_R "ConsistBus" 132 "byte out of range" sa s := by
  obtain ⟨a, _, _, _, h1, -⟩ := Cond.exactly_spec (hs (.exactly (.string "ConsistBus" 132) "java/lang/String") (by decide +kernel))
  exact ⟨a, vk_R.of (htt _ (st_in 561 (by decide +kernel))) h1⟩
set_option maxRecDepth 20000 in
set_option maxHeartbeats 4000000 in
theorem st_s10 {args : Array Value} {s : State} (htt : ∀ w ∈ lw_tbl, w.before args s = true) (hs : ∀ c ∈ flatC (Jvm.Cond.and given_1 narrow_1), c.before args s = true) : ∃ sa, vk_R "ConsistBus" 137 "there is no such function" sa s := by
  obtain ⟨a, _, _, _, h1, -⟩ := Cond.exactly_spec (hs (.exactly (.string "ConsistBus" 137) "java/lang/String") (by decide +kernel))
  exact ⟨a, vk_R.of (htt _ (st_in 573 (by decide +kernel))) h1⟩
set_option maxRecDepth 20000 in
set_option maxHeartbeats 4000000 in
theorem st_s11 {args : Array Value} {s : State} (htt : ∀ w ∈ lw_tbl, w.before args s = true) (hs : ∀ c ∈ flatC (Jvm.Cond.and given_1 narrow_1), c.before args s = true) : ∃ sa, vk_R "ConsistBus" 156 "there is no such count" sa s := by
  obtain ⟨a, _, _, _, h1, -⟩ := Cond.exactly_spec (hs (.exactly (.string "ConsistBus" 156) "java/lang/String") (by decide +kernel))
  exact ⟨a, vk_R.of (htt _ (st_in 593 (by decide +kernel))) h1⟩
theorem st_n0 {args : Array Value} {s : State} (hs : ∀ c ∈ flatC (Jvm.Cond.and given_1 narrow_1), c.before args s = true) : va_Nc "java/lang/IllegalArgumentException" "java/lang/IllegalStateException" s := va_Nc.of (hs (.not (.castable "java/lang/IllegalArgumentException" "java/lang/IllegalStateException")) (by decide +kernel))
theorem st_n1 {args : Array Value} {s : State} (hs : ∀ c ∈ flatC (Jvm.Cond.and given_1 narrow_1), c.before args s = true) : va_Nc "java/lang/IllegalArgumentException" "java/util/NoSuchElementException" s := va_Nc.of (hs (.not (.castable "java/lang/IllegalArgumentException" "java/util/NoSuchElementException")) (by decide +kernel))
theorem st_n2 {args : Array Value} {s : State} (hs : ∀ c ∈ flatC (Jvm.Cond.and given_1 narrow_1), c.before args s = true) : va_Nc "java/lang/IllegalStateException" "java/lang/IllegalArgumentException" s := va_Nc.of (hs (.not (.castable "java/lang/IllegalStateException" "java/lang/IllegalArgumentException")) (by decide +kernel))
theorem st_n3 {args : Array Value} {s : State} (hs : ∀ c ∈ flatC (Jvm.Cond.and given_1 narrow_1), c.before args s = true) : va_Nc "java/lang/IllegalStateException" "java/util/NoSuchElementException" s := va_Nc.of (hs (.not (.castable "java/lang/IllegalStateException" "java/util/NoSuchElementException")) (by decide +kernel))
theorem st_n4 {args : Array Value} {s : State} (hs : ∀ c ∈ flatC (Jvm.Cond.and given_1 narrow_1), c.before args s = true) : va_Nc "java/util/NoSuchElementException" "java/lang/IllegalArgumentException" s := va_Nc.of (hs (.not (.castable "java/util/NoSuchElementException" "java/lang/IllegalArgumentException")) (by decide +kernel))
theorem st_n5 {args : Array Value} {s : State} (hs : ∀ c ∈ flatC (Jvm.Cond.and given_1 narrow_1), c.before args s = true) : va_Nc "java/util/NoSuchElementException" "java/lang/IllegalStateException" s := va_Nc.of (hs (.not (.castable "java/util/NoSuchElementException" "java/lang/IllegalStateException")) (by decide +kernel))
set_option maxRecDepth 20000 in
set_option maxHeartbeats 4000000 in
theorem st_Ex {E : kx_E} {args : Array Value} {s : State} (htt : ∀ w ∈ lw_tbl, w.before args s = true) (hgv : (Jvm.Cond.and given_1 narrow_1).before args s = true) (hst : E.1.stackTraces = false) (hb : E.2.2.2 = s.heap.size) : kx_Ex E s := by
  have hs := flat_of_before _ hgv
  have hA : ∀ a : Nat, a < s.heap.size → ¬ kx_A E.2.2.2 a := fun a h q => by have q : E.2.2.2 ≤ a := q; omega
  refine ⟨vx_Zqof (htt _ (st_in 141 (by decide +kernel))) (htt _ (st_in 4 (by decide +kernel))) (hs _ (by decide +kernel)) hA, vx_Zqof (htt _ (st_in 143 (by decide +kernel))) (htt _ (st_in 4 (by decide +kernel))) (hs _ (by decide +kernel)) hA, ?_, ?_, ?_, va_AO.of (htt _ (st_in 25 (by decide +kernel))), va_AO.of (htt _ (st_in 203 (by decide +kernel))), hst, ?_⟩
  · exact List.forall_mem_cons.mpr ⟨st_s0 htt hs, List.forall_mem_cons.mpr ⟨st_s1 htt hs, List.forall_mem_cons.mpr ⟨st_s2 htt hs, List.forall_mem_cons.mpr ⟨st_s3 htt hs, List.forall_mem_cons.mpr ⟨st_s4 htt hs, List.forall_mem_cons.mpr ⟨st_s5 htt hs, List.forall_mem_cons.mpr ⟨st_s6 htt hs, List.forall_mem_cons.mpr ⟨st_s7 htt hs, List.forall_mem_cons.mpr ⟨st_s8 htt hs, List.forall_mem_cons.mpr ⟨st_s9 htt hs, List.forall_mem_cons.mpr ⟨st_s10 htt hs, List.forall_mem_cons.mpr ⟨st_s11 htt hs, fun _ h => absurd h List.not_mem_nil⟩⟩⟩⟩⟩⟩⟩⟩⟩⟩⟩⟩
  · exact List.forall_mem_cons.mpr ⟨va_Nw.of rfl (htt _ (st_in 118 (by decide +kernel))), List.forall_mem_cons.mpr ⟨va_Nw.of rfl (htt _ (st_in 120 (by decide +kernel))), List.forall_mem_cons.mpr ⟨va_Nw.of rfl (htt _ (st_in 122 (by decide +kernel))), fun _ h => absurd h List.not_mem_nil⟩⟩⟩
  · exact List.forall_mem_cons.mpr ⟨st_n0 hs, List.forall_mem_cons.mpr ⟨st_n1 hs, List.forall_mem_cons.mpr ⟨st_n2 hs, List.forall_mem_cons.mpr ⟨st_n3 hs, List.forall_mem_cons.mpr ⟨st_n4 hs, List.forall_mem_cons.mpr ⟨st_n5 hs, fun _ h => absurd h List.not_mem_nil⟩⟩⟩⟩⟩⟩
  · exact List.forall_mem_cons.mpr ⟨va_Nw.of rfl (htt _ (st_in 116 (by decide +kernel))), List.forall_mem_cons.mpr ⟨va_Nw.of rfl (htt _ (st_in 184 (by decide +kernel))), List.forall_mem_cons.mpr ⟨va_Nw.of rfl (htt _ (st_in 350 (by decide +kernel))), fun _ h => absurd h List.not_mem_nil⟩⟩⟩
