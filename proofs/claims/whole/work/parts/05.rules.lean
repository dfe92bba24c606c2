section KXR
variable {E : kx_E} {Y : kx_Y} {z : kx_Z} {pc : Nat} {L : kx_L} {st : List Value} {w : va_W} {kc ks : Nat} {Q : kx_O → va_W → Prop}
theorem kx_iconst {n : Int} (v : Int32) (hd : decode Y.1 pc = .ok (.iconst n, 1)) (hv : Int32.ofInt n = v)
    (kk : kx_R E Y z (pc + 1) L (.int v :: st) w kc ks Q) : kx_R E Y z pc L st w kc ks Q := by
  intro hC H ls locs hl hP hD hS
  exact lv_iconst hC.1 hC.2.1 hd hv (kk hC H ls locs hl hP hD hS)
theorem kx_bipush {n : Int} (v : Int32) (hd : decode Y.1 pc = .ok (.bipush n, 2)) (hv : (Int8.ofInt n).toInt32 = v)
    (kk : kx_R E Y z (pc + 2) L (.int v :: st) w kc ks Q) : kx_R E Y z pc L st w kc ks Q := by
  intro hC H ls locs hl hP hD hS
  exact lv_bipush hC.1 hC.2.1 hd hv (kk hC H ls locs hl hP hD hS)
theorem kx_sipush {n : Int} (v : Int32) (hd : decode Y.1 pc = .ok (.sipush n, 3)) (hv : (Int16.ofInt n).toInt32 = v)
    (kk : kx_R E Y z (pc + 3) L (.int v :: st) w kc ks Q) : kx_R E Y z pc L st w kc ks Q := by
  intro hC H ls locs hl hP hD hS
  exact lv_sipush hC.1 hC.2.1 hd hv (kk hC H ls locs hl hP hD hS)
theorem kx_null (hd : decode Y.1 pc = .ok (.aconst_null, 1))
    (kk : kx_R E Y z (pc + 1) L (.null :: st) w kc ks Q) : kx_R E Y z pc L st w kc ks Q := by
  intro hC H ls locs hl hP hD hS
  exact lv_null hC.1 hC.2.1 hd (kk hC H ls locs hl hP hD hS)
theorem kx_ldci {idx : Nat} (v : Int32) (hd : decode Y.1 pc = .ok (.ldc idx, 2)) (hc : Cond.constant Y.2.2.1 idx v ∈ kx_WS)
    (kk : kx_R E Y z (pc + 2) L (.int v :: st) w kc ks Q) : kx_R E Y z pc L st w kc ks Q := by
  intro hC H ls locs hl hP hD hS
  exact lv_ldc hC.1 hC.2.1 hC.2.2.2.1 (hC.2.2.2.2.1 _ hc) hd (kk hC H ls locs hl hP hD hS)
theorem kx_iload_n {k : Fin 4} {x : Int32} (hd : decode Y.1 pc = .ok (.iload_n k, 1)) (hv : kx_lk L k.val = some (.int x))
    (kk : kx_R E Y z (pc + 1) L (.int x :: st) w kc ks Q) : kx_R E Y z pc L st w kc ks Q := by
  intro hC H ls locs hl hP hD hS
  exact lv_iload_n hC.1 hC.2.1 hd rfl (hl.2.2 _ _ hv).2 (kk hC H ls locs hl hP hD hS)
theorem kx_iload {k : Nat} {x : Int32} (hd : decode Y.1 pc = .ok (.iload k, 2)) (hv : kx_lk L k = some (.int x))
    (kk : kx_R E Y z (pc + 2) L (.int x :: st) w kc ks Q) : kx_R E Y z pc L st w kc ks Q := by
  intro hC H ls locs hl hP hD hS
  exact lv_iload hC.1 hC.2.1 hd (hl.2.2 _ _ hv).2 (kk hC H ls locs hl hP hD hS)
theorem kx_aload_n {k : Fin 4} {v : Value} (hd : decode Y.1 pc = .ok (.aload_n k, 1)) (hv : kx_lk L k.val = some v) (hr : v.isRef = true)
    (kk : kx_R E Y z (pc + 1) L (v :: st) w kc ks Q) : kx_R E Y z pc L st w kc ks Q := by
  intro hC H ls locs hl hP hD hS
  cases v <;> first | (simp [Value.isRef] at hr; done) | exact lv_aload_n hC.1 hC.2.1 hd rfl (hl.2.2 _ _ hv).2 (kk hC H ls locs hl hP hD hS) | exact lv_aload_nN hC.1 hC.2.1 hd rfl (hl.2.2 _ _ hv).2 (kk hC H ls locs hl hP hD hS)
theorem kx_aload {k : Nat} {v : Value} (hd : decode Y.1 pc = .ok (.aload k, 2)) (hv : kx_lk L k = some v) (hr : v.isRef = true)
    (kk : kx_R E Y z (pc + 2) L (v :: st) w kc ks Q) : kx_R E Y z pc L st w kc ks Q := by
  intro hC H ls locs hl hP hD hS
  cases v <;> first | (simp [Value.isRef] at hr; done) | exact lv_aload hC.1 hC.2.1 hd (hl.2.2 _ _ hv).2 (kk hC H ls locs hl hP hD hS) | exact lv_aloadN hC.1 hC.2.1 hd (hl.2.2 _ _ hv).2 (kk hC H ls locs hl hP hD hS)
theorem kx_istore_n {k : Fin 4} {x : Int32} (hd : decode Y.1 pc = .ok (.istore_n k, 1)) (hk : k.val < Y.2.1)
    (kk : kx_R E Y z (pc + 1) ((k.val, .int x) :: L) st w kc ks Q) : kx_R E Y z pc L (.int x :: st) w kc ks Q := by
  intro hC H ls locs hl hP hD hS
  exact lv_istore_n hC.1 hC.2.1 hd rfl hl.has hk rfl (fun ls1 h1 => kk hC H ls1 locs (hl.put rfl h1) hP hD hS)
theorem kx_istore {k : Nat} {x : Int32} (hd : decode Y.1 pc = .ok (.istore k, 2)) (hk : k < Y.2.1)
    (kk : kx_R E Y z (pc + 2) ((k, .int x) :: L) st w kc ks Q) : kx_R E Y z pc L (.int x :: st) w kc ks Q := by
  intro hC H ls locs hl hP hD hS
  exact lv_istore hC.1 hC.2.1 hd hl.has hk rfl (fun ls1 h1 => kk hC H ls1 locs (hl.put rfl h1) hP hD hS)
theorem kx_astore_n {k : Fin 4} {v : Value} (hd : decode Y.1 pc = .ok (.astore_n k, 1)) (hk : k.val < Y.2.1) (hr : v.isRef = true)
    (kk : kx_R E Y z (pc + 1) ((k.val, v) :: L) st w kc ks Q) : kx_R E Y z pc L (v :: st) w kc ks Q := by
  intro hC H ls locs hl hP hD hS
  cases v <;> first | (simp [Value.isRef] at hr; done) | exact lv_astore_n hC.1 hC.2.1 hd rfl hl.has hk rfl (fun ls1 h1 => kk hC H ls1 locs (hl.put rfl h1) hP hD hS) | exact lv_astore_nN hC.1 hC.2.1 hd rfl hl.has hk rfl (fun ls1 h1 => kk hC H ls1 locs (hl.put rfl h1) hP hD hS)
theorem kx_astore {k : Nat} {v : Value} (hd : decode Y.1 pc = .ok (.astore k, 2)) (hk : k < Y.2.1) (hr : v.isRef = true)
    (kk : kx_R E Y z (pc + 2) ((k, v) :: L) st w kc ks Q) : kx_R E Y z pc L (v :: st) w kc ks Q := by
  intro hC H ls locs hl hP hD hS
  cases v <;> first | (simp [Value.isRef] at hr; done) | exact lv_astore hC.1 hC.2.1 hd hl.has hk rfl (fun ls1 h1 => kk hC H ls1 locs (hl.put rfl h1) hP hD hS) | exact lv_astoreN hC.1 hC.2.1 hd hl.has hk rfl (fun ls1 h1 => kk hC H ls1 locs (hl.put rfl h1) hP hD hS)
theorem kx_iinc {k : Nat} {n : Int} {x : Int32} (v : Int32) (hd : decode Y.1 pc = .ok (.iinc k n, 3)) (hv : kx_lk L k = some (.int x)) (hk : k < Y.2.1) (hx : x + Int32.ofInt n = v)
    (kk : kx_R E Y z (pc + 3) ((k, .int v) :: L) st w kc ks Q) : kx_R E Y z pc L st w kc ks Q := by
  intro hC H ls locs hl hP hD hS
  obtain ⟨j, hj⟩ := List.getElem?_of_mem (kx_lk_dd L k _ hv)
  exact lv_iinc hC.1 hC.2.1 hd hl.has hj hx hk rfl (fun ls1 h1 => kk hC H ls1 locs (hl.put rfl h1) hP hD hS)
theorem kx_iadd {x y : Int32} (v : Int32) (hd : decode Y.1 pc = .ok (.iadd, 1)) (hv : x + y = v)
    (kk : kx_R E Y z (pc + 1) L (.int v :: st) w kc ks Q) : kx_R E Y z pc L (.int y :: .int x :: st) w kc ks Q := by
  intro hC H ls locs hl hP hD hS
  subst hv
  exact lv_iadd hC.1 hC.2.1 hd (kk hC H ls locs hl hP hD hS)
theorem kx_isub {x y : Int32} (v : Int32) (hd : decode Y.1 pc = .ok (.isub, 1)) (hv : x - y = v)
    (kk : kx_R E Y z (pc + 1) L (.int v :: st) w kc ks Q) : kx_R E Y z pc L (.int y :: .int x :: st) w kc ks Q := by
  intro hC H ls locs hl hP hD hS
  subst hv
  exact lv_isub hC.1 hC.2.1 hd (kk hC H ls locs hl hP hD hS)
theorem kx_imul {x y : Int32} (v : Int32) (hd : decode Y.1 pc = .ok (.imul, 1)) (hv : x * y = v)
    (kk : kx_R E Y z (pc + 1) L (.int v :: st) w kc ks Q) : kx_R E Y z pc L (.int y :: .int x :: st) w kc ks Q := by
  intro hC H ls locs hl hP hD hS
  subst hv
  exact lv_imul hC.1 hC.2.1 hd (kk hC H ls locs hl hP hD hS)
theorem kx_iand {x y : Int32} (v : Int32) (hd : decode Y.1 pc = .ok (.iand, 1)) (hv : x &&& y = v)
    (kk : kx_R E Y z (pc + 1) L (.int v :: st) w kc ks Q) : kx_R E Y z pc L (.int y :: .int x :: st) w kc ks Q := by
  intro hC H ls locs hl hP hD hS
  subst hv
  exact lv_iand hC.1 hC.2.1 hd (kk hC H ls locs hl hP hD hS)
theorem kx_ior {x y : Int32} (v : Int32) (hd : decode Y.1 pc = .ok (.ior, 1)) (hv : x ||| y = v)
    (kk : kx_R E Y z (pc + 1) L (.int v :: st) w kc ks Q) : kx_R E Y z pc L (.int y :: .int x :: st) w kc ks Q := by
  intro hC H ls locs hl hP hD hS
  subst hv
  exact lv_ior hC.1 hC.2.1 hd (kk hC H ls locs hl hP hD hS)
theorem kx_ixor {x y : Int32} (v : Int32) (hd : decode Y.1 pc = .ok (.ixor, 1)) (hv : x ^^^ y = v)
    (kk : kx_R E Y z (pc + 1) L (.int v :: st) w kc ks Q) : kx_R E Y z pc L (.int y :: .int x :: st) w kc ks Q := by
  intro hC H ls locs hl hP hD hS
  subst hv
  exact lv_ixor hC.1 hC.2.1 hd (kk hC H ls locs hl hP hD hS)
theorem kx_ishl {x y : Int32} (v : Int32) (hd : decode Y.1 pc = .ok (.ishl, 1)) (hv : x <<< (y &&& 31) = v)
    (kk : kx_R E Y z (pc + 1) L (.int v :: st) w kc ks Q) : kx_R E Y z pc L (.int y :: .int x :: st) w kc ks Q := by
  intro hC H ls locs hl hP hD hS
  subst hv
  exact lv_ishl hC.1 hC.2.1 hd (kk hC H ls locs hl hP hD hS)
theorem kx_ishr {x y : Int32} (v : Int32) (hd : decode Y.1 pc = .ok (.ishr, 1)) (hv : x >>> (y &&& 31) = v)
    (kk : kx_R E Y z (pc + 1) L (.int v :: st) w kc ks Q) : kx_R E Y z pc L (.int y :: .int x :: st) w kc ks Q := by
  intro hC H ls locs hl hP hD hS
  subst hv
  exact lv_ishr hC.1 hC.2.1 hd (kk hC H ls locs hl hP hD hS)
theorem kx_idiv {x y : Int32} (v : Int32) (hd : decode Y.1 pc = .ok (.idiv, 1)) (hy : ¬ y = 0) (hv : x / y = v)
    (kk : kx_R E Y z (pc + 1) L (.int v :: st) w kc ks Q) : kx_R E Y z pc L (.int y :: .int x :: st) w kc ks Q := by
  intro hC H ls locs hl hP hD hS
  subst hv
  exact lv_idiv hC.1 hC.2.1 hd hy (kk hC H ls locs hl hP hD hS)
theorem kx_irem {x y : Int32} (v : Int32) (hd : decode Y.1 pc = .ok (.irem, 1)) (hy : ¬ y = 0) (hv : x - x / y * y = v)
    (kk : kx_R E Y z (pc + 1) L (.int v :: st) w kc ks Q) : kx_R E Y z pc L (.int y :: .int x :: st) w kc ks Q := by
  intro hC H ls locs hl hP hD hS
  subst hv
  exact lv_irem hC.1 hC.2.1 hd hy (kk hC H ls locs hl hP hD hS)
theorem kx_ineg {x : Int32} (hd : decode Y.1 pc = .ok (.ineg, 1))
    (kk : kx_R E Y z (pc + 1) L (.int (-x) :: st) w kc ks Q) : kx_R E Y z pc L (.int x :: st) w kc ks Q := by
  intro hC H ls locs hl hP hD hS
  exact lv_ineg hC.1 hC.2.1 hd (kk hC H ls locs hl hP hD hS)
theorem kx_i2l {x : Int32} (hd : decode Y.1 pc = .ok (.i2l, 1))
    (kk : kx_R E Y z (pc + 1) L (.long x.toInt64 :: st) w kc ks Q) : kx_R E Y z pc L (.int x :: st) w kc ks Q := by
  intro hC H ls locs hl hP hD hS
  exact lv_i2l hC.1 hC.2.1 hd rfl (kk hC H ls locs hl hP hD hS)
theorem kx_lcmp {x y : Int64} (hd : decode Y.1 pc = .ok (.lcmp, 1))
    (kk : kx_R E Y z (pc + 1) L (.int (lg_cmp x y) :: st) w kc ks Q) : kx_R E Y z pc L (.long y :: .long x :: st) w kc ks Q := by
  intro hC H ls locs hl hP hD hS
  exact W.lcmp hC.1 hC.2.1 hd (kk hC H ls locs hl hP hD hS)
theorem kx_dup {v : Value} (hd : decode Y.1 pc = .ok (.dup, 1)) (hc : v.category = 1)
    (kk : kx_R E Y z (pc + 1) L (v :: v :: st) w kc ks Q) : kx_R E Y z pc L (v :: st) w kc ks Q := by
  intro hC H ls locs hl hP hD hS
  exact lv_dup hC.1 hC.2.1 hd hc (kk hC H ls locs hl hP hD hS)
theorem kx_pop {v : Value} (hd : decode Y.1 pc = .ok (.pop, 1)) (hc : v.category = 1)
    (kk : kx_R E Y z (pc + 1) L st w kc ks Q) : kx_R E Y z pc L (v :: st) w kc ks Q := by
  intro hC H ls locs hl hP hD hS
  exact lv_pop hC.1 hC.2.1 hd hc (kk hC H ls locs hl hP hD hS)
theorem kx_dup_x1 {v u : Value} (hd : decode Y.1 pc = .ok (.dup_x1, 1)) (hc : v.category = 1) (hu : u.category = 1)
    (kk : kx_R E Y z (pc + 1) L (v :: u :: v :: st) w kc ks Q) : kx_R E Y z pc L (v :: u :: st) w kc ks Q := by
  intro hC H ls locs hl hP hD hS
  exact lv_dup_x1 hC.1 hC.2.1 hd hc hu (kk hC H ls locs hl hP hD hS)
theorem kx_dup2 {v u : Value} (hd : decode Y.1 pc = .ok (.dup2, 1)) (hc : v.category = 1) (hu : u.category = 1)
    (kk : kx_R E Y z (pc + 1) L (v :: u :: v :: u :: st) w kc ks Q) : kx_R E Y z pc L (v :: u :: st) w kc ks Q := by
  intro hC H ls locs hl hP hD hS
  exact lv_dup2_11 hC.1 hC.2.1 hd hc hu (kk hC H ls locs hl hP hD hS)
theorem kx_goto {off : Int} (tgt : Nat) (hd : decode Y.1 pc = .ok (.goto off, 3)) (ht : (pc : Int) + off = (tgt : Int))
    (kk : kx_R E Y z tgt L st w kc ks Q) : kx_R E Y z pc L st w kc ks Q := by
  intro hC H ls locs hl hP hD hS
  exact lv_goto hC.1 hC.2.1 hd ht (kk hC H ls locs hl hP hD hS)
theorem kx_if_eq {x : Int32} {off : Int} (tgt : Nat) (hd : decode Y.1 pc = .ok (.ifCond .eq off, 3)) (ht : (pc : Int) + off = (tgt : Int))
    (kt : x = 0 → kx_R E Y z tgt L st w kc ks Q) (kf : ¬ x = 0 → kx_R E Y z (pc + 3) L st w kc ks Q) : kx_R E Y z pc L (.int x :: st) w kc ks Q := by
  intro hC H ls locs hl hP hD hS
  exact lv_if_eq hC.1 hC.2.1 hd ht (fun h9 => kt h9 hC H ls locs hl hP hD hS) (fun h9 => kf h9 hC H ls locs hl hP hD hS)
theorem kx_icmp_eq {x y : Int32} {off : Int} (tgt : Nat) (hd : decode Y.1 pc = .ok (.if_icmp .eq off, 3)) (ht : (pc : Int) + off = (tgt : Int))
    (kt : x = y → kx_R E Y z tgt L st w kc ks Q) (kf : ¬ x = y → kx_R E Y z (pc + 3) L st w kc ks Q) : kx_R E Y z pc L (.int y :: .int x :: st) w kc ks Q := by
  intro hC H ls locs hl hP hD hS
  exact lv_icmp_eq hC.1 hC.2.1 hd ht (fun h9 => kt h9 hC H ls locs hl hP hD hS) (fun h9 => kf h9 hC H ls locs hl hP hD hS)
theorem kx_if_ne {x : Int32} {off : Int} (tgt : Nat) (hd : decode Y.1 pc = .ok (.ifCond .ne off, 3)) (ht : (pc : Int) + off = (tgt : Int))
    (kt : ¬ x = 0 → kx_R E Y z tgt L st w kc ks Q) (kf : x = 0 → kx_R E Y z (pc + 3) L st w kc ks Q) : kx_R E Y z pc L (.int x :: st) w kc ks Q := by
  intro hC H ls locs hl hP hD hS
  exact lv_if_ne hC.1 hC.2.1 hd ht (fun h9 => kt h9 hC H ls locs hl hP hD hS) (fun h9 => kf h9 hC H ls locs hl hP hD hS)
theorem kx_icmp_ne {x y : Int32} {off : Int} (tgt : Nat) (hd : decode Y.1 pc = .ok (.if_icmp .ne off, 3)) (ht : (pc : Int) + off = (tgt : Int))
    (kt : ¬ x = y → kx_R E Y z tgt L st w kc ks Q) (kf : x = y → kx_R E Y z (pc + 3) L st w kc ks Q) : kx_R E Y z pc L (.int y :: .int x :: st) w kc ks Q := by
  intro hC H ls locs hl hP hD hS
  exact lv_icmp_ne hC.1 hC.2.1 hd ht (fun h9 => kt h9 hC H ls locs hl hP hD hS) (fun h9 => kf h9 hC H ls locs hl hP hD hS)
theorem kx_if_lt {x : Int32} {off : Int} (tgt : Nat) (hd : decode Y.1 pc = .ok (.ifCond .lt off, 3)) (ht : (pc : Int) + off = (tgt : Int))
    (kt : x < 0 → kx_R E Y z tgt L st w kc ks Q) (kf : ¬ x < 0 → kx_R E Y z (pc + 3) L st w kc ks Q) : kx_R E Y z pc L (.int x :: st) w kc ks Q := by
  intro hC H ls locs hl hP hD hS
  exact lv_if_lt hC.1 hC.2.1 hd ht (fun h9 => kt h9 hC H ls locs hl hP hD hS) (fun h9 => kf h9 hC H ls locs hl hP hD hS)
theorem kx_icmp_lt {x y : Int32} {off : Int} (tgt : Nat) (hd : decode Y.1 pc = .ok (.if_icmp .lt off, 3)) (ht : (pc : Int) + off = (tgt : Int))
    (kt : x < y → kx_R E Y z tgt L st w kc ks Q) (kf : ¬ x < y → kx_R E Y z (pc + 3) L st w kc ks Q) : kx_R E Y z pc L (.int y :: .int x :: st) w kc ks Q := by
  intro hC H ls locs hl hP hD hS
  exact lv_icmp_lt hC.1 hC.2.1 hd ht (fun h9 => kt h9 hC H ls locs hl hP hD hS) (fun h9 => kf h9 hC H ls locs hl hP hD hS)
theorem kx_if_ge {x : Int32} {off : Int} (tgt : Nat) (hd : decode Y.1 pc = .ok (.ifCond .ge off, 3)) (ht : (pc : Int) + off = (tgt : Int))
    (kt : 0 ≤ x → kx_R E Y z tgt L st w kc ks Q) (kf : ¬ 0 ≤ x → kx_R E Y z (pc + 3) L st w kc ks Q) : kx_R E Y z pc L (.int x :: st) w kc ks Q := by
  intro hC H ls locs hl hP hD hS
  exact lv_if_ge hC.1 hC.2.1 hd ht (fun h9 => kt h9 hC H ls locs hl hP hD hS) (fun h9 => kf h9 hC H ls locs hl hP hD hS)
theorem kx_icmp_ge {x y : Int32} {off : Int} (tgt : Nat) (hd : decode Y.1 pc = .ok (.if_icmp .ge off, 3)) (ht : (pc : Int) + off = (tgt : Int))
    (kt : y ≤ x → kx_R E Y z tgt L st w kc ks Q) (kf : ¬ y ≤ x → kx_R E Y z (pc + 3) L st w kc ks Q) : kx_R E Y z pc L (.int y :: .int x :: st) w kc ks Q := by
  intro hC H ls locs hl hP hD hS
  exact lv_icmp_ge hC.1 hC.2.1 hd ht (fun h9 => kt h9 hC H ls locs hl hP hD hS) (fun h9 => kf h9 hC H ls locs hl hP hD hS)
theorem kx_if_gt {x : Int32} {off : Int} (tgt : Nat) (hd : decode Y.1 pc = .ok (.ifCond .gt off, 3)) (ht : (pc : Int) + off = (tgt : Int))
    (kt : 0 < x → kx_R E Y z tgt L st w kc ks Q) (kf : ¬ 0 < x → kx_R E Y z (pc + 3) L st w kc ks Q) : kx_R E Y z pc L (.int x :: st) w kc ks Q := by
  intro hC H ls locs hl hP hD hS
  exact lv_if_gt hC.1 hC.2.1 hd ht (fun h9 => kt h9 hC H ls locs hl hP hD hS) (fun h9 => kf h9 hC H ls locs hl hP hD hS)
theorem kx_icmp_gt {x y : Int32} {off : Int} (tgt : Nat) (hd : decode Y.1 pc = .ok (.if_icmp .gt off, 3)) (ht : (pc : Int) + off = (tgt : Int))
    (kt : y < x → kx_R E Y z tgt L st w kc ks Q) (kf : ¬ y < x → kx_R E Y z (pc + 3) L st w kc ks Q) : kx_R E Y z pc L (.int y :: .int x :: st) w kc ks Q := by
  intro hC H ls locs hl hP hD hS
  exact lv_icmp_gt hC.1 hC.2.1 hd ht (fun h9 => kt h9 hC H ls locs hl hP hD hS) (fun h9 => kf h9 hC H ls locs hl hP hD hS)
theorem kx_if_le {x : Int32} {off : Int} (tgt : Nat) (hd : decode Y.1 pc = .ok (.ifCond .le off, 3)) (ht : (pc : Int) + off = (tgt : Int))
    (kt : x ≤ 0 → kx_R E Y z tgt L st w kc ks Q) (kf : ¬ x ≤ 0 → kx_R E Y z (pc + 3) L st w kc ks Q) : kx_R E Y z pc L (.int x :: st) w kc ks Q := by
  intro hC H ls locs hl hP hD hS
  exact lv_if_le hC.1 hC.2.1 hd ht (fun h9 => kt h9 hC H ls locs hl hP hD hS) (fun h9 => kf h9 hC H ls locs hl hP hD hS)
theorem kx_icmp_le {x y : Int32} {off : Int} (tgt : Nat) (hd : decode Y.1 pc = .ok (.if_icmp .le off, 3)) (ht : (pc : Int) + off = (tgt : Int))
    (kt : x ≤ y → kx_R E Y z tgt L st w kc ks Q) (kf : ¬ x ≤ y → kx_R E Y z (pc + 3) L st w kc ks Q) : kx_R E Y z pc L (.int y :: .int x :: st) w kc ks Q := by
  intro hC H ls locs hl hP hD hS
  exact lv_icmp_le hC.1 hC.2.1 hd ht (fun h9 => kt h9 hC H ls locs hl hP hD hS) (fun h9 => kf h9 hC H ls locs hl hP hD hS)
theorem kx_ifnull {off : Int} (tgt : Nat) {o : Option Nat} (hd : decode Y.1 pc = .ok (.ifnull off, 3)) (ht : (pc : Int) + off = (tgt : Int))
    (kt : o = none → kx_R E Y z tgt L st w kc ks Q) (kf : ∀ a, o = some a → kx_R E Y z (pc + 3) L st w kc ks Q) : kx_R E Y z pc L (va_rf o :: st) w kc ks Q := by
  intro hC H ls locs hl hP hD hS
  cases o with
  | none => exact lv_ifnullN hC.1 hC.2.1 hd ht (kt rfl hC H ls locs hl hP hD hS)
  | some a => exact lv_ifnull hC.1 hC.2.1 hd (kf a rfl hC H ls locs hl hP hD hS)
theorem kx_ifnonnull {off : Int} (tgt : Nat) {o : Option Nat} (hd : decode Y.1 pc = .ok (.ifnonnull off, 3)) (ht : (pc : Int) + off = (tgt : Int))
    (kt : ∀ a, o = some a → kx_R E Y z tgt L st w kc ks Q) (kf : o = none → kx_R E Y z (pc + 3) L st w kc ks Q) : kx_R E Y z pc L (va_rf o :: st) w kc ks Q := by
  intro hC H ls locs hl hP hD hS
  cases o with
  | none => exact lv_ifnonnullN hC.1 hC.2.1 hd (kf rfl hC H ls locs hl hP hD hS)
  | some a => exact lv_ifnonnull hC.1 hC.2.1 hd ht (kt a rfl hC H ls locs hl hP hD hS)
theorem kx_tabIn {dflt lo hi : Int} {offs : Array Int} {len : Nat} {x : Int32} {off : Int} (tgt : Nat) (hd : decode Y.1 pc = .ok (.tableswitch dflt lo hi offs, len)) (h1 : ¬ x.toInt < lo) (h2 : ¬ hi < x.toInt) (ho : offs[(x.toInt - lo).toNat]? = some off) (ht : (pc : Int) + off = (tgt : Int))
    (kk : kx_R E Y z tgt L st w kc ks Q) : kx_R E Y z pc L (.int x :: st) w kc ks Q := by
  intro hC H ls locs hl hP hD hS
  exact lv_tableIn hC.1 hC.2.1 hd h1 h2 ho ht (kk hC H ls locs hl hP hD hS)
theorem kx_tabOut {dflt lo hi : Int} {offs : Array Int} {len : Nat} {x : Int32} (tgt : Nat) (hd : decode Y.1 pc = .ok (.tableswitch dflt lo hi offs, len)) (h : x.toInt < lo ∨ hi < x.toInt) (ht : (pc : Int) + dflt = (tgt : Int))
    (kk : kx_R E Y z tgt L st w kc ks Q) : kx_R E Y z pc L (.int x :: st) w kc ks Q := by
  intro hC H ls locs hl hP hD hS
  exact lv_tableOut hC.1 hC.2.1 hd h ht (kk hC H ls locs hl hP hD hS)
theorem kx_loc {L1 : kx_L} (h : kx_sub L1 L) (kk : kx_R E Y z pc L1 st w kc ks Q) : kx_R E Y z pc L st w kc ks Q := fun hC H ls locs hl hP hD hS => kk hC H ls locs (hl.sub h) hP hD hS
theorem kx_top {x : Int32} (y : Int32) (h : x = y) (kk : kx_R E Y z pc L (.int y :: st) w kc ks Q) : kx_R E Y z pc L (.int x :: st) w kc ks Q := h ▸ kk
theorem kx_at {pc1 : Nat} (h : pc = pc1) (kk : kx_R E Y z pc1 L st w kc ks Q) : kx_R E Y z pc L st w kc ks Q := h ▸ kk
theorem kx_w {w1 : va_W} (h : w = w1) (kk : kx_R E Y z pc L st w1 kc ks Q) : kx_R E Y z pc L st w kc ks Q := h ▸ kk
end KXR
