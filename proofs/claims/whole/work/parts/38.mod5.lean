/-! The reference: run, together -/
theorem WfX.lk {n : Nat} {X : Fx} (h : WfX n X) {p q : Nat} (hp : p < 2 * n) (hq : xLk X p = some q) : q < 2 * n := (h.2.2.2.2.1 p q hp hq).1
theorem outM_lt {n : Nat} {X : Fx} (h : WfX n X) : ∀ (m p : Nat), p < 2 * n → outM (xLk X) m p < 2 * n
  | 0, p, hp => hp
  | m + 1, p, hp => by
    unfold outM
    cases hq : xLk X p with
    | none => exact hp
    | some q => exact outM_lt h m _ (x1_lt (h.lk hp hq))
theorem runM_lt {n : Nat} {X : Fx} (h : WfX n X) : ∀ (m : Nat) (o : Option Nat), (∀ x, o = some x → x < 2 * n) → ∀ v ∈ runM (xLk X) m o, v < 2 * n
  | 0, _, _, v, hv => by cases hv
  | _ + 1, none, _, v, hv => by cases hv
  | m + 1, some x, ho, v, hv => by
    have hx := ho x rfl
    rcases List.mem_cons.mp hv with e | e
    · rw [e]; exact hx
    · exact runM_lt h m _ (fun y hy => h.lk (x1_lt hx) hy) v e
theorem trM_lt {n : Nat} {X : Fx} (h : WfX n X) {c : Nat} (hc : c < n) : ∀ v ∈ trM X c, v < 2 * n := runM_lt h _ _ (fun x hx => by cases hx; exact outM_lt h _ _ (by omega))
theorem trM_pos (X : Fx) (c : Nat) : 0 < (trM X c).length := Nat.succ_pos _
theorem trN_len (X : Fx) (c : Nat) : (trN X c).length = (trM X c).length := by unfold trN; split; exact rowTurn_len _; rfl
theorem trR_len (X : Fx) (c : Nat) : (trR X c).length = (trM X c).length := by
  unfold trR
  split
  · rename_i h; rw [h]; rfl
  · exact trN_len X c
theorem trR_24 (X : Fx) (c : Nat) : (trR X c).length ≤ 24 := by rw [trR_len]; exact runM_len _ _ _
theorem turn_lt {n : Nat} {l : List Nat} (h : ∀ v ∈ l, v < 2 * n) : ∀ v ∈ rowTurn l, v < 2 * n := by
  intro v hv
  unfold rowTurn at hv
  obtain ⟨x, hx, rfl⟩ := List.mem_map.mp hv
  exact x1_lt (h x (List.mem_reverse.mp hx))
theorem trR_lt {n : Nat} {X : Fx} (h : WfX n X) {c : Nat} (hc : c < n) : ∀ v ∈ trR X c, v < 2 * n := by
  unfold trR
  split
  · intro v hv; rw [List.mem_singleton.mp hv]; omega
  · unfold trN
    split
    · exact turn_lt (trM_lt h hc)
    · exact trM_lt h hc
theorem kx_q9 {E : kx_E} {Y : kx_Y} {z : kx_Z} {pc : Nat} {L : kx_L} {st : List Value} {w : va_W} {kc ks : Nat} {Q Q1 : kx_O → va_W → Prop} (h : Q = Q1) (kk : kx_R E Y z pc L st w kc ks Q) : kx_R E Y z pc L st w kc ks Q1 := h ▸ kk
theorem d_M_run_0 : decode c_M_run 0 = .ok (.iconst 2, 1) := by decide +kernel
theorem d_M_run_1 : decode c_M_run 1 = .ok (.iload_n 1, 1) := by decide +kernel
theorem d_M_run_2 : decode c_M_run 2 = .ok (.imul, 1) := by decide +kernel
theorem d_M_run_3 : decode c_M_run 3 = .ok (.istore_n 2, 1) := by decide +kernel
theorem d_M_run_4 : decode c_M_run 4 = .ok (.aload_n 0, 1) := by decide +kernel
theorem d_M_run_5 : decode c_M_run 5 = .ok (.getfield 16, 3) := by decide +kernel
theorem d_M_run_8 : decode c_M_run 8 = .ok (.iload_n 2, 1) := by decide +kernel
theorem d_M_run_9 : decode c_M_run 9 = .ok (.iaload, 1) := by decide +kernel
theorem d_M_run_10 : decode c_M_run 10 = .ok (.iconst (-1), 1) := by decide +kernel
theorem d_M_run_11 : decode c_M_run 11 = .ok (.if_icmp .eq 15, 3) := by decide +kernel
theorem d_M_run_14 : decode c_M_run 14 = .ok (.aload_n 0, 1) := by decide +kernel
theorem d_M_run_15 : decode c_M_run 15 = .ok (.getfield 16, 3) := by decide +kernel
theorem d_M_run_18 : decode c_M_run 18 = .ok (.iload_n 2, 1) := by decide +kernel
theorem d_M_run_19 : decode c_M_run 19 = .ok (.iaload, 1) := by decide +kernel
theorem d_M_run_20 : decode c_M_run 20 = .ok (.iconst 1, 1) := by decide +kernel
theorem d_M_run_21 : decode c_M_run 21 = .ok (.ixor, 1) := by decide +kernel
theorem d_M_run_22 : decode c_M_run 22 = .ok (.istore_n 2, 1) := by decide +kernel
theorem d_M_run_23 : decode c_M_run 23 = .ok (.goto (-19), 3) := by decide +kernel
theorem d_M_run_26 : decode c_M_run 26 = .ok (.iconst 0, 1) := by decide +kernel
theorem d_M_run_27 : decode c_M_run 27 = .ok (.istore_n 3, 1) := by decide +kernel
theorem d_M_run_28 : decode c_M_run 28 = .ok (.iload_n 2, 1) := by decide +kernel
theorem d_M_run_29 : decode c_M_run 29 = .ok (.istore 4, 2) := by decide +kernel
theorem d_M_run_31 : decode c_M_run 31 = .ok (.iload 4, 2) := by decide +kernel
theorem d_M_run_33 : decode c_M_run 33 = .ok (.iconst (-1), 1) := by decide +kernel
theorem d_M_run_34 : decode c_M_run 34 = .ok (.if_icmp .eq 28, 3) := by decide +kernel
theorem d_M_run_37 : decode c_M_run 37 = .ok (.aload_n 0, 1) := by decide +kernel
theorem d_M_run_38 : decode c_M_run 38 = .ok (.getfield 86, 3) := by decide +kernel
theorem d_M_run_41 : decode c_M_run 41 = .ok (.iload_n 3, 1) := by decide +kernel
theorem d_M_run_42 : decode c_M_run 42 = .ok (.iload 4, 2) := by decide +kernel
theorem d_M_run_44 : decode c_M_run 44 = .ok (.iastore, 1) := by decide +kernel
theorem d_M_run_45 : decode c_M_run 45 = .ok (.iinc 3 1, 3) := by decide +kernel
theorem d_M_run_48 : decode c_M_run 48 = .ok (.aload_n 0, 1) := by decide +kernel
theorem d_M_run_49 : decode c_M_run 49 = .ok (.getfield 16, 3) := by decide +kernel
theorem d_M_run_52 : decode c_M_run 52 = .ok (.iload 4, 2) := by decide +kernel
theorem d_M_run_54 : decode c_M_run 54 = .ok (.iconst 1, 1) := by decide +kernel
theorem d_M_run_55 : decode c_M_run 55 = .ok (.ixor, 1) := by decide +kernel
theorem d_M_run_56 : decode c_M_run 56 = .ok (.iaload, 1) := by decide +kernel
theorem d_M_run_57 : decode c_M_run 57 = .ok (.istore 4, 2) := by decide +kernel
theorem d_M_run_59 : decode c_M_run 59 = .ok (.goto (-28), 3) := by decide +kernel
theorem d_M_run_62 : decode c_M_run 62 = .ok (.aload_n 0, 1) := by decide +kernel
theorem d_M_run_63 : decode c_M_run 63 = .ok (.getfield 7, 3) := by decide +kernel
theorem d_M_run_66 : decode c_M_run 66 = .ok (.aload_n 0, 1) := by decide +kernel
theorem d_M_run_67 : decode c_M_run 67 = .ok (.getfield 86, 3) := by decide +kernel
theorem d_M_run_70 : decode c_M_run 70 = .ok (.iconst 0, 1) := by decide +kernel
theorem d_M_run_71 : decode c_M_run 71 = .ok (.iaload, 1) := by decide +kernel
theorem d_M_run_72 : decode c_M_run 72 = .ok (.iconst 2, 1) := by decide +kernel
theorem d_M_run_73 : decode c_M_run 73 = .ok (.idiv, 1) := by decide +kernel
theorem d_M_run_74 : decode c_M_run 74 = .ok (.iaload, 1) := by decide +kernel
theorem d_M_run_75 : decode c_M_run 75 = .ok (.aload_n 0, 1) := by decide +kernel
theorem d_M_run_76 : decode c_M_run 76 = .ok (.getfield 7, 3) := by decide +kernel
theorem d_M_run_79 : decode c_M_run 79 = .ok (.aload_n 0, 1) := by decide +kernel
theorem d_M_run_80 : decode c_M_run 80 = .ok (.getfield 86, 3) := by decide +kernel
theorem d_M_run_83 : decode c_M_run 83 = .ok (.iload_n 3, 1) := by decide +kernel
theorem d_M_run_84 : decode c_M_run 84 = .ok (.iconst 1, 1) := by decide +kernel
theorem d_M_run_85 : decode c_M_run 85 = .ok (.isub, 1) := by decide +kernel
theorem d_M_run_86 : decode c_M_run 86 = .ok (.iaload, 1) := by decide +kernel
theorem d_M_run_87 : decode c_M_run 87 = .ok (.iconst 2, 1) := by decide +kernel
theorem d_M_run_88 : decode c_M_run 88 = .ok (.idiv, 1) := by decide +kernel
theorem d_M_run_89 : decode c_M_run 89 = .ok (.iaload, 1) := by decide +kernel
theorem d_M_run_90 : decode c_M_run 90 = .ok (.if_icmp .le 8, 3) := by decide +kernel
theorem d_M_run_93 : decode c_M_run 93 = .ok (.aload_n 0, 1) := by decide +kernel
theorem d_M_run_94 : decode c_M_run 94 = .ok (.iload_n 3, 1) := by decide +kernel
theorem d_M_run_95 : decode c_M_run 95 = .ok (.invokevirtual 109, 3) := by decide +kernel
theorem d_M_run_98 : decode c_M_run 98 = .ok (.iload_n 3, 1) := by decide +kernel
theorem d_M_run_99 : decode c_M_run 99 = .ok (.iconst 1, 1) := by decide +kernel
theorem d_M_run_100 : decode c_M_run 100 = .ok (.if_icmp .ne 12, 3) := by decide +kernel
theorem d_M_run_103 : decode c_M_run 103 = .ok (.aload_n 0, 1) := by decide +kernel
theorem d_M_run_104 : decode c_M_run 104 = .ok (.getfield 86, 3) := by decide +kernel
theorem d_M_run_107 : decode c_M_run 107 = .ok (.iconst 0, 1) := by decide +kernel
theorem d_M_run_108 : decode c_M_run 108 = .ok (.iconst 2, 1) := by decide +kernel
theorem d_M_run_109 : decode c_M_run 109 = .ok (.iload_n 1, 1) := by decide +kernel
theorem d_M_run_110 : decode c_M_run 110 = .ok (.imul, 1) := by decide +kernel
theorem d_M_run_111 : decode c_M_run 111 = .ok (.iastore, 1) := by decide +kernel
theorem d_M_run_112 : decode c_M_run 112 = .ok (.iload_n 3, 1) := by decide +kernel
theorem d_M_run_113 : decode c_M_run 113 = .ok (.ireturn, 1) := by decide +kernel
set_option maxRecDepth 20000 in
set_option maxHeartbeats 4000000 in
theorem l_M_run1 {E : kx_E} {w : va_W} {ma : Nat → Nat} {F : Nat → Int32} {A : Nat → Nat → Int32} (hM : Mdl E w ma F A) {n : Nat} {X : Fx} {D : Dy} (hR : ModR n X D A) (hX : WfX n X) (hD : WfD n D) (hn : F 1 = nI n) {c : Nat} {z : kx_Z} {Q : kx_O → va_W → Prop} {r : Nat} (hQ : kx_R E Y_M_run z 26 [(0, .ref (ma 0)), (1, .int (nI c)), (2, .int (nI r))] [] w 0 0 Q) :
    ∀ (m p : Nat), p < 2 * n → outM (xLk X) m p = r → xLk X r = none → kx_R E Y_M_run z 4 [(0, .ref (ma 0)), (1, .int (nI c)), (2, .int (nI p))] [] w 0 0 Q := by
  have h24 := hX.1
  have ex : ∀ p, p < 2 * n → xLk X p = none → kx_R E Y_M_run z 26 [(0, .ref (ma 0)), (1, .int (nI c)), (2, .int (nI p))] [] w 0 0 Q → kx_R E Y_M_run z 4 [(0, .ref (ma 0)), (1, .int (nI c)), (2, .int (nI p))] [] w 0 0 Q := by
    intro p hp hk hq
    have hl := hR.lks p hp
    rw [hk] at hl
    have hl : A 2 p = -1 := hl
    refine kx_aload_n d_M_run_4 rfl (by first | rfl | exact kx_rf _) ?_
    refine kx_get _ d_M_run_5 f_M_16 hM.1 (by rfl) ?_
    refine kx_iload_n d_M_run_8 rfl ?_
    refine kx_iald d_M_run_9 hM.a2 (by omega) (by decide) ?_
    rw [hl]
    refine kx_iconst (-1) d_M_run_10 (by decide) ?_
    refine kx_icmp_eq 26 d_M_run_11 (by decide) ?_ ?_
    · intro h11
      exact hq
    · intro h11
      exact absurd rfl h11
  intro m
  induction m with
  | zero =>
    intro p hp hr hn0
    have hr : p = r := hr
    subst hr
    exact ex p hp hn0 hQ
  | succ m ih =>
    intro p hp hr hn0
    cases hk : xLk X p with
    | none =>
      have hr : p = r := by unfold outM at hr; rw [hk] at hr; exact hr
      subst hr
      exact ex p hp hk hQ
    | some q =>
      have hq := hX.lk hp hk
      have hl := hR.lks p hp
      rw [hk] at hl
      have hl : A 2 p = nI q := hl
      have hm1 : nI q ≠ -1 := nI_m1 (by omega)
      unfold outM at hr
      rw [hk] at hr
      refine kx_aload_n d_M_run_4 rfl (by first | rfl | exact kx_rf _) ?_
      refine kx_get _ d_M_run_5 f_M_16 hM.1 (by rfl) ?_
      refine kx_iload_n d_M_run_8 rfl ?_
      refine kx_iald d_M_run_9 hM.a2 (by omega) (by decide) ?_
      rw [hl]
      refine kx_iconst (-1) d_M_run_10 (by decide) ?_
      refine kx_icmp_eq 26 d_M_run_11 (by decide) ?_ ?_
      · intro h11
        exact absurd h11 hm1
      · intro h11
        refine kx_aload_n d_M_run_14 rfl (by first | rfl | exact kx_rf _) ?_
        refine kx_get _ d_M_run_15 f_M_16 hM.1 (by rfl) ?_
        refine kx_iload_n d_M_run_18 rfl ?_
        refine kx_iald d_M_run_19 hM.a2 (by omega) (by decide) ?_
        rw [hl]
        refine kx_iconst (nI 1) d_M_run_20 (by decide) ?_
        refine kx_ixor _ d_M_run_21 (kx_xor _ _) ?_
        refine kx_istore_n d_M_run_22 (by decide) ?_
        refine kx_goto 4 d_M_run_23 (by decide) ?_
        refine kx_loc (L1 := [(0, .ref (ma 0)), (1, .int (nI c)), (2, .int (nI (q ^^^ 1)))]) ⟨rfl, rfl, rfl, trivial⟩ ?_
        exact ih (q ^^^ 1) (x1_lt hq) hr hn0
set_option maxRecDepth 20000 in
set_option maxHeartbeats 4000000 in
theorem l_M_run2 {E : kx_E} {w0 : va_W} {ma : Nat → Nat} {F : Nat → Int32} {A : Nat → Nat → Int32} {n : Nat} {X : Fx} {D : Dy} (hR : ModR n X D A) (hX : WfX n X) {c : Nat} {z : kx_Z} {Q : kx_O → va_W → Prop} {t : List Nat}
    (hQ : ∀ w A1, Mdl E w ma F A1 → kx_off w0 w mdlN → lnO A A1 → LnR A1 t → kx_R E Y_M_run z 62 [(0, .ref (ma 0)), (1, .int (nI c)), (3, .int (nI t.length))] [] w 0 0 Q) :
    ∀ (m : Nat) (o : Option Nat) (l : List Nat) (w : va_W) (A1 : Nat → Nat → Int32), m + l.length = 24 → (∀ x, o = some x → x < 2 * n) → Mdl E w ma F A1 → kx_off w0 w mdlN → lnO A A1 → LnR A1 l → l ++ runM (xLk X) m o = t → endM (xLk X) m o = none → kx_R E Y_M_run z 31 [(0, .ref (ma 0)), (1, .int (nI c)), (3, .int (nI l.length)), (4, .int (oI o))] [] w 0 0 Q := by
  have h24 := hX.1
  have ex : ∀ (l : List Nat) (w : va_W) (A1 : Nat → Nat → Int32), Mdl E w ma F A1 → kx_off w0 w mdlN → lnO A A1 → LnR A1 l → l = t → kx_R E Y_M_run z 31 [(0, .ref (ma 0)), (1, .int (nI c)), (3, .int (nI l.length)), (4, .int (oI none))] [] w 0 0 Q := by
    intro l w A1 hM hO hA hL e
    subst e
    have hQ9 := hQ w A1 hM hO hA hL
    refine kx_iload d_M_run_31 rfl ?_
    refine kx_iconst (-1) d_M_run_33 (by decide) ?_
    refine kx_icmp_eq 62 d_M_run_34 (by decide) ?_ ?_
    · intro h34
      exact kx_loc (L1 := [(0, .ref (ma 0)), (1, .int (nI c)), (3, .int (nI l.length))]) ⟨rfl, rfl, rfl, trivial⟩ hQ9
    · intro h34
      exact absurd rfl h34
  intro m
  induction m with
  | zero =>
    intro o l w A1 hm ho hM hO hA hL ht he
    have he : o = none := he
    subst he
    exact ex l w A1 hM hO hA hL (by rw [← ht]; unfold runM; rw [List.append_nil])
  | succ m ih =>
    intro o l w A1 hm ho hM hO hA hL ht he
    cases o with
    | none => exact ex l w A1 hM hO hA hL (by rw [← ht]; unfold runM; rw [List.append_nil])
    | some x =>
      have hx := ho x rfl
      clear ho
      have hxx := x1_lt hx
      have hm1 : nI x ≠ -1 := nI_m1 (by omega)
      have hL2 := hL.snoc x
      have hA2 := hA.up (f := upd (A1 25) l.length (nI x))
      have hlk : up1 A1 25 (upd (A1 25) l.length (nI x)) 2 (x ^^^ 1) = oI (xLk X (x ^^^ 1)) := by rw [hA2 2 (by decide) (by decide)]; exact hR.lks _ hxx
      refine kx_loc (L1 := [(0, .ref (ma 0)), (1, .int (nI c)), (3, .int (nI l.length)), (4, .int (nI x))]) ⟨rfl, rfl, rfl, rfl, trivial⟩ ?_
      refine kx_iload d_M_run_31 rfl ?_
      refine kx_iconst (-1) d_M_run_33 (by decide) ?_
      refine kx_icmp_eq 62 d_M_run_34 (by decide) ?_ ?_
      · intro h34
        exact absurd h34 hm1
      · intro h34
        refine kx_aload_n d_M_run_37 rfl (by first | rfl | exact kx_rf _) ?_
        refine kx_get _ d_M_run_38 f_M_86 hM.1 (by rfl) ?_
        refine kx_iload_n d_M_run_41 rfl ?_
        refine kx_iload d_M_run_42 rfl ?_
        refine mA_put (j := 25) d_M_run_44 hM hO (by decide) (len := 24) rfl (by decide) (by omega) (fun w hM hO => ?_)
        refine kx_iinc _ d_M_run_45 rfl (by decide) (nI_1 _) ?_
        refine kx_aload_n d_M_run_48 rfl (by first | rfl | exact kx_rf _) ?_
        refine kx_get _ d_M_run_49 f_M_16 hM.1 (by rfl) ?_
        refine kx_iload d_M_run_52 rfl ?_
        refine kx_iconst (nI 1) d_M_run_54 (by decide) ?_
        refine kx_ixor _ d_M_run_55 (kx_xor _ _) ?_
        refine kx_iald d_M_run_56 hM.a2 (by omega) (by decide) ?_
        rw [hlk]
        refine kx_istore d_M_run_57 (by decide) ?_
        refine kx_goto 31 d_M_run_59 (by decide) ?_
        refine kx_loc (L1 := [(0, .ref (ma 0)), (1, .int (nI c)), (3, .int (nI (l ++ [x]).length)), (4, .int (oI (xLk X (x ^^^ 1))))]) ⟨rfl, rfl, by rw [List.length_append]; rfl, rfl, trivial⟩ ?_
        exact ih (xLk X (x ^^^ 1)) (l ++ [x]) w _ (by rw [List.length_append, List.length_singleton]; omega) (fun y hy => hX.lk hxx hy) hM hO hA2 hL2 (by rw [← ht, List.append_assoc]; rfl) he
set_option maxRecDepth 20000 in
set_option maxHeartbeats 4000000 in
theorem m_M_run {E : kx_E} {w : va_W} {ma : Nat → Nat} {F : Nat → Int32} {A : Nat → Nat → Int32} (hM : Mdl E w ma F A) {n : Nat} {X : Fx} {D : Dy} (hR : ModR n X D A) (hX : WfX n X) (hD : WfD n D) (hn : F 1 = nI n) (hY : Acy n X) {c : Nat} (hc : c < n) : kx_S E Y_M_run [.ref (ma 0), .int (nI c)] w (MP E w ma F (fun A1 => lnO A A1 ∧ LnR A1 (trR X c)) (some (.int (nI (trR X c).length)))) := by
  refine kx_go (by decide) rfl rfl (Nat.le_of_ble_eq_true rfl) (kx_cc rfl (kx_cc rfl kx_c0)) (fun z => ?_)
  have hO : kx_off w w mdlN := kx_off.rf
  have h24 := hX.1
  obtain ⟨hy1, hy2⟩ := hY (2 * c) (by omega)
  have hr2 := outM_lt hX 24 (2 * c) (by omega)
  have hpos := trM_pos X c
  have hlen : (trM X c).length ≤ 24 := runM_len _ _ _
  have hlt := trM_lt hX hc
  have hRl := trR_len X c
  have i0 := hlt _ (row_get (trM X c) (k := 0) hpos)
  have i1 := hlt _ (row_get (trM X c) (k := (trM X c).length - 1) (by omega))
  have d0 := (hX.2.1 ((trM X c).getD 0 0 / 2) (by omega)).2
  have d1 := (hX.2.1 ((trM X c).getD ((trM X c).length - 1) 0 / 2) (by omega)).2
  obtain ⟨w0, hw0⟩ : ∃ w0, w0 = w := ⟨_, rfl⟩
  have hO : kx_off w0 w mdlN := by rw [hw0]; exact kx_off.rf
  refine kx_q9 (Q := MP E w0 ma F (fun A1 => lnO A A1 ∧ LnR A1 (trR X c)) (some (.int (nI (trR X c).length)))) (by rw [hw0]) ?_
  have fin : ∀ (w : va_W) (A1 : Nat → Nat → Int32) (t : List Nat), Mdl E w ma F A1 → kx_off w0 w mdlN → lnO A A1 → LnR A1 t → t.length = (trM X c).length → ((trM X c).length ≠ 1 → t = trN X c) → kx_R E Y_M_run z 98 [(0, .ref (ma 0)), (1, .int (nI c)), (3, .int (nI (trM X c).length))] [] w 0 0 (MP E w0 ma F (fun A1 => lnO A A1 ∧ LnR A1 (trR X c)) (some (.int (nI (trR X c).length)))) := by
    intro w A1 t hM hO hA1 hL1 htl hte
    rw [hRl]
    refine kx_iload_n d_M_run_98 rfl ?_
    refine kx_iconst (nI 1) d_M_run_99 (by decide) ?_
    first | refine kx_icmp_ne_n 112 d_M_run_100 (by decide) (by omega) (by omega) ?_ ?_ | refine kx_icmp_ne 112 d_M_run_100 (by decide) ?_ ?_
    · intro h100
      refine kx_iload_n d_M_run_112 rfl ?_
      refine kx_iret d_M_run_113 rfl (by decide) (by decide) ?_
      first
        | (have e1 : trR X c = t := by unfold trR; rw [if_neg h100]; exact (hte h100).symm
           rw [e1]
           exact ⟨rfl, A1, hM, ⟨hA1, hL1⟩, hO⟩)
        | (have e1 : trR X c = [2 * c] := by unfold trR; rw [if_pos h100]
           rw [e1]
           exact ⟨rfl, _, hM, ⟨hA1.up, fun k hk => by
             have hk : k = 0 := by simp at hk; omega
             subst hk
             rw [up1_s, upd_s]
             rfl⟩, hO⟩)
    · intro h100
      refine kx_aload_n d_M_run_103 rfl (by first | rfl | exact kx_rf _) ?_
      refine kx_get _ d_M_run_104 f_M_86 hM.1 (by rfl) ?_
      refine kx_iconst (nI 0) d_M_run_107 (by decide) ?_
      refine kx_iconst (nI 2) d_M_run_108 (by decide) ?_
      refine kx_iload_n d_M_run_109 rfl ?_
      first | refine kx_imul _ d_M_run_110 (pk_mul _ _) ?_ | refine kx_imul _ d_M_run_110 rfl ?_
      refine mA_put (j := 25) d_M_run_111 hM hO (by decide) (len := 24) rfl (by decide) (by omega) (fun w hM hO => ?_)
      refine kx_iload_n d_M_run_112 rfl ?_
      refine kx_iret d_M_run_113 rfl (by decide) (by decide) ?_
      first
        | (have e1 : trR X c = t := by unfold trR; rw [if_neg h100]; exact (hte h100).symm
           rw [e1]
           exact ⟨rfl, A1, hM, ⟨hA1, hL1⟩, hO⟩)
        | (have e1 : trR X c = [2 * c] := by unfold trR; rw [if_pos h100]
           rw [e1]
           exact ⟨rfl, _, hM, ⟨hA1.up, fun k hk => by
             have hk : k = 0 := by simp at hk; omega
             subst hk
             rw [up1_s, upd_s]
             rfl⟩, hO⟩)
  refine kx_iconst (nI 2) d_M_run_0 (by decide) ?_
  refine kx_iload_n d_M_run_1 rfl ?_
  first | refine kx_imul _ d_M_run_2 (pk_mul _ _) ?_ | refine kx_imul _ d_M_run_2 rfl ?_
  refine kx_istore_n d_M_run_3 (by decide) ?_
  refine kx_loc (L1 := [(0, .ref (ma 0)), (1, .int (nI c)), (2, .int (nI (2 * c)))]) ⟨rfl, rfl, rfl, trivial⟩ ?_
  refine l_M_run1 hM hR hX hD hn (r := outM (xLk X) 24 (2 * c)) ?_ 24 (2 * c) (by omega) rfl hy1
  refine kx_iconst (nI 0) d_M_run_26 (by decide) ?_
  refine kx_istore_n d_M_run_27 (by decide) ?_
  refine kx_iload_n d_M_run_28 rfl ?_
  refine kx_istore d_M_run_29 (by decide) ?_
  refine kx_loc (L1 := [(0, .ref (ma 0)), (1, .int (nI c)), (3, .int (nI ([] : List Nat).length)), (4, .int (oI (some (outM (xLk X) 24 (2 * c)))))]) ⟨rfl, rfl, rfl, rfl, trivial⟩ ?_
  refine l_M_run2 hR hX (t := trM X c) (fun w A1 hM hO hA1 hL1 => ?_) 24 (some (outM (xLk X) 24 (2 * c))) [] w A rfl (fun x hx => by cases hx; exact hr2) hM hO lnO.rf (fun k hk => absurd hk (Nat.not_lt_zero _)) rfl hy2
  refine kx_aload_n d_M_run_62 rfl (by first | rfl | exact kx_rf _) ?_
  refine kx_get _ d_M_run_63 f_M_7 hM.1 (by rfl) ?_
  refine kx_aload_n d_M_run_66 rfl (by first | rfl | exact kx_rf _) ?_
  refine kx_get _ d_M_run_67 f_M_86 hM.1 (by rfl) ?_
  refine kx_iconst (nI 0) d_M_run_70 (by decide) ?_
  refine kx_iald d_M_run_71 hM.a25 (by omega) (by decide) ?_
  rw [hL1 0 hpos]
  refine kx_iconst (nI 2) d_M_run_72 (by decide) ?_
  refine kx_idiv _ d_M_run_73 (by decide) (pk_div (by omega) (by omega) (by omega)) ?_
  refine kx_iald d_M_run_74 hM.a0 (by omega) (by decide) ?_
  rw [hA1 0 (by decide) (by decide), hR.ids _ (by omega)]
  refine kx_aload_n d_M_run_75 rfl (by first | rfl | exact kx_rf _) ?_
  refine kx_get _ d_M_run_76 f_M_7 hM.1 (by rfl) ?_
  refine kx_aload_n d_M_run_79 rfl (by first | rfl | exact kx_rf _) ?_
  refine kx_get _ d_M_run_80 f_M_86 hM.1 (by rfl) ?_
  refine kx_iload_n d_M_run_83 rfl ?_
  refine kx_iconst (nI 1) d_M_run_84 (by decide) ?_
  refine kx_isub _ d_M_run_85 (pk_sub (by omega)) ?_
  refine kx_iald d_M_run_86 hM.a25 (by omega) (by decide) ?_
  rw [hL1 _ (by omega)]
  refine kx_iconst (nI 2) d_M_run_87 (by decide) ?_
  refine kx_idiv _ d_M_run_88 (by decide) (pk_div (by omega) (by omega) (by omega)) ?_
  refine kx_iald d_M_run_89 hM.a0 (by omega) (by decide) ?_
  rw [hA1 0 (by decide) (by decide), hR.ids _ (by omega)]
  refine kx_icmp_le_n 98 d_M_run_90 (by decide) (by omega) (by omega) ?_ ?_
  · intro h90
    refine kx_loc (L1 := [(0, .ref (ma 0)), (1, .int (nI c)), (3, .int (nI (trM X c).length))]) ⟨rfl, rfl, rfl, trivial⟩ ?_
    exact fin w A1 (trM X c) hM hO hA1 hL1 rfl (fun _ => by unfold trN; rw [if_neg (by omega)])
  · intro h90
    refine kx_aload_n d_M_run_93 rfl (by first | rfl | exact kx_rf _) ?_
    refine kx_iload_n d_M_run_94 rfl ?_
    refine kx_callV (as := [.int (nI (trM X c).length)]) (rest := []) d_M_run_95 v_M_109 rfl hM.1 rfl rfl (by decide) (by decide) (Nat.le_of_ble_eq_true rfl) (by decide) (by decide) rfl (m_M_turn hM hlen hL1) (fun X w1 h => by cases h.1) (fun v w hq9 => ?_)
    obtain ⟨hv, A2, hM, hP9, hO9⟩ := hq9
    cases hv
    have hO := hO.tr hO9 (fun _ h => h) (fun _ h => h)
    refine kx_stk (st1 := []) rfl ?_
    refine kx_loc (L1 := [(0, .ref (ma 0)), (1, .int (nI c)), (3, .int (nI (trM X c).length))]) ⟨rfl, rfl, rfl, trivial⟩ ?_
    exact fin w A2 (rowTurn (trM X c)) hM hO (hA1.tr hP9.1) hP9.2 (rowTurn_len _) (fun _ => by unfold trN; rw [if_pos (by omega)])
    
theorem d_M_together_0 : decode c_M_together 0 = .ok (.aload_n 0, 1) := by decide +kernel
theorem d_M_together_1 : decode c_M_together 1 = .ok (.iload_n 1, 1) := by decide +kernel
theorem d_M_together_2 : decode c_M_together 2 = .ok (.invokevirtual 112, 3) := by decide +kernel
theorem d_M_together_5 : decode c_M_together 5 = .ok (.istore_n 3, 1) := by decide +kernel
theorem d_M_together_6 : decode c_M_together 6 = .ok (.iconst 0, 1) := by decide +kernel
theorem d_M_together_7 : decode c_M_together 7 = .ok (.istore 4, 2) := by decide +kernel
theorem d_M_together_9 : decode c_M_together 9 = .ok (.iload 4, 2) := by decide +kernel
theorem d_M_together_11 : decode c_M_together 11 = .ok (.iload_n 3, 1) := by decide +kernel
theorem d_M_together_12 : decode c_M_together 12 = .ok (.if_icmp .ge 24, 3) := by decide +kernel
theorem d_M_together_15 : decode c_M_together 15 = .ok (.aload_n 0, 1) := by decide +kernel
theorem d_M_together_16 : decode c_M_together 16 = .ok (.getfield 86, 3) := by decide +kernel
theorem d_M_together_19 : decode c_M_together 19 = .ok (.iload 4, 2) := by decide +kernel
theorem d_M_together_21 : decode c_M_together 21 = .ok (.iaload, 1) := by decide +kernel
theorem d_M_together_22 : decode c_M_together 22 = .ok (.iconst 2, 1) := by decide +kernel
theorem d_M_together_23 : decode c_M_together 23 = .ok (.idiv, 1) := by decide +kernel
theorem d_M_together_24 : decode c_M_together 24 = .ok (.iload_n 2, 1) := by decide +kernel
theorem d_M_together_25 : decode c_M_together 25 = .ok (.if_icmp .ne 5, 3) := by decide +kernel
theorem d_M_together_28 : decode c_M_together 28 = .ok (.iconst 1, 1) := by decide +kernel
theorem d_M_together_29 : decode c_M_together 29 = .ok (.ireturn, 1) := by decide +kernel
theorem d_M_together_30 : decode c_M_together 30 = .ok (.iinc 4 1, 3) := by decide +kernel
theorem d_M_together_33 : decode c_M_together 33 = .ok (.goto (-24), 3) := by decide +kernel
theorem d_M_together_36 : decode c_M_together 36 = .ok (.iconst 0, 1) := by decide +kernel
theorem d_M_together_37 : decode c_M_together 37 = .ok (.ireturn, 1) := by decide +kernel
set_option maxRecDepth 20000 in
set_option maxHeartbeats 4000000 in
theorem l_M_together {E : kx_E} {w : va_W} {ma : Nat → Nat} {F : Nat → Int32} {A : Nat → Nat → Int32} (hM : Mdl E w ma F A) {t : List Nat} {b : Nat} (hb : b < 2 ^ 31) (h24 : t.length ≤ 24) (hL : LnR A t) (hi : ∀ v ∈ t, v < 2 ^ 31) {z : kx_Z} {Q : kx_O → va_W → Prop} (hQ : Q (.inl (some (.int (nI (if rowNo b t 0 = 0 then 0 else 1))))) w) : ∀ (m k : Nat), m + k = t.length → rowNo b t 0 = rowNo b (t.drop k) k → kx_R E Y_M_together z 9 [(0, .ref (ma 0)), (2, .int (nI b)), (3, .int (nI t.length)), (4, .int (nI k))] [] w 0 0 Q := by
  intro m
  induction m with
  | zero =>
    intro k hk hr
    have hr0 : rowNo b t 0 = 0 := by rw [hr, List.drop_eq_nil_of_le (by omega)]; rfl
    rw [if_pos hr0] at hQ
    refine kx_iload d_M_together_9 rfl ?_
    refine kx_iload_n d_M_together_11 rfl ?_
    first | refine kx_icmp_ge_n 36 d_M_together_12 (by decide) (by omega) (by omega) ?_ ?_ | refine kx_icmp_ge 36 d_M_together_12 (by decide) ?_ ?_
    · intro h12
      refine kx_iconst (nI 0) d_M_together_36 (by decide) ?_
      refine kx_zret d_M_together_37 rfl (by decide) (by decide) (by decide) ?_
      exact hQ
    · intro h12
      exact absurd h12 (by omega)
  | succ m ih =>
    intro k hk hr
    have hkl : k < t.length := by omega
    have hv := hi _ (row_get t hkl)
    have hd := rowNo_drop b t k hkl
    refine kx_iload d_M_together_9 rfl ?_
    refine kx_iload_n d_M_together_11 rfl ?_
    first | refine kx_icmp_ge_n 36 d_M_together_12 (by decide) (by omega) (by omega) ?_ ?_ | refine kx_icmp_ge 36 d_M_together_12 (by decide) ?_ ?_
    · intro h12
      exact absurd h12 (by omega)
    · intro h12
      refine kx_aload_n d_M_together_15 rfl (by first | rfl | exact kx_rf _) ?_
      refine kx_get _ d_M_together_16 f_M_86 hM.1 (by rfl) ?_
      refine kx_iload d_M_together_19 rfl ?_
      refine kx_iald d_M_together_21 hM.a25 (by omega) (by decide) ?_
      rw [hL k hkl]
      refine kx_iconst (nI 2) d_M_together_22 (by decide) ?_
      first | refine kx_idiv _ d_M_together_23 (by decide) (pk_div (by omega) (by omega) (by omega)) ?_ | refine kx_idiv _ d_M_together_23 (by decide) rfl ?_
      refine kx_iload_n d_M_together_24 rfl ?_
      first | refine kx_icmp_ne_n 30 d_M_together_25 (by decide) (by omega) (by omega) ?_ ?_ | refine kx_icmp_ne 30 d_M_together_25 (by decide) ?_ ?_
      · intro h25
        refine kx_iinc _ d_M_together_30 rfl (by decide) (nI_1 _) ?_
        refine kx_goto 9 d_M_together_33 (by decide) ?_
        refine kx_loc (L1 := [(0, .ref (ma 0)), (2, .int (nI b)), (3, .int (nI t.length)), (4, .int (nI (k + 1)))]) ⟨rfl, rfl, rfl, rfl, trivial⟩ ?_
        rw [if_neg h25] at hd
        exact ih (k + 1) (by omega) (by rw [hr, hd])
      · intro h25
        refine kx_iconst (nI 1) d_M_together_28 (by decide) ?_
        refine kx_zret d_M_together_29 rfl (by decide) (by decide) (by decide) ?_
        have h25 : t.getD k 0 / 2 = b := by omega
        rw [if_pos h25] at hd
        have hr0 : rowNo b t 0 ≠ 0 := by rw [hr, hd]; omega
        rw [if_neg hr0] at hQ
        exact hQ
set_option maxRecDepth 20000 in
set_option maxHeartbeats 4000000 in
theorem m_M_together {E : kx_E} {w : va_W} {ma : Nat → Nat} {F : Nat → Int32} {A : Nat → Nat → Int32} (hM : Mdl E w ma F A) {n : Nat} {X : Fx} {D : Dy} (hR : ModR n X D A) (hX : WfX n X) (hD : WfD n D) (hn : F 1 = nI n) (hY : Acy n X) {a b : Nat} (ha : a < n) (hb : b < n) : kx_S E Y_M_together [.ref (ma 0), .int (nI a), .int (nI b)] w (MP E w ma F (fun A1 => lnO A A1) (some (.int (nI (if rowNo b (trR X a) 0 = 0 then 0 else 1))))) := by
  refine kx_go (by decide) rfl rfl (Nat.le_of_ble_eq_true rfl) (kx_cc rfl (kx_cc rfl (kx_cc rfl kx_c0))) (fun z => ?_)
  have hO : kx_off w w mdlN := kx_off.rf
  have h24 := hX.1
  refine kx_aload_n d_M_together_0 rfl (by first | rfl | exact kx_rf _) ?_
  refine kx_iload_n d_M_together_1 rfl ?_
  refine kx_callV (as := [.int (nI a)]) (rest := []) d_M_together_2 v_M_112 rfl hM.1 rfl rfl (by decide) (by decide) (Nat.le_of_ble_eq_true rfl) (by decide) (by decide) rfl (m_M_run hM hR hX hD hn hY ha) (fun X w1 h => by cases h.1) (fun v w hq9 => ?_)
  obtain ⟨hv, A2, hM, hP9, hO9⟩ := hq9
  cases hv
  have hO := hO.tr hO9 (fun _ h => h) (fun _ h => h)
  refine kx_stk (st1 := [.int (nI (trR X a).length)]) rfl ?_
  refine kx_istore_n d_M_together_5 (by decide) ?_
  refine kx_iconst (nI 0) d_M_together_6 (by decide) ?_
  refine kx_istore d_M_together_7 (by decide) ?_
  refine kx_loc (L1 := [(0, .ref (ma 0)), (2, .int (nI b)), (3, .int (nI (trR X a).length)), (4, .int (nI 0))]) ⟨rfl, rfl, rfl, rfl, trivial⟩ ?_
  exact l_M_together hM (t := trR X a) (by omega) (trR_24 X a) hP9.2 (fun v hv => by have := trR_lt hX ha v hv; omega) ⟨rfl, A2, hM, hP9.1, hO⟩ (trR X a).length 0 rfl rfl
