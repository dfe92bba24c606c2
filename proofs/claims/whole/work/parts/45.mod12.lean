/-! The reference: a round keeps what always holds -/
theorem rowIds_turn (t : List Nat) : rowIds (rowTurn t) = (rowIds t).reverse := by
  unfold rowIds rowTurn
  rw [List.map_map, ← List.map_reverse]
  apply List.map_congr_left
  intro x _
  exact x1_div x
theorem rowTw_nd {t : List Nat} (h : ¬ rowTw t = 1) : (rowIds t).Nodup := by
  unfold rowTw at h
  by_cases e : (rowIds t).Nodup
  · exact e
  · rw [if_neg e] at h; exact absurd rfl h
theorem seeS_nd (id : Nat → Nat) (t : List Nat) : (rowIds (seeS id t)).Nodup := by
  unfold seeS
  split
  · exact List.nodup_nil
  · rename_i h
    split
    · rw [rowIds_turn]; exact (List.reverse_perm _).nodup_iff.mpr (rowTw_nd h)
    · exact rowTw_nd h
theorem seeM_nd (X : Fx) (D : Dy) (c : Nat) : (rowIds (seeM X D c)).Nodup := by
  unfold seeM
  split
  · exact List.nodup_nil
  · exact seeS_nd _ _
theorem seeM_mem {X : Fx} {D : Dy} {c : Nat} (h : seeM X D c ≠ []) : c ∈ rowIds (seeM X D c) := by
  have ht : c ∈ rowIds (seeT (dVw D (2 * c)) (dVw D (2 * c + 1)) (2 * c)) := by
    refine List.mem_map.mpr ⟨2 * c, ?_, by omega⟩
    unfold seeT
    exact List.mem_append_left _ (List.mem_append_right _ (List.mem_singleton.mpr rfl))
  unfold seeM at h ⊢
  split
  · rename_i q; rw [if_pos q] at h; exact absurd rfl h
  · rename_i q
    rw [if_neg q] at h
    unfold seeS at h ⊢
    split
    · rename_i q2; rw [if_pos q2] at h; exact absurd rfl h
    · split
      · rw [rowIds_turn]; exact List.mem_reverse.mpr ht
      · exact ht
theorem WfD.lk {n : Nat} {X : Fx} {losses : Int32} {D0 D : Dy} {p : Nat} (h : WfD n D) (h0 : WfD n D0) (hX : WfX n X) (hp : p < 2 * n) : WfD n (lkD X losses D0 D p) := by
  have v0 := h.1 p hp
  refine ⟨fun x hx => ?_, fun x hx l hl => ?_, h.2.2⟩
  · show itL n (up1 (dVw D) p (lkV X losses D0 D p) x) ∧ up1 (dWh D) p (lkW X losses D0 D p) x ≤ 1 ∧ up1 (dSi D) p (lkS X losses D p) x ≤ 4
    by_cases e : x = p
    · subst e
      rw [up1_s, up1_s, up1_s]
      unfold lkV lkW lkS
      cases hh : heaQ X losses x with
      | none =>
        dsimp only
        refine ⟨?_, by split <;> split <;> omega, by split <;> omega⟩
        by_cases e2 : (if dSi D x = 4 then 4 else dSi D x + 1) = 4
        · rw [if_pos e2]; exact ⟨Nat.zero_le _, fun y hy => by cases hy⟩
        · rw [if_neg e2]; exact v0.1
      | some q =>
        dsimp only
        have hq := hX.lk hx (heaQ_lk hh)
        have hv := h0.1 (q ^^^ 1) (x1_lt hq)
        refine ⟨⟨by rw [List.length_take]; omega, fun y hy => ?_⟩, hv.2.1, by omega⟩
        rcases List.mem_cons.mp (List.mem_of_mem_take hy) with e | e
        · rw [e]; exact hq
        · exact hv.1.2 y e
    · rw [up1_n e, up1_n e, up1_n e]; exact h.1 x hx
  · have hl : up1 (dTo D) p (lkT X losses D0 D p) x = some l := hl
    by_cases e : x = p
    · subst e
      rw [up1_s] at hl
      unfold lkT at hl
      cases hh : heaQ X losses x with
      | none => rw [hh] at hl; exact h.2.1 x hx l hl
      | some q =>
        rw [hh] at hl
        cases hl
        have hq := hX.lk hx (heaQ_lk hh)
        exact (h0.2.2 (q / 2) (by omega)).1
    · rw [up1_n e] at hl; exact h.2.1 x hx l hl
theorem WfD.st {n : Nat} {X : Fx} {D : Dy} {c : Nat} (h : WfD n D) (hc : c < n) : WfD n (stD X D c) := by
  refine ⟨h.1, h.2.1, fun x hx => ?_⟩
  show itL n (up1 (dDi D) c (seeM X D c) x) ∧ (rowIds (up1 (dDi D) c (seeM X D c) x)).Nodup ∧ (up1 (dDi D) c (seeM X D c) x ≠ [] → x ∈ rowIds (up1 (dDi D) c (seeM X D c) x)) ∧ up1 (dAg D) c (agN D c (seeM X D c)) x x = nI 0 ∧ ∀ k, k < 24 → k ≠ x → k ∉ rowIds (up1 (dDi D) c (seeM X D c) x) → up1 (dAg D) c (agN D c (seeM X D c)) x k = -1
  by_cases e : x = c
  · subst e
    rw [up1_s, up1_s]
    refine ⟨seeM_it h hx, seeM_nd X D x, seeM_mem, by unfold agN; rw [if_pos rfl], fun k hk hkx hkn => ?_⟩
    unfold agN
    rw [if_neg hkx]
    by_cases e2 : dDi D x = seeM X D x
    · rw [← e2] at hkn
      rw [if_neg (fun q => q.2 ((h.2.2 x hx).2.2.2.2 k hk hkx hkn))]
    · rw [if_neg (fun q => e2 q.1)]
  · rw [up1_n e, up1_n e]; exact h.2.2 x hx
theorem WfD.ln {n : Nat} {X : Fx} {losses : Int32} {D0 D : Dy} {p : Nat} (h : WfD n D) (hp : p < 2 * n) : WfD n (lnD X losses D0 D p) := by
  unfold lnD
  cases hh : heaQ X losses p with
  | none => exact h
  | some q =>
    dsimp only
    split
    · exact h
    · split
      · exact h
      · refine ⟨h.1, h.2.1, fun x hx => ?_⟩
        have hd := h.2.2 x hx
        refine ⟨hd.1, hd.2.1, hd.2.2.1, ?_, fun k hk hkx hkn => ?_⟩
        · show up1 (dAg D) (p / 2) _ x x = nI 0
          by_cases e : x = p / 2
          · subst e
            rw [up1_s]
            (try dsimp only)
            rw [if_neg (fun q9 => (tkB_C.mp q9).1 rfl)]
            exact hd.2.2.2.1
          · rw [up1_n e]; exact hd.2.2.2.1
        · show up1 (dAg D) (p / 2) _ x k = -1
          by_cases e : x = p / 2
          · subst e
            rw [up1_s]
            (try dsimp only)
            have hno : ¬ tkB D0 D (p / 2) (q / 2) k = true := fun q9 => (tkB_C.mp q9).2.1 (rowNo_no (fun v hv e9 => hkn (List.mem_map.mpr ⟨v, hv, e9⟩)))
            rw [if_neg hno]
            exact hd.2.2.2.2 k hk hkx hkn
          · rw [up1_n e]; exact hd.2.2.2.2 k hk hkx hkn
theorem oneI_le (o : Option Nat) : oneI o ≤ 1 := by cases o; exact Nat.zero_le _; exact Nat.le_refl _
def lkR (X : Fx) (losses : Int32) (D0 : Dy) : Nat → Dy → Dy
  | 0, D => D
  | k + 1, D => lkD X losses D0 (lkR X losses D0 k D) k
def lcC (X : Fx) (losses : Int32) (D0 D : Dy) (c : Nat) : Dy := lnD X losses D0 (lnD X losses D0 (stD X D c) (2 * c)) (2 * c + 1)
def lcR (X : Fx) (losses : Int32) (D0 : Dy) : Nat → Dy → Dy
  | 0, D => D
  | k + 1, D => lcC X losses D0 (lcR X losses D0 k D) k
def cnM (X : Fx) (losses : Int32) : Nat → Nat
  | 0 => 0
  | k + 1 => cnM X losses k + oneI (heaQ X losses k)
def rnd (n : Nat) (X : Fx) (losses : Int32) (D : Dy) : Dy := lcR X losses D n (lkR X losses D (2 * n) D)
theorem WfD.lkR {n : Nat} {X : Fx} {losses : Int32} {D0 D : Dy} (h : WfD n D) (h0 : WfD n D0) (hX : WfX n X) : ∀ k, k ≤ 2 * n → WfD n (lkR X losses D0 k D)
  | 0, _ => h
  | k + 1, hk => (WfD.lkR h h0 hX k (by omega)).lk h0 hX (by omega)
theorem WfD.lcC {n : Nat} {X : Fx} {losses : Int32} {D0 D : Dy} {c : Nat} (h : WfD n D) (hc : c < n) : WfD n (lcC X losses D0 D c) := ((h.st hc).ln (by omega)).ln (by omega)
theorem WfD.lcR {n : Nat} {X : Fx} {losses : Int32} {D0 D : Dy} (h : WfD n D) : ∀ k, k ≤ n → WfD n (lcR X losses D0 k D)
  | 0, _ => h
  | k + 1, hk => (WfD.lcR h k (by omega)).lcC (by omega)
theorem WfD.rnd {n : Nat} {X : Fx} {losses : Int32} {D : Dy} (h : WfD n D) (hX : WfX n X) : WfD n (rnd n X losses D) := (h.lkR h hX (2 * n) (Nat.le_refl _)).lcR n (Nat.le_refl _)
theorem cnM_le (X : Fx) (losses : Int32) : ∀ k, cnM X losses k ≤ k
  | 0 => Nat.le_refl _
  | k + 1 => by
    have h := cnM_le X losses k
    show cnM X losses k + oneI (heaQ X losses k) ≤ k + 1
    have : oneI (heaQ X losses k) ≤ 1 := oneI_le _
    omega
theorem d_M_round_0 : decode c_M_round 0 = .ok (.iconst 0, 1) := by decide +kernel
theorem d_M_round_1 : decode c_M_round 1 = .ok (.istore_n 2, 1) := by decide +kernel
theorem d_M_round_2 : decode c_M_round 2 = .ok (.aload_n 0, 1) := by decide +kernel
theorem d_M_round_3 : decode c_M_round 3 = .ok (.invokevirtual 139, 3) := by decide +kernel
theorem d_M_round_6 : decode c_M_round 6 = .ok (.iconst 0, 1) := by decide +kernel
theorem d_M_round_7 : decode c_M_round 7 = .ok (.istore_n 3, 1) := by decide +kernel
theorem d_M_round_8 : decode c_M_round 8 = .ok (.iload_n 3, 1) := by decide +kernel
theorem d_M_round_9 : decode c_M_round 9 = .ok (.iconst 2, 1) := by decide +kernel
theorem d_M_round_10 : decode c_M_round 10 = .ok (.aload_n 0, 1) := by decide +kernel
theorem d_M_round_11 : decode c_M_round 11 = .ok (.getfield 93, 3) := by decide +kernel
theorem d_M_round_14 : decode c_M_round 14 = .ok (.imul, 1) := by decide +kernel
theorem d_M_round_15 : decode c_M_round 15 = .ok (.if_icmp .ge 32, 3) := by decide +kernel
theorem d_M_round_18 : decode c_M_round 18 = .ok (.aload_n 0, 1) := by decide +kernel
theorem d_M_round_19 : decode c_M_round 19 = .ok (.iload_n 3, 1) := by decide +kernel
theorem d_M_round_20 : decode c_M_round 20 = .ok (.iload_n 1, 1) := by decide +kernel
theorem d_M_round_21 : decode c_M_round 21 = .ok (.invokevirtual 126, 3) := by decide +kernel
theorem d_M_round_24 : decode c_M_round 24 = .ok (.ifCond .eq 9, 3) := by decide +kernel
theorem d_M_round_27 : decode c_M_round 27 = .ok (.iload_n 2, 1) := by decide +kernel
theorem d_M_round_28 : decode c_M_round 28 = .ok (.iconst 1, 1) := by decide +kernel
theorem d_M_round_29 : decode c_M_round 29 = .ok (.iadd, 1) := by decide +kernel
theorem d_M_round_30 : decode c_M_round 30 = .ok (.goto 4, 3) := by decide +kernel
theorem d_M_round_33 : decode c_M_round 33 = .ok (.iload_n 2, 1) := by decide +kernel
theorem d_M_round_34 : decode c_M_round 34 = .ok (.istore_n 2, 1) := by decide +kernel
theorem d_M_round_35 : decode c_M_round 35 = .ok (.aload_n 0, 1) := by decide +kernel
theorem d_M_round_36 : decode c_M_round 36 = .ok (.iload_n 3, 1) := by decide +kernel
theorem d_M_round_37 : decode c_M_round 37 = .ok (.iload_n 1, 1) := by decide +kernel
theorem d_M_round_38 : decode c_M_round 38 = .ok (.invokevirtual 142, 3) := by decide +kernel
theorem d_M_round_41 : decode c_M_round 41 = .ok (.iinc 3 1, 3) := by decide +kernel
theorem d_M_round_44 : decode c_M_round 44 = .ok (.goto (-36), 3) := by decide +kernel
theorem d_M_round_47 : decode c_M_round 47 = .ok (.iconst 0, 1) := by decide +kernel
theorem d_M_round_48 : decode c_M_round 48 = .ok (.istore_n 3, 1) := by decide +kernel
theorem d_M_round_49 : decode c_M_round 49 = .ok (.iload_n 3, 1) := by decide +kernel
theorem d_M_round_50 : decode c_M_round 50 = .ok (.aload_n 0, 1) := by decide +kernel
theorem d_M_round_51 : decode c_M_round 51 = .ok (.getfield 93, 3) := by decide +kernel
theorem d_M_round_54 : decode c_M_round 54 = .ok (.if_icmp .ge 32, 3) := by decide +kernel
theorem d_M_round_57 : decode c_M_round 57 = .ok (.aload_n 0, 1) := by decide +kernel
theorem d_M_round_58 : decode c_M_round 58 = .ok (.iload_n 3, 1) := by decide +kernel
theorem d_M_round_59 : decode c_M_round 59 = .ok (.invokevirtual 146, 3) := by decide +kernel
theorem d_M_round_62 : decode c_M_round 62 = .ok (.aload_n 0, 1) := by decide +kernel
theorem d_M_round_63 : decode c_M_round 63 = .ok (.iconst 2, 1) := by decide +kernel
theorem d_M_round_64 : decode c_M_round 64 = .ok (.iload_n 3, 1) := by decide +kernel
theorem d_M_round_65 : decode c_M_round 65 = .ok (.imul, 1) := by decide +kernel
theorem d_M_round_66 : decode c_M_round 66 = .ok (.iload_n 1, 1) := by decide +kernel
theorem d_M_round_67 : decode c_M_round 67 = .ok (.invokevirtual 149, 3) := by decide +kernel
theorem d_M_round_70 : decode c_M_round 70 = .ok (.aload_n 0, 1) := by decide +kernel
theorem d_M_round_71 : decode c_M_round 71 = .ok (.iconst 2, 1) := by decide +kernel
theorem d_M_round_72 : decode c_M_round 72 = .ok (.iload_n 3, 1) := by decide +kernel
theorem d_M_round_73 : decode c_M_round 73 = .ok (.imul, 1) := by decide +kernel
theorem d_M_round_74 : decode c_M_round 74 = .ok (.iconst 1, 1) := by decide +kernel
theorem d_M_round_75 : decode c_M_round 75 = .ok (.iadd, 1) := by decide +kernel
theorem d_M_round_76 : decode c_M_round 76 = .ok (.iload_n 1, 1) := by decide +kernel
theorem d_M_round_77 : decode c_M_round 77 = .ok (.invokevirtual 149, 3) := by decide +kernel
theorem d_M_round_80 : decode c_M_round 80 = .ok (.iinc 3 1, 3) := by decide +kernel
theorem d_M_round_83 : decode c_M_round 83 = .ok (.goto (-34), 3) := by decide +kernel
theorem d_M_round_86 : decode c_M_round 86 = .ok (.aload_n 0, 1) := by decide +kernel
theorem d_M_round_87 : decode c_M_round 87 = .ok (.dup, 1) := by decide +kernel
theorem d_M_round_88 : decode c_M_round 88 = .ok (.getfield 152, 3) := by decide +kernel
theorem d_M_round_91 : decode c_M_round 91 = .ok (.iconst 1, 1) := by decide +kernel
theorem d_M_round_92 : decode c_M_round 92 = .ok (.iadd, 1) := by decide +kernel
theorem d_M_round_93 : decode c_M_round 93 = .ok (.putfield 152, 3) := by decide +kernel
theorem d_M_round_96 : decode c_M_round 96 = .ok (.aload_n 0, 1) := by decide +kernel
theorem d_M_round_97 : decode c_M_round 97 = .ok (.aload_n 0, 1) := by decide +kernel
theorem d_M_round_98 : decode c_M_round 98 = .ok (.getfield 155, 3) := by decide +kernel
theorem d_M_round_101 : decode c_M_round 101 = .ok (.iload_n 2, 1) := by decide +kernel
theorem d_M_round_102 : decode c_M_round 102 = .ok (.iadd, 1) := by decide +kernel
theorem d_M_round_103 : decode c_M_round 103 = .ok (.putfield 155, 3) := by decide +kernel
theorem d_M_round_106 : decode c_M_round 106 = .ok (.iload_n 2, 1) := by decide +kernel
theorem d_M_round_107 : decode c_M_round 107 = .ok (.ireturn, 1) := by decide +kernel
set_option maxRecDepth 20000 in
set_option maxHeartbeats 4000000 in
theorem l_M_round1 {E : kx_E} {w0 : va_W} {ma : Nat → Nat} {F : Nat → Int32} {n : Nat} {X : Fx} {D : Dy} (hX : WfX n X) (hD : WfD n D) (hn : F 1 = nI n) {losses : Int32} {z : kx_Z} {Q : kx_O → va_W → Prop} (hQ : ∀ w A, Mdl E w ma F A → kx_off w0 w mdlN → ModR n X (lkR X losses D (2 * n) D) A → OldR n D A → Bz A → kx_R E Y_M_round z 47 [(0, .ref (ma 0)), (1, .int losses), (2, .int (nI (cnM X losses (2 * n))))] [] w 0 0 Q) :
    ∀ (m k : Nat) (w : va_W) (A : Nat → Nat → Int32), m + k = 2 * n → Mdl E w ma F A → kx_off w0 w mdlN → ModR n X (lkR X losses D k D) A → OldR n D A → Bz A → kx_R E Y_M_round z 8 [(0, .ref (ma 0)), (1, .int losses), (2, .int (nI (cnM X losses k))), (3, .int (nI k))] [] w 0 0 Q := by
  have h24 := hX.1
  intro m
  induction m with
  | zero =>
    intro k w A hk hM hO hR hP hz
    have hk : k = 2 * n := by omega
    subst hk
    refine kx_iload_n d_M_round_8 rfl ?_
    refine kx_iconst (nI 2) d_M_round_9 (by decide) ?_
    refine kx_aload_n d_M_round_10 rfl (by first | rfl | exact kx_rf _) ?_
    refine kx_get _ d_M_round_11 f_M_93 hM.1 (by rfl) ?_
    rw [hn]
    first | refine kx_imul _ d_M_round_14 (pk_mul _ _) ?_ | refine kx_imul _ d_M_round_14 rfl ?_
    first | refine kx_icmp_ge_n 47 d_M_round_15 (by decide) (by omega) (by omega) ?_ ?_ | refine kx_icmp_ge 47 d_M_round_15 (by decide) ?_ ?_
    · intro h15
      exact kx_loc (L1 := [(0, .ref (ma 0)), (1, .int losses), (2, .int (nI (cnM X losses (2 * n))))]) ⟨rfl, rfl, rfl, trivial⟩ (hQ w A hM hO hR hP hz)
    · intro h15
      exact absurd h15 (by omega)
  | succ m ih =>
    intro k w A hk hM hO hR hP hz
    have hkn : k < 2 * n := by omega
    have hD2 := hD.lkR (losses := losses) hD hX k (by omega)
    have h01 : oneI (heaQ X losses k) < 2 := Nat.lt_succ_of_le (oneI_le _)
    refine kx_iload_n d_M_round_8 rfl ?_
    refine kx_iconst (nI 2) d_M_round_9 (by decide) ?_
    refine kx_aload_n d_M_round_10 rfl (by first | rfl | exact kx_rf _) ?_
    refine kx_get _ d_M_round_11 f_M_93 hM.1 (by rfl) ?_
    rw [hn]
    first | refine kx_imul _ d_M_round_14 (pk_mul _ _) ?_ | refine kx_imul _ d_M_round_14 rfl ?_
    first | refine kx_icmp_ge_n 47 d_M_round_15 (by decide) (by omega) (by omega) ?_ ?_ | refine kx_icmp_ge 47 d_M_round_15 (by decide) ?_ ?_
    · intro h15
      exact absurd h15 (by omega)
    · intro h15
      refine kx_aload_n d_M_round_18 rfl (by first | rfl | exact kx_rf _) ?_
      refine kx_iload_n d_M_round_19 rfl ?_
      refine kx_iload_n d_M_round_20 rfl ?_
      refine kx_callV (as := [.int (nI k), .int losses]) (rest := []) d_M_round_21 v_M_126 rfl hM.1 rfl rfl (by decide) (by decide) (Nat.le_of_ble_eq_true rfl) (by decide) (by decide) rfl (m_M_hears hM hR hX hD2 hn hkn losses) (fun X w1 h => by cases h.1) (fun v w1 hq9 => ?_)
      obtain ⟨hv, hw9⟩ := hq9
      cases hv
      subst hw9
      refine kx_stk (st1 := [.int (nI (oneI (heaQ X losses k)))]) rfl ?_
      first | refine kx_if_eq_n 33 d_M_round_24 (by decide) (by omega) ?_ ?_ | refine kx_if_eq 33 d_M_round_24 (by decide) ?_ ?_
      · intro h24
        refine kx_iload_n d_M_round_33 rfl ?_
        refine kx_istore_n d_M_round_34 (by decide) ?_
        refine kx_aload_n d_M_round_35 rfl (by first | rfl | exact kx_rf _) ?_
        refine kx_iload_n d_M_round_36 rfl ?_
        refine kx_iload_n d_M_round_37 rfl ?_
        refine kx_callV (as := [.int (nI k), .int losses]) (rest := []) d_M_round_38 v_M_142 rfl hM.1 rfl rfl (by decide) (by decide) (Nat.le_of_ble_eq_true rfl) (by decide) (by decide) rfl (m_M_look hM hR hX hD2 hn hz hP hD hkn) (fun X w1 h => by cases h.1) (fun v w hq9 => ?_)
        obtain ⟨hv, A1, hM, hP9, hO9⟩ := hq9
        cases hv
        have hO := hO.tr hO9 (fun _ h => h) (fun _ h => h)
        refine kx_stk (st1 := []) rfl ?_
        refine kx_iinc _ d_M_round_41 rfl (by decide) (nI_1 _) ?_
        refine kx_goto 8 d_M_round_44 (by decide) ?_
        obtain ⟨hR, hP, hz⟩ := hP9
        refine kx_loc (L1 := [(0, .ref (ma 0)), (1, .int losses), (2, .int (nI (cnM X losses (k + 1)))), (3, .int (nI (k + 1)))]) ⟨rfl, rfl, ?_, rfl, trivial⟩ ?_
        · have e9 : cnM X losses (k + 1) = cnM X losses k + oneI (heaQ X losses k) := rfl
          first
            | (rw [e9, show oneI (heaQ X losses k) = 1 by omega]; rfl)
            | (rw [e9, show oneI (heaQ X losses k) = 0 by omega]; rfl)
        · exact ih (k + 1) w A1 (by omega) hM hO hR hP hz
      · intro h24
        refine kx_iload_n d_M_round_27 rfl ?_
        refine kx_iconst (nI 1) d_M_round_28 (by decide) ?_
        first | refine kx_iadd _ d_M_round_29 (nI_add _ _) ?_ | refine kx_iadd _ d_M_round_29 rfl ?_
        refine kx_goto 34 d_M_round_30 (by decide) ?_
        refine kx_istore_n d_M_round_34 (by decide) ?_
        refine kx_aload_n d_M_round_35 rfl (by first | rfl | exact kx_rf _) ?_
        refine kx_iload_n d_M_round_36 rfl ?_
        refine kx_iload_n d_M_round_37 rfl ?_
        refine kx_callV (as := [.int (nI k), .int losses]) (rest := []) d_M_round_38 v_M_142 rfl hM.1 rfl rfl (by decide) (by decide) (Nat.le_of_ble_eq_true rfl) (by decide) (by decide) rfl (m_M_look hM hR hX hD2 hn hz hP hD hkn) (fun X w1 h => by cases h.1) (fun v w hq9 => ?_)
        obtain ⟨hv, A1, hM, hP9, hO9⟩ := hq9
        cases hv
        have hO := hO.tr hO9 (fun _ h => h) (fun _ h => h)
        refine kx_stk (st1 := []) rfl ?_
        refine kx_iinc _ d_M_round_41 rfl (by decide) (nI_1 _) ?_
        refine kx_goto 8 d_M_round_44 (by decide) ?_
        obtain ⟨hR, hP, hz⟩ := hP9
        refine kx_loc (L1 := [(0, .ref (ma 0)), (1, .int losses), (2, .int (nI (cnM X losses (k + 1)))), (3, .int (nI (k + 1)))]) ⟨rfl, rfl, ?_, rfl, trivial⟩ ?_
        · have e9 : cnM X losses (k + 1) = cnM X losses k + oneI (heaQ X losses k) := rfl
          first
            | (rw [e9, show oneI (heaQ X losses k) = 1 by omega]; rfl)
            | (rw [e9, show oneI (heaQ X losses k) = 0 by omega]; rfl)
        · exact ih (k + 1) w A1 (by omega) hM hO hR hP hz
set_option maxRecDepth 20000 in
set_option maxHeartbeats 4000000 in
theorem l_M_round2 {E : kx_E} {w0 : va_W} {ma : Nat → Nat} {F : Nat → Int32} {n : Nat} {X : Fx} {D D1 : Dy} (hX : WfX n X) (hD1 : WfD n D1) (hn : F 1 = nI n) {losses : Int32} {z : kx_Z} {Q : kx_O → va_W → Prop} (hQ : ∀ w A, Mdl E w ma F A → kx_off w0 w mdlN → ModR n X (lcR X losses D n D1) A → OldR n D A → Bz A → kx_R E Y_M_round z 86 [(0, .ref (ma 0)), (2, .int (nI (cnM X losses (2 * n))))] [] w 0 0 Q) :
    ∀ (m k : Nat) (w : va_W) (A : Nat → Nat → Int32), m + k = n → Mdl E w ma F A → kx_off w0 w mdlN → ModR n X (lcR X losses D k D1) A → OldR n D A → Bz A → kx_R E Y_M_round z 49 [(0, .ref (ma 0)), (1, .int losses), (2, .int (nI (cnM X losses (2 * n)))), (3, .int (nI k))] [] w 0 0 Q := by
  have h24 := hX.1
  intro m
  induction m with
  | zero =>
    intro k w A hk hM hO hR hP hz
    have hk : k = n := by omega
    subst hk
    refine kx_iload_n d_M_round_49 rfl ?_
    refine kx_aload_n d_M_round_50 rfl (by first | rfl | exact kx_rf _) ?_
    refine kx_get _ d_M_round_51 f_M_93 hM.1 (by rfl) ?_
    rw [hn]
    first | refine kx_icmp_ge_n 86 d_M_round_54 (by decide) (by omega) (by omega) ?_ ?_ | refine kx_icmp_ge 86 d_M_round_54 (by decide) ?_ ?_
    · intro h54
      exact kx_loc (L1 := [(0, .ref (ma 0)), (2, .int (nI (cnM X losses (2 * k))))]) ⟨rfl, rfl, trivial⟩ (hQ w A hM hO hR hP hz)
    · intro h54
      exact absurd h54 (by omega)
  | succ m ih =>
    intro k w A hk hM hO hR hP hz
    have hkn : k < n := by omega
    have hD2 := hD1.lcR (X := X) (losses := losses) (D0 := D) k (by omega)
    have hD3 := hD2.st (X := X) hkn
    have hD4 := hD3.ln (X := X) (losses := losses) (D0 := D) (p := 2 * k) (by omega)
    refine kx_iload_n d_M_round_49 rfl ?_
    refine kx_aload_n d_M_round_50 rfl (by first | rfl | exact kx_rf _) ?_
    refine kx_get _ d_M_round_51 f_M_93 hM.1 (by rfl) ?_
    rw [hn]
    first | refine kx_icmp_ge_n 86 d_M_round_54 (by decide) (by omega) (by omega) ?_ ?_ | refine kx_icmp_ge 86 d_M_round_54 (by decide) ?_ ?_
    · intro h54
      exact absurd h54 (by omega)
    · intro h54
      refine kx_aload_n d_M_round_57 rfl (by first | rfl | exact kx_rf _) ?_
      refine kx_iload_n d_M_round_58 rfl ?_
      refine kx_callV (as := [.int (nI k)]) (rest := []) d_M_round_59 v_M_146 rfl hM.1 rfl rfl (by decide) (by decide) (Nat.le_of_ble_eq_true rfl) (by decide) (by decide) rfl (m_M_settle hM hR hX hD2 hn hz hP hkn) (fun X w1 h => by cases h.1) (fun v w hq9 => ?_)
      obtain ⟨hv, A, hM, hP9, hO9⟩ := hq9
      cases hv
      have hO := hO.tr hO9 (fun _ h => h) (fun _ h => h)
      refine kx_stk (st1 := []) rfl ?_
      obtain ⟨hR, hP, hz⟩ := hP9
      refine kx_aload_n d_M_round_62 rfl (by first | rfl | exact kx_rf _) ?_
      refine kx_iconst (nI 2) d_M_round_63 (by decide) ?_
      refine kx_iload_n d_M_round_64 rfl ?_
      first | refine kx_imul _ d_M_round_65 (pk_mul _ _) ?_ | refine kx_imul _ d_M_round_65 rfl ?_
      refine kx_iload_n d_M_round_66 rfl ?_
      refine kx_callV (as := [.int (nI (2 * k)), .int losses]) (rest := []) d_M_round_67 v_M_149 rfl hM.1 rfl rfl (by decide) (by decide) (Nat.le_of_ble_eq_true rfl) (by decide) (by decide) rfl (m_M_learn hM hR hX hD3 hn hz hP (p := 2 * k) (by omega)) (fun X w1 h => by cases h.1) (fun v w hq9 => ?_)
      obtain ⟨hv, A, hM, hP9, hO9⟩ := hq9
      cases hv
      have hO := hO.tr hO9 (fun _ h => h) (fun _ h => h)
      refine kx_stk (st1 := []) rfl ?_
      obtain ⟨hR, hP, hz⟩ := hP9
      refine kx_aload_n d_M_round_70 rfl (by first | rfl | exact kx_rf _) ?_
      refine kx_iconst (nI 2) d_M_round_71 (by decide) ?_
      refine kx_iload_n d_M_round_72 rfl ?_
      first | refine kx_imul _ d_M_round_73 (pk_mul _ _) ?_ | refine kx_imul _ d_M_round_73 rfl ?_
      refine kx_iconst (nI 1) d_M_round_74 (by decide) ?_
      first | refine kx_iadd _ d_M_round_75 (nI_add _ _) ?_ | refine kx_iadd _ d_M_round_75 rfl ?_
      refine kx_iload_n d_M_round_76 rfl ?_
      refine kx_callV (as := [.int (nI (2 * k + 1)), .int losses]) (rest := []) d_M_round_77 v_M_149 rfl hM.1 rfl rfl (by decide) (by decide) (Nat.le_of_ble_eq_true rfl) (by decide) (by decide) rfl (m_M_learn hM hR hX hD4 hn hz hP (p := 2 * k + 1) (by omega)) (fun X w1 h => by cases h.1) (fun v w hq9 => ?_)
      obtain ⟨hv, A, hM, hP9, hO9⟩ := hq9
      cases hv
      have hO := hO.tr hO9 (fun _ h => h) (fun _ h => h)
      refine kx_stk (st1 := []) rfl ?_
      obtain ⟨hR, hP, hz⟩ := hP9
      refine kx_iinc _ d_M_round_80 rfl (by decide) (nI_1 _) ?_
      refine kx_goto 49 d_M_round_83 (by decide) ?_
      refine kx_loc (L1 := [(0, .ref (ma 0)), (1, .int losses), (2, .int (nI (cnM X losses (2 * n)))), (3, .int (nI (k + 1)))]) ⟨rfl, rfl, rfl, rfl, trivial⟩ ?_
      exact ih (k + 1) w A (by omega) hM hO hR hP hz
def rdF (F : Nat → Int32) (k c : Nat) : Nat → Int32 := up1 (up1 F 8 (F 8 + nI k)) 9 (F 9 + nI (k * c))
theorem rdF_s (F : Nat → Int32) (k c : Nat) : up1 (up1 (rdF F k c) 8 (rdF F k c 8 + nI 1)) 9 (rdF F k c 9 + nI c) = rdF F (k + 1) c := by
  have e8 : rdF F k c 8 = F 8 + nI k := by unfold rdF; rw [up1_n (by decide), up1_s]
  have e9 : rdF F k c 9 = F 9 + nI (k * c) := by unfold rdF; rw [up1_s]
  rw [e8, e9, Int32.add_assoc, Int32.add_assoc, nI_add, nI_add, ← Nat.succ_mul]
  unfold rdF
  funext x
  by_cases h9 : x = 9
  · subst h9; rw [up1_s, up1_s]
  · rw [up1_n h9, up1_n h9]
    by_cases h8 : x = 8
    · subst h8; rw [up1_s, up1_s]
    · rw [up1_n h8, up1_n h8, up1_n h9, up1_n h8]
theorem rdF_0 (F : Nat → Int32) (c : Nat) : rdF F 0 c = F := by
  unfold rdF
  rw [Nat.zero_mul, show nI 0 = 0 from rfl, Int32.add_zero, Int32.add_zero, up1_self, up1_self]
theorem rdF_1 (F : Nat → Int32) (k c : Nat) : rdF F k c 1 = F 1 := by unfold rdF; rw [up1_n (by decide), up1_n (by decide)]
set_option maxRecDepth 20000 in
set_option maxHeartbeats 4000000 in
theorem m_M_round {E : kx_E} {w : va_W} {ma : Nat → Nat} {F : Nat → Int32} {A : Nat → Nat → Int32} (hM : Mdl E w ma F A) {n : Nat} {X : Fx} {D : Dy} (hR : ModR n X D A) (hX : WfX n X) (hD : WfD n D) (hn : F 1 = nI n) (hz : Bz A) (losses : Int32) : kx_S E Y_M_round [.ref (ma 0), .int losses] w (MP E w ma (up1 (up1 F 8 (F 8 + nI 1)) 9 (F 9 + nI (cnM X losses (2 * n)))) (fun A1 => ModR n X (rnd n X losses D) A1 ∧ Bz A1) (some (.int (nI (cnM X losses (2 * n)))))) := by
  refine kx_go (by decide) rfl rfl (Nat.le_of_ble_eq_true rfl) (kx_cc rfl (kx_cc rfl kx_c0)) (fun z => ?_)
  have hO : kx_off w w mdlN := kx_off.rf
  have h24 := hX.1
  obtain ⟨w0, hw0⟩ : ∃ w0, w0 = w := ⟨_, rfl⟩
  have hO : kx_off w0 w mdlN := by rw [hw0]; exact kx_off.rf
  refine kx_q9 (Q := MP E w0 ma (up1 (up1 F 8 (F 8 + nI 1)) 9 (F 9 + nI (cnM X losses (2 * n)))) (fun A1 => ModR n X (rnd n X losses D) A1 ∧ Bz A1) (some (.int (nI (cnM X losses (2 * n)))))) (by rw [hw0]) ?_
  clear hw0
  refine kx_iconst (nI 0) d_M_round_0 (by decide) ?_
  refine kx_istore_n d_M_round_1 (by decide) ?_
  refine kx_aload_n d_M_round_2 rfl (by first | rfl | exact kx_rf _) ?_
  refine kx_callV (as := []) (rest := []) d_M_round_3 v_M_139 rfl hM.1 rfl rfl (by decide) (by decide) (Nat.le_of_ble_eq_true rfl) (by decide) (by decide) rfl (m_M_copy hM hz) (fun X w1 h => by cases h.1) (fun v w hq9 => ?_)
  obtain ⟨hv, A1, hM, hP9, hO9⟩ := hq9
  cases hv
  have hO := hO.tr hO9 (fun _ h => h) (fun _ h => h)
  refine kx_stk (st1 := []) rfl ?_
  refine kx_iconst (nI 0) d_M_round_6 (by decide) ?_
  refine kx_istore_n d_M_round_7 (by decide) ?_
  refine kx_loc (L1 := [(0, .ref (ma 0)), (1, .int losses), (2, .int (nI (cnM X losses 0))), (3, .int (nI 0))]) ⟨rfl, rfl, rfl, rfl, trivial⟩ ?_
  have hP := hP9.old hR hX hD
  have hR1 : ModR n X D A1 := hR.cg (fun j hj => hP9.1 j (Or.inl hj))
  have hz1 : Bz A1 := fun i hi => by rw [hP9.1 7 (by decide)]; exact hz i hi
  refine l_M_round1 hX hD hn (fun w A2 hM hO hR hP hz => ?_) (2 * n) 0 w A1 rfl hM hO hR1 hP hz1
  refine kx_iconst (nI 0) d_M_round_47 (by decide) ?_
  refine kx_istore_n d_M_round_48 (by decide) ?_
  refine kx_loc (L1 := [(0, .ref (ma 0)), (1, .int losses), (2, .int (nI (cnM X losses (2 * n)))), (3, .int (nI 0))]) ⟨rfl, rfl, rfl, rfl, trivial⟩ ?_
  refine l_M_round2 hX (hD.lkR hD hX (2 * n) (Nat.le_refl _)) hn (fun w A3 hM hO hR hP hz => ?_) n 0 w A2 rfl hM hO hR hP hz
  refine kx_aload_n d_M_round_86 rfl (by first | rfl | exact kx_rf _) ?_
  refine kx_dup d_M_round_87 (by first | rfl | exact kx_rfc _) ?_
  refine kx_get _ d_M_round_88 f_M_152 hM.1 (by rfl) ?_
  refine kx_iconst (nI 1) d_M_round_91 (by decide) ?_
  refine kx_iadd _ d_M_round_92 rfl ?_
  refine mF_put8 d_M_round_93 f_M_152 hM hO (fun w hM hO => ?_)
  refine kx_aload_n d_M_round_96 rfl (by first | rfl | exact kx_rf _) ?_
  refine kx_aload_n d_M_round_97 rfl (by first | rfl | exact kx_rf _) ?_
  refine kx_get _ d_M_round_98 f_M_155 hM.1 (by rfl) ?_
  rw [up1_n (by decide)]
  refine kx_iload_n d_M_round_101 rfl ?_
  refine kx_iadd _ d_M_round_102 rfl ?_
  refine mF_put9 d_M_round_103 f_M_155 hM hO (fun w hM hO => ?_)
  refine kx_iload_n d_M_round_106 rfl ?_
  refine kx_iret d_M_round_107 rfl (by decide) (by decide) ?_
  exact ⟨rfl, A3, hM, ⟨hR, hz⟩, hO⟩
def rndR (n : Nat) (X : Fx) (losses : Int32) : Nat → Dy → Dy
  | 0, D => D
  | k + 1, D => rnd n X losses (rndR n X losses k D)
theorem WfD.rndR {n : Nat} {X : Fx} {losses : Int32} {D : Dy} (h : WfD n D) (hX : WfX n X) : ∀ k, WfD n (rndR n X losses k D)
  | 0 => h
  | k + 1 => (WfD.rndR h hX k).rnd hX
theorem d_M_rounds_0 : decode c_M_rounds 0 = .ok (.aload_n 0, 1) := by decide +kernel
theorem d_M_rounds_1 : decode c_M_rounds 1 = .ok (.iload_n 1, 1) := by decide +kernel
theorem d_M_rounds_2 : decode c_M_rounds 2 = .ok (.ifCond .lt 14, 3) := by decide +kernel
theorem d_M_rounds_5 : decode c_M_rounds 5 = .ok (.iload_n 1, 1) := by decide +kernel
theorem d_M_rounds_6 : decode c_M_rounds 6 = .ok (.sipush 200, 3) := by decide +kernel
theorem d_M_rounds_9 : decode c_M_rounds 9 = .ok (.if_icmp .gt 7, 3) := by decide +kernel
theorem d_M_rounds_12 : decode c_M_rounds 12 = .ok (.iconst 1, 1) := by decide +kernel
theorem d_M_rounds_13 : decode c_M_rounds 13 = .ok (.goto 4, 3) := by decide +kernel
theorem d_M_rounds_16 : decode c_M_rounds 16 = .ok (.iconst 0, 1) := by decide +kernel
theorem d_M_rounds_17 : decode c_M_rounds 17 = .ok (.iconst 1, 1) := by decide +kernel
theorem d_M_rounds_18 : decode c_M_rounds 18 = .ok (.iconst 1, 1) := by decide +kernel
theorem d_M_rounds_19 : decode c_M_rounds 19 = .ok (.invokevirtual 101, 3) := by decide +kernel
theorem d_M_rounds_22 : decode c_M_rounds 22 = .ok (.ifCond .ne 5, 3) := by decide +kernel
theorem d_M_rounds_25 : decode c_M_rounds 25 = .ok (.iconst 0, 1) := by decide +kernel
theorem d_M_rounds_26 : decode c_M_rounds 26 = .ok (.ireturn, 1) := by decide +kernel
theorem d_M_rounds_27 : decode c_M_rounds 27 = .ok (.iconst 0, 1) := by decide +kernel
theorem d_M_rounds_28 : decode c_M_rounds 28 = .ok (.istore_n 3, 1) := by decide +kernel
theorem d_M_rounds_29 : decode c_M_rounds 29 = .ok (.iconst 0, 1) := by decide +kernel
theorem d_M_rounds_30 : decode c_M_rounds 30 = .ok (.istore 4, 2) := by decide +kernel
theorem d_M_rounds_32 : decode c_M_rounds 32 = .ok (.iload 4, 2) := by decide +kernel
theorem d_M_rounds_34 : decode c_M_rounds 34 = .ok (.iload_n 1, 1) := by decide +kernel
theorem d_M_rounds_35 : decode c_M_rounds 35 = .ok (.if_icmp .ge 17, 3) := by decide +kernel
theorem d_M_rounds_38 : decode c_M_rounds 38 = .ok (.iload_n 3, 1) := by decide +kernel
theorem d_M_rounds_39 : decode c_M_rounds 39 = .ok (.aload_n 0, 1) := by decide +kernel
theorem d_M_rounds_40 : decode c_M_rounds 40 = .ok (.iload_n 2, 1) := by decide +kernel
theorem d_M_rounds_41 : decode c_M_rounds 41 = .ok (.invokevirtual 158, 3) := by decide +kernel
theorem d_M_rounds_44 : decode c_M_rounds 44 = .ok (.iadd, 1) := by decide +kernel
theorem d_M_rounds_45 : decode c_M_rounds 45 = .ok (.istore_n 3, 1) := by decide +kernel
theorem d_M_rounds_46 : decode c_M_rounds 46 = .ok (.iinc 4 1, 3) := by decide +kernel
theorem d_M_rounds_49 : decode c_M_rounds 49 = .ok (.goto (-17), 3) := by decide +kernel
theorem d_M_rounds_52 : decode c_M_rounds 52 = .ok (.iload_n 3, 1) := by decide +kernel
theorem d_M_rounds_53 : decode c_M_rounds 53 = .ok (.ireturn, 1) := by decide +kernel
set_option maxRecDepth 20000 in
set_option maxHeartbeats 4000000 in
theorem l_M_rounds {E : kx_E} {w0 : va_W} {ma : Nat → Nat} {F : Nat → Int32} {n : Nat} {X : Fx} {D : Dy} (hX : WfX n X) (hD : WfD n D) (hn : F 1 = nI n) {losses : Int32} {r : Nat} (hr : r ≤ 200) {z : kx_Z} {Q : kx_O → va_W → Prop} (hQ : ∀ w A, Mdl E w ma (rdF F r (cnM X losses (2 * n))) A → kx_off w0 w mdlN → ModR n X (rndR n X losses r D) A → Bz A → Q (.inl (some (.int (nI (r * cnM X losses (2 * n)))))) w) :
    ∀ (m k : Nat) (w : va_W) (A : Nat → Nat → Int32), m + k = r → Mdl E w ma (rdF F k (cnM X losses (2 * n))) A → kx_off w0 w mdlN → ModR n X (rndR n X losses k D) A → Bz A → kx_R E Y_M_rounds z 32 [(0, .ref (ma 0)), (1, .int (nI r)), (2, .int losses), (3, .int (nI (k * cnM X losses (2 * n)))), (4, .int (nI k))] [] w 0 0 Q := by
  have h24 := hX.1
  intro m
  induction m with
  | zero =>
    intro k w A hk hM hO hR hz
    have hk : k = r := by omega
    subst hk
    refine kx_iload d_M_rounds_32 rfl ?_
    refine kx_iload_n d_M_rounds_34 rfl ?_
    first | refine kx_icmp_ge_n 52 d_M_rounds_35 (by decide) (by omega) (by omega) ?_ ?_ | refine kx_icmp_ge 52 d_M_rounds_35 (by decide) ?_ ?_
    · intro h35
      refine kx_iload_n d_M_rounds_52 rfl ?_
      refine kx_iret d_M_rounds_53 rfl (by decide) (by decide) ?_
      exact hQ w A hM hO hR hz
    · intro h35
      exact absurd h35 (by omega)
  | succ m ih =>
    intro k w A hk hM hO hR hz
    have hD2 := hD.rndR (losses := losses) hX k
    have hn1 : rdF F k (cnM X losses (2 * n)) 1 = nI n := by rw [rdF_1]; exact hn
    refine kx_iload d_M_rounds_32 rfl ?_
    refine kx_iload_n d_M_rounds_34 rfl ?_
    first | refine kx_icmp_ge_n 52 d_M_rounds_35 (by decide) (by omega) (by omega) ?_ ?_ | refine kx_icmp_ge 52 d_M_rounds_35 (by decide) ?_ ?_
    · intro h35
      exact absurd h35 (by omega)
    · intro h35
      refine kx_iload_n d_M_rounds_38 rfl ?_
      refine kx_aload_n d_M_rounds_39 rfl (by first | rfl | exact kx_rf _) ?_
      refine kx_iload_n d_M_rounds_40 rfl ?_
      refine kx_callV (as := [.int losses]) (rest := [.int (nI (k * cnM X losses (2 * n)))]) d_M_rounds_41 v_M_158 rfl hM.1 rfl rfl (by decide) (by decide) (Nat.le_of_ble_eq_true rfl) (by decide) (by decide) rfl (m_M_round hM hR hX hD2 hn1 hz losses) (fun X w1 h => by cases h.1) (fun v w hq9 => ?_)
      obtain ⟨hv, A1, hM, hP9, hO9⟩ := hq9
      cases hv
      have hO := hO.tr hO9 (fun _ h => h) (fun _ h => h)
      refine kx_stk (st1 := [.int (nI (cnM X losses (2 * n))), .int (nI (k * cnM X losses (2 * n)))]) rfl ?_
      first | refine kx_iadd _ d_M_rounds_44 (nI_add _ _) ?_ | refine kx_iadd _ d_M_rounds_44 rfl ?_
      refine kx_istore_n d_M_rounds_45 (by decide) ?_
      refine kx_iinc _ d_M_rounds_46 rfl (by decide) (nI_1 _) ?_
      refine kx_goto 32 d_M_rounds_49 (by decide) ?_
      refine kx_loc (L1 := [(0, .ref (ma 0)), (1, .int (nI r)), (2, .int losses), (3, .int (nI ((k + 1) * cnM X losses (2 * n)))), (4, .int (nI (k + 1)))]) ⟨rfl, rfl, rfl, by rw [show (k + 1) * cnM X losses (2 * n) = k * cnM X losses (2 * n) + cnM X losses (2 * n) from Nat.succ_mul _ _]; rfl, rfl, trivial⟩ ?_
      rw [rdF_s] at hM
      exact ih (k + 1) w A1 (by omega) hM hO hP9.1 hP9.2
set_option maxRecDepth 20000 in
set_option maxHeartbeats 4000000 in
theorem m_M_rounds {E : kx_E} {w : va_W} {ma : Nat → Nat} {F : Nat → Int32} {A : Nat → Nat → Int32} (hM : Mdl E w ma F A) {n : Nat} {X : Fx} {D : Dy} (hR : ModR n X D A) (hX : WfX n X) (hD : WfD n D) (hn : F 1 = nI n) (hz : Bz A) {r : Nat} (hr : r ≤ 200) (losses : Int32) : kx_S E Y_M_rounds [.ref (ma 0), .int (nI r), .int losses] w (MP E w ma (rdF (up1 F 0 (nI 0)) r (cnM X losses (2 * n))) (fun A1 => ModR n X (rndR n X losses r D) A1 ∧ Bz A1) (some (.int (nI (r * cnM X losses (2 * n)))))) := by
  refine kx_go (by decide) rfl rfl (Nat.le_of_ble_eq_true rfl) (kx_cc rfl (kx_cc rfl (kx_cc rfl kx_c0))) (fun z => ?_)
  have hO : kx_off w w mdlN := kx_off.rf
  refine kx_aload_n d_M_rounds_0 rfl (by first | rfl | exact kx_rf _) ?_
  refine kx_iload_n d_M_rounds_1 rfl ?_
  refine kx_if_lt_n 16 d_M_rounds_2 (by decide) (by omega) ?_
  refine kx_iload_n d_M_rounds_5 rfl ?_
  refine kx_sipush (nI 200) d_M_rounds_6 (by decide) ?_
  first | refine kx_icmp_gt_n 16 d_M_rounds_9 (by decide) (by omega) (by omega) ?_ ?_ | refine kx_icmp_gt 16 d_M_rounds_9 (by decide) ?_ ?_
  · intro h9
    exact absurd h9 (by omega)
  · intro h9
    refine kx_iconst (nI 1) d_M_rounds_12 (by decide) ?_
    refine kx_goto 17 d_M_rounds_13 (by decide) ?_
    refine kx_iconst (nI 1) d_M_rounds_17 (by decide) ?_
    refine kx_iconst (nI 1) d_M_rounds_18 (by decide) ?_
    refine kx_callV (as := [.int (nI 1), .int (nI 1), .int (nI 1)]) (rest := []) d_M_rounds_19 v_M_101 rfl hM.1 rfl rfl (by decide) (by decide) (Nat.le_of_ble_eq_true rfl) (by decide) (by decide) rfl (m_M_goes hM (a := 1) (b := 1) (c := 1) (by decide) (by decide) (by decide)) (fun X w1 h => by cases h.1) (fun v w hq9 => ?_)
    obtain ⟨hv, hM, hO9⟩ := hq9
    cases hv
    have hO := hO.tr hO9 (fun _ h => h) (fun _ h => h)
    refine kx_stk (st1 := [.int (nI 1)]) rfl ?_
    refine kx_if_ne_n 27 d_M_rounds_22 (by decide) (by decide) (fun _ => ?_) (fun h => absurd h (by decide))
    refine kx_iconst (nI 0) d_M_rounds_27 (by decide) ?_
    refine kx_istore_n d_M_rounds_28 (by decide) ?_
    refine kx_iconst (nI 0) d_M_rounds_29 (by decide) ?_
    refine kx_istore d_M_rounds_30 (by decide) ?_
    refine kx_loc (L1 := [(0, .ref (ma 0)), (1, .int (nI r)), (2, .int losses), (3, .int (nI (0 * cnM X losses (2 * n)))), (4, .int (nI 0))]) ⟨rfl, rfl, rfl, by rw [Nat.zero_mul]; rfl, rfl, trivial⟩ ?_
    exact l_M_rounds (F := up1 F 0 (nI 0)) hX hD (by rw [up1_n (by decide)]; exact hn) hr (fun w A1 hM hO hR hz => ⟨rfl, A1, hM, ⟨hR, hz⟩, hO⟩) r 0 w A rfl (by rw [rdF_0]; exact hM) hO hR hz
set_option maxRecDepth 20000 in
set_option maxHeartbeats 4000000 in
theorem m_M_rounds_no {E : kx_E} {w : va_W} {ma : Nat → Nat} {F : Nat → Int32} {A : Nat → Nat → Int32} (hM : Mdl E w ma F A) {v losses : Int32} (hv : v < 0 ∨ nI 200 < v) : kx_S E Y_M_rounds [.ref (ma 0), .int v, .int losses] w (fun o w1 => o = .inl (some (.int (nI 0))) ∧ Mdl E w1 ma (up1 F 0 (nI 1)) A ∧ kx_off w w1 mdlN) := by
  refine kx_go (by decide) rfl rfl (Nat.le_of_ble_eq_true rfl) (kx_cc rfl (kx_cc rfl (kx_cc rfl kx_c0))) (fun z => ?_)
  have hO : kx_off w w mdlN := kx_off.rf
  refine kx_aload_n d_M_rounds_0 rfl (by first | rfl | exact kx_rf _) ?_
  refine kx_iload_n d_M_rounds_1 rfl ?_
  refine kx_if_lt 16 d_M_rounds_2 (by decide) ?_ ?_
  · intro h2
    refine kx_iconst (nI 0) d_M_rounds_16 (by decide) ?_
    refine kx_iconst (nI 1) d_M_rounds_17 (by decide) ?_
    refine kx_iconst (nI 1) d_M_rounds_18 (by decide) ?_
    refine kx_callV (as := [.int (nI 0), .int (nI 1), .int (nI 1)]) (rest := []) d_M_rounds_19 v_M_101 rfl hM.1 rfl rfl (by decide) (by decide) (Nat.le_of_ble_eq_true rfl) (by decide) (by decide) rfl (m_M_goes hM (a := 0) (b := 1) (c := 1) (by decide) (by decide) (by decide)) (fun X w1 h => by cases h.1) (fun v w hq9 => ?_)
    obtain ⟨hv, hM, hO9⟩ := hq9
    cases hv
    have hO := hO.tr hO9 (fun _ h => h) (fun _ h => h)
    refine kx_stk (st1 := [.int (nI 0)]) rfl ?_
    refine kx_if_ne_n 27 d_M_rounds_22 (by decide) (by decide) (fun h => absurd rfl h) (fun _ => ?_)
    refine kx_iconst (nI 0) d_M_rounds_25 (by decide) ?_
    refine kx_iret d_M_rounds_26 rfl (by decide) (by decide) ?_
    exact ⟨rfl, hM, hO⟩
  · intro h2
    refine kx_iload_n d_M_rounds_5 rfl ?_
    refine kx_sipush (nI 200) d_M_rounds_6 (by decide) ?_
    refine kx_icmp_gt 16 d_M_rounds_9 (by decide) ?_ ?_
    · intro h9
      refine kx_iconst (nI 0) d_M_rounds_16 (by decide) ?_
      refine kx_iconst (nI 1) d_M_rounds_17 (by decide) ?_
      refine kx_iconst (nI 1) d_M_rounds_18 (by decide) ?_
      refine kx_callV (as := [.int (nI 0), .int (nI 1), .int (nI 1)]) (rest := []) d_M_rounds_19 v_M_101 rfl hM.1 rfl rfl (by decide) (by decide) (Nat.le_of_ble_eq_true rfl) (by decide) (by decide) rfl (m_M_goes hM (a := 0) (b := 1) (c := 1) (by decide) (by decide) (by decide)) (fun X w1 h => by cases h.1) (fun v w hq9 => ?_)
      obtain ⟨hv, hM, hO9⟩ := hq9
      cases hv
      have hO := hO.tr hO9 (fun _ h => h) (fun _ h => h)
      refine kx_stk (st1 := [.int (nI 0)]) rfl ?_
      refine kx_if_ne_n 27 d_M_rounds_22 (by decide) (by decide) (fun h => absurd rfl h) (fun _ => ?_)
      refine kx_iconst (nI 0) d_M_rounds_25 (by decide) ?_
      refine kx_iret d_M_rounds_26 rfl (by decide) (by decide) ?_
      exact ⟨rfl, hM, hO⟩
    · intro h9
      exact absurd hv (by rintro (h | h); exact h2 h; exact h9 h)
