/-! ConsistBus: the true run, a round -/
theorem outE_N {n : Nat} {pe : Nat → Option Nat} (hp : peOk n pe) : ∀ (k e : Nat), endN n e → endN n (outE pe k e)
  | 0, e, h => h
  | k + 1, e, h => by
    unfold outE
    cases hq : pe e with
    | none => exact h
    | some q => exact outE_N hp k _ (oppN (hp e q h hq))
def runL (pe : Nat → Option Nat) (S : Nat → Nat → Int32) : Nat → Option Nat → List Nat
  | 0, _ => []
  | _ + 1, none => []
  | m + 1, some x => clN (S x 0) :: runL pe S m (pe (opp x))
def truX (pe : Nat → Option Nat) (S : Nat → Nat → Int32) (c : Nat) : Nat := if clN (S (outE pe 24 (carE c 0)) 0) / 2 ≤ clN (S (outE pe 24 (carE c 1)) 0) / 2 then outE pe 24 (carE c 0) else outE pe 24 (carE c 1)
def truL (pe : Nat → Option Nat) (S : Nat → Nat → Int32) (c : Nat) : List Nat := runL pe S 24 (some (truX pe S c))
theorem rowN_4 (n : Nat) : rowN n 4 := Or.inl rfl
theorem truX_N {n : Nat} {pe : Nat → Option Nat} {S : Nat → Nat → Int32} {c : Nat} (hp : peOk n pe) (hc : c < n) : endN n (truX pe S c) := by
  unfold truX
  split <;> exact outE_N hp _ _ (carE_N hc)
theorem runL_len (pe : Nat → Option Nat) (S : Nat → Nat → Int32) : ∀ (m : Nat) (o : Option Nat), (runL pe S m o).length ≤ m
  | 0, _ => Nat.le_refl _
  | _ + 1, none => Nat.zero_le _
  | m + 1, some x => Nat.succ_le_succ (runL_len pe S m _)
theorem d_B_trueRun_0 : decode c_B_trueRun 0 = .ok (.aload_n 1, 1) := by decide +kernel
theorem d_B_trueRun_1 : decode c_B_trueRun 1 = .ok (.getfield 165, 3) := by decide +kernel
theorem d_B_trueRun_4 : decode c_B_trueRun 4 = .ok (.iconst 0, 1) := by decide +kernel
theorem d_B_trueRun_5 : decode c_B_trueRun 5 = .ok (.aaload, 1) := by decide +kernel
theorem d_B_trueRun_6 : decode c_B_trueRun 6 = .ok (.invokevirtual 169, 3) := by decide +kernel
theorem d_B_trueRun_9 : decode c_B_trueRun 9 = .ok (.astore_n 2, 1) := by decide +kernel
theorem d_B_trueRun_10 : decode c_B_trueRun 10 = .ok (.aload_n 1, 1) := by decide +kernel
theorem d_B_trueRun_11 : decode c_B_trueRun 11 = .ok (.getfield 165, 3) := by decide +kernel
theorem d_B_trueRun_14 : decode c_B_trueRun 14 = .ok (.iconst 1, 1) := by decide +kernel
theorem d_B_trueRun_15 : decode c_B_trueRun 15 = .ok (.aaload, 1) := by decide +kernel
theorem d_B_trueRun_16 : decode c_B_trueRun 16 = .ok (.invokevirtual 169, 3) := by decide +kernel
theorem d_B_trueRun_19 : decode c_B_trueRun 19 = .ok (.astore_n 3, 1) := by decide +kernel
theorem d_B_trueRun_20 : decode c_B_trueRun 20 = .ok (.aload_n 2, 1) := by decide +kernel
theorem d_B_trueRun_21 : decode c_B_trueRun 21 = .ok (.getfield 173, 3) := by decide +kernel
theorem d_B_trueRun_24 : decode c_B_trueRun 24 = .ok (.iconst 1, 1) := by decide +kernel
theorem d_B_trueRun_25 : decode c_B_trueRun 25 = .ok (.ishr, 1) := by decide +kernel
theorem d_B_trueRun_26 : decode c_B_trueRun 26 = .ok (.aload_n 3, 1) := by decide +kernel
theorem d_B_trueRun_27 : decode c_B_trueRun 27 = .ok (.getfield 173, 3) := by decide +kernel
theorem d_B_trueRun_30 : decode c_B_trueRun 30 = .ok (.iconst 1, 1) := by decide +kernel
theorem d_B_trueRun_31 : decode c_B_trueRun 31 = .ok (.ishr, 1) := by decide +kernel
theorem d_B_trueRun_32 : decode c_B_trueRun 32 = .ok (.if_icmp .gt 7, 3) := by decide +kernel
theorem d_B_trueRun_35 : decode c_B_trueRun 35 = .ok (.aload_n 2, 1) := by decide +kernel
theorem d_B_trueRun_36 : decode c_B_trueRun 36 = .ok (.goto 4, 3) := by decide +kernel
theorem d_B_trueRun_39 : decode c_B_trueRun 39 = .ok (.aload_n 3, 1) := by decide +kernel
theorem d_B_trueRun_40 : decode c_B_trueRun 40 = .ok (.astore 4, 2) := by decide +kernel
theorem d_B_trueRun_42 : decode c_B_trueRun 42 = .ok (.aload_n 0, 1) := by decide +kernel
theorem d_B_trueRun_43 : decode c_B_trueRun 43 = .ok (.getfield 25, 3) := by decide +kernel
theorem d_B_trueRun_46 : decode c_B_trueRun 46 = .ok (.invokevirtual 176, 3) := by decide +kernel
theorem d_B_trueRun_49 : decode c_B_trueRun 49 = .ok (.iconst 0, 1) := by decide +kernel
theorem d_B_trueRun_50 : decode c_B_trueRun 50 = .ok (.istore 5, 2) := by decide +kernel
theorem d_B_trueRun_52 : decode c_B_trueRun 52 = .ok (.iload 5, 2) := by decide +kernel
theorem d_B_trueRun_54 : decode c_B_trueRun 54 = .ok (.bipush 24, 2) := by decide +kernel
theorem d_B_trueRun_56 : decode c_B_trueRun 56 = .ok (.if_icmp .ge 36, 3) := by decide +kernel
theorem d_B_trueRun_59 : decode c_B_trueRun 59 = .ok (.aload 4, 2) := by decide +kernel
theorem d_B_trueRun_61 : decode c_B_trueRun 61 = .ok (.ifnull 31, 3) := by decide +kernel
theorem d_B_trueRun_64 : decode c_B_trueRun 64 = .ok (.aload_n 0, 1) := by decide +kernel
theorem d_B_trueRun_65 : decode c_B_trueRun 65 = .ok (.getfield 25, 3) := by decide +kernel
theorem d_B_trueRun_68 : decode c_B_trueRun 68 = .ok (.aload 4, 2) := by decide +kernel
theorem d_B_trueRun_70 : decode c_B_trueRun 70 = .ok (.getfield 173, 3) := by decide +kernel
theorem d_B_trueRun_73 : decode c_B_trueRun 73 = .ok (.invokevirtual 179, 3) := by decide +kernel
theorem d_B_trueRun_76 : decode c_B_trueRun 76 = .ok (.aload 4, 2) := by decide +kernel
theorem d_B_trueRun_78 : decode c_B_trueRun 78 = .ok (.getfield 183, 3) := by decide +kernel
theorem d_B_trueRun_81 : decode c_B_trueRun 81 = .ok (.getfield 53, 3) := by decide +kernel
theorem d_B_trueRun_84 : decode c_B_trueRun 84 = .ok (.astore 4, 2) := by decide +kernel
theorem d_B_trueRun_86 : decode c_B_trueRun 86 = .ok (.iinc 5 1, 3) := by decide +kernel
theorem d_B_trueRun_89 : decode c_B_trueRun 89 = .ok (.goto (-37), 3) := by decide +kernel
theorem d_B_trueRun_92 : decode c_B_trueRun 92 = .ok (.aload_n 0, 1) := by decide +kernel
theorem d_B_trueRun_93 : decode c_B_trueRun 93 = .ok (.getfield 25, 3) := by decide +kernel
theorem d_B_trueRun_96 : decode c_B_trueRun 96 = .ok (.areturn, 1) := by decide +kernel
set_option maxRecDepth 20000 in
set_option maxHeartbeats 4000000 in
theorem l_B_trueRun {E : kx_E} {n : Nat} {ad : Nat → Nat} {w0 : va_W} {L : Nat → List Nat} {V S : Nat → Nat → Int32} {pe bi : Nat → Option Nat} (hp : peOk n pe) (hI : InvS n S) {t : List Nat} {z : kx_Z} {Q : kx_O → va_W → Prop} (hQ : ∀ w, Cls E w n ad (up1 L 4 t) V S pe bi → kx_off w0 w clsN → Q (.inl (some (.ref (ad 4)))) w) :
    ∀ (m k : Nat) (o : Option Nat) (l : List Nat) (w : va_W), m + k = 24 → (∀ x, o = some x → endN n x) → Cls E w n ad (up1 L 4 l) V S pe bi → kx_off w0 w clsN → l.length = k → l ++ runL pe S m o = t → kx_R E Y_B_trueRun z 52 [(0, .ref (ad 0)), (4, va_rf (o.map ad)), (5, .int (nI k))] [] w 0 0 Q := by
  intro m
  induction m with
  | zero =>
    intro k o l w hk ho hC hO hl ht
    have hr : l = t := by rw [← ht]; unfold runL; rw [List.append_nil]
    clear ho
    refine kx_iload d_B_trueRun_52 rfl ?_
    refine kx_bipush (nI 24) d_B_trueRun_54 (by decide) ?_
    first | refine kx_icmp_ge_n 92 d_B_trueRun_56 (by decide) (by omega) (by omega) ?_ ?_ | refine kx_icmp_ge 92 d_B_trueRun_56 (by decide) ?_ ?_
    · intro h56
      refine kx_aload_n d_B_trueRun_92 rfl rfl ?_
      refine kx_get _ d_B_trueRun_93 f_B_25 hC.bus (by rfl) ?_
      exact kx_aret d_B_trueRun_96 rfl rfl (by decide) (by decide) (hQ w (hr ▸ hC) hO)
    · intro h56
      exact absurd h56 (by omega)
  | succ m ih =>
    intro k o l w hk ho hC hO hl ht
    refine kx_iload d_B_trueRun_52 rfl ?_
    refine kx_bipush (nI 24) d_B_trueRun_54 (by decide) ?_
    first | refine kx_icmp_ge_n 92 d_B_trueRun_56 (by decide) (by omega) (by omega) ?_ ?_ | refine kx_icmp_ge 92 d_B_trueRun_56 (by decide) ?_ ?_
    · intro h56
      first
        | exact absurd h56 (by omega)
        | (have hn : o = none := by cases o with | none => rfl | some x => cases h61
           subst hn
           have hr : l = t := by rw [← ht]; unfold runL; rw [List.append_nil]
           refine kx_aload_n d_B_trueRun_92 rfl rfl ?_
           refine kx_get _ d_B_trueRun_93 f_B_25 hC.bus (by rfl) ?_
           exact kx_aret d_B_trueRun_96 rfl rfl (by decide) (by decide) (hQ w (hr ▸ hC) hO))
    · intro h56
      refine kx_aload d_B_trueRun_59 rfl (by first | rfl | exact kx_rf _) ?_
      refine kx_ifnull (o := o.map ad) 92 d_B_trueRun_61 (by decide) ?_ ?_
      · intro h61
        first
          | exact absurd h56 (by omega)
          | (have hn : o = none := by cases o with | none => rfl | some x => cases h61
             subst hn
             have hr : l = t := by rw [← ht]; unfold runL; rw [List.append_nil]
             refine kx_aload_n d_B_trueRun_92 rfl rfl ?_
             refine kx_get _ d_B_trueRun_93 f_B_25 hC.bus (by rfl) ?_
             exact kx_aret d_B_trueRun_96 rfl rfl (by decide) (by decide) (hQ w (hr ▸ hC) hO))
      · intro a61 h61
        obtain ⟨x, rfl⟩ : ∃ x, o = some x := by
          cases o with
          | none => cases h61
          | some x => exact ⟨x, rfl⟩
        have hx := ho x rfl
        clear ho
        obtain ⟨i, h512, hi⟩ := hI.item hx
        refine kx_aload_n d_B_trueRun_64 rfl (by first | rfl | exact kx_rf _) ?_
        refine kx_get _ d_B_trueRun_65 f_B_25 hC.bus (by rfl) ?_
        refine kx_aload d_B_trueRun_68 rfl (kx_rf _) ?_
        refine kx_stk (st1 := [.ref (ad x), .ref (ad 4)]) rfl ?_
        refine kx_get _ d_B_trueRun_70 f_B_173 (hC.endAt hx) (by rfl) ?_
        rw [hi]
        refine cR_append d_B_trueRun_73 v_B_179 hC hO (rowN_4 n) h512 (by decide) (Nat.le_of_ble_eq_true rfl) (by decide) (by decide) (fun w hC hO => ?_)
        rw [up1_s, if_pos (by omega), up1_up1] at hC
        refine kx_aload d_B_trueRun_76 rfl (kx_rf _) ?_
        refine kx_stk (st1 := [.ref (ad x)]) rfl ?_
        refine kx_get _ d_B_trueRun_78 f_B_183 (hC.endAt hx) (by rfl) ?_
        refine kx_get _ d_B_trueRun_81 f_B_53 (hC.endAt (oppN hx)) (by rfl) ?_
        refine kx_astore d_B_trueRun_84 (by decide) (by first | rfl | exact kx_rf _) ?_
        refine kx_iinc _ d_B_trueRun_86 rfl (by decide) (nI_1 _) ?_
        refine kx_goto 52 d_B_trueRun_89 (by decide) ?_
        refine kx_loc (L1 := [(0, .ref (ad 0)), (4, va_rf ((pe (opp x)).map ad)), (5, .int (nI (k + 1)))]) ⟨rfl, rfl, rfl, trivial⟩ ?_
        exact ih (k + 1) (pe (opp x)) _ w (by omega) (fun y hy => hp _ y (oppN hx) hy) hC hO (by rw [List.length_append, hl]; rfl) (by rw [← ht, List.append_assoc]; congr 1; conv => rhs; unfold runL
                                                                                                                                       rw [hi, clN_nI (by omega)]; rfl)
set_option maxRecDepth 20000 in
set_option maxHeartbeats 4000000 in
theorem m_B_trueRun {E : kx_E} {w : va_W} {n : Nat} {ad : Nat → Nat} {L : Nat → List Nat} {V S : Nat → Nat → Int32} {pe bi : Nat → Option Nat} (hC : Cls E w n ad L V S pe bi) (hp : peOk n pe) (hI : InvS n S) {c : Nat} (hc : c < n) : kx_S E Y_B_trueRun [.ref (ad 0), .ref (ad (carB c))] w (CQ E w n ad (up1 L 4 (truL pe S c)) V S pe bi (some (.ref (ad 4)))) := by
  refine kx_go (by decide) rfl rfl (Nat.le_of_ble_eq_true rfl) (kx_cc rfl (kx_cc rfl kx_c0)) (fun z => ?_)
  have hO : kx_off w w clsN := kx_off.rf
  have e0 : endN n (outE pe 24 (carE c 0)) := outE_N hp _ _ (carE_N hc)
  have e1 : endN n (outE pe 24 (carE c 1)) := outE_N hp _ _ (carE_N hc)
  obtain ⟨i0, h50, hi0⟩ := hI.item e0
  obtain ⟨i1, h51, hi1⟩ := hI.item e1
  refine kx_aload_n d_B_trueRun_0 rfl (by first | rfl | exact kx_rf _) ?_
  refine kx_get _ d_B_trueRun_1 f_B_165 (hC.car c hc) (by rfl) ?_
  refine kx_iconst (nI 0) d_B_trueRun_4 (by decide) ?_
  refine cA_end d_B_trueRun_5 hC hc (by decide) ?_
  refine kx_callV (as := []) (rest := []) d_B_trueRun_6 v_B_169 rfl (hC.endAt (carE_N hc)) rfl rfl (by decide) (by decide) (by decide) (by decide) (by decide) rfl (m_N_outermost hC hp (carE_N (i := 0) hc)) (fun X w1 h => by cases h.1) (fun v w1 hq9 => ?_)
  obtain ⟨hv, hw9⟩ := hq9
  cases hv
  subst hw9
  refine kx_stk (st1 := [.ref (ad (outE pe 24 (carE c 0)))]) rfl ?_
  refine kx_astore_n d_B_trueRun_9 (by decide) (by first | rfl | exact kx_rf _) ?_
  refine kx_aload_n d_B_trueRun_10 rfl (by first | rfl | exact kx_rf _) ?_
  refine kx_get _ d_B_trueRun_11 f_B_165 (hC.car c hc) (by rfl) ?_
  refine kx_iconst (nI 1) d_B_trueRun_14 (by decide) ?_
  refine cA_end d_B_trueRun_15 hC hc (by decide) ?_
  refine kx_callV (as := []) (rest := []) d_B_trueRun_16 v_B_169 rfl (hC.endAt (carE_N hc)) rfl rfl (by decide) (by decide) (by decide) (by decide) (by decide) rfl (m_N_outermost hC hp (carE_N (i := 1) hc)) (fun X w1 h => by cases h.1) (fun v w1 hq9 => ?_)
  obtain ⟨hv, hw9⟩ := hq9
  cases hv
  subst hw9
  refine kx_stk (st1 := [.ref (ad (outE pe 24 (carE c 1)))]) rfl ?_
  refine kx_astore_n d_B_trueRun_19 (by decide) (by first | rfl | exact kx_rf _) ?_
  refine kx_aload_n d_B_trueRun_20 rfl (by first | rfl | exact kx_rf _) ?_
  refine kx_get _ d_B_trueRun_21 f_B_173 (hC.endAt e0) (by rfl) ?_
  rw [hi0]
  refine kx_iconst (nI 1) d_B_trueRun_24 (by decide) ?_
  first | refine kx_ishr _ d_B_trueRun_25 (kx_shr1 (by omega)) ?_ | refine kx_ishr _ d_B_trueRun_25 rfl ?_
  refine kx_aload_n d_B_trueRun_26 rfl (by first | rfl | exact kx_rf _) ?_
  refine kx_get _ d_B_trueRun_27 f_B_173 (hC.endAt e1) (by rfl) ?_
  rw [hi1]
  refine kx_iconst (nI 1) d_B_trueRun_30 (by decide) ?_
  first | refine kx_ishr _ d_B_trueRun_31 (kx_shr1 (by omega)) ?_ | refine kx_ishr _ d_B_trueRun_31 rfl ?_
  first | refine kx_icmp_gt_n 39 d_B_trueRun_32 (by decide) (by omega) (by omega) ?_ ?_ | refine kx_icmp_gt 39 d_B_trueRun_32 (by decide) ?_ ?_
  · intro h32
    obtain ⟨x9, he9, hx9⟩ : ∃ x9, (if i0 / 2 ≤ i1 / 2 then outE pe 24 (carE c 0) else outE pe 24 (carE c 1)) = x9 ∧ endN n x9 := ⟨_, if_neg (by omega), e1⟩
    refine kx_aload_n d_B_trueRun_39 rfl rfl ?_
    refine kx_stk (st1 := [.ref (ad x9)]) (by rw [← he9, if_neg (by omega)]) ?_
    refine kx_astore d_B_trueRun_40 (by decide) (by first | rfl | exact kx_rf _) ?_
    refine kx_aload_n d_B_trueRun_42 rfl (by first | rfl | exact kx_rf _) ?_
    refine kx_get _ d_B_trueRun_43 f_B_25 hC.bus (by rfl) ?_
    refine cR_clear d_B_trueRun_46 v_B_176 hC hO (rowN_4 n) (by decide) (Nat.le_of_ble_eq_true rfl) (by decide) (by decide) (fun w hC hO => ?_)
    refine kx_iconst (nI 0) d_B_trueRun_49 (by decide) ?_
    refine kx_istore d_B_trueRun_50 (by decide) ?_
    refine kx_loc (L1 := [(0, .ref (ad 0)), (4, va_rf ((some x9).map ad)), (5, .int (nI 0))]) ⟨rfl, rfl, rfl, trivial⟩ ?_
    exact l_B_trueRun (t := truL pe S c) hp hI (fun w h1 h2 => ⟨rfl, h1, h2⟩) 24 0 (some x9) _ w rfl (fun x hx => by cases hx; exact hx9) hC hO rfl (by unfold truL truX; rw [hi0, hi1, clN_nI (by omega), clN_nI (by omega), he9]; rfl)
  · intro h32
    obtain ⟨x9, he9, hx9⟩ : ∃ x9, (if i0 / 2 ≤ i1 / 2 then outE pe 24 (carE c 0) else outE pe 24 (carE c 1)) = x9 ∧ endN n x9 := ⟨_, if_pos (by omega), e0⟩
    refine kx_aload_n d_B_trueRun_35 rfl rfl ?_
    refine kx_stk (st1 := [.ref (ad x9)]) (by rw [← he9, if_pos (by omega)]) ?_
    refine kx_goto 40 d_B_trueRun_36 (by decide) ?_
    refine kx_astore d_B_trueRun_40 (by decide) (by first | rfl | exact kx_rf _) ?_
    refine kx_aload_n d_B_trueRun_42 rfl (by first | rfl | exact kx_rf _) ?_
    refine kx_get _ d_B_trueRun_43 f_B_25 hC.bus (by rfl) ?_
    refine cR_clear d_B_trueRun_46 v_B_176 hC hO (rowN_4 n) (by decide) (Nat.le_of_ble_eq_true rfl) (by decide) (by decide) (fun w hC hO => ?_)
    refine kx_iconst (nI 0) d_B_trueRun_49 (by decide) ?_
    refine kx_istore d_B_trueRun_50 (by decide) ?_
    refine kx_loc (L1 := [(0, .ref (ad 0)), (4, va_rf ((some x9).map ad)), (5, .int (nI 0))]) ⟨rfl, rfl, rfl, trivial⟩ ?_
    exact l_B_trueRun (t := truL pe S c) hp hI (fun w h1 h2 => ⟨rfl, h1, h2⟩) 24 0 (some x9) _ w rfl (fun x hx => by cases hx; exact hx9) hC hO rfl (by unfold truL truX; rw [hi0, hi1, clN_nI (by omega), clN_nI (by omega), he9]; rfl)
