/-! End's methods -/
theorem Cls.cgL {E : kx_E} {w : va_W} {n : Nat} {ad : Nat → Nat} {L L1 : Nat → List Nat} {V S : Nat → Nat → Int32} {pe bi : Nat → Option Nat} (h : Cls E w n ad L V S pe bi) (e : L = L1) : Cls E w n ad L1 V S pe bi := e ▸ h
def CQ (E : kx_E) (w0 : va_W) (n : Nat) (ad : Nat → Nat) (L : Nat → List Nat) (V S : Nat → Nat → Int32) (pe bi : Nat → Option Nat) (r : Option Value) : kx_O → va_W → Prop := fun o w1 => o = .inl r ∧ Cls E w1 n ad L V S pe bi ∧ kx_off w0 w1 clsN
def peOk (n : Nat) (pe : Nat → Option Nat) : Prop := ∀ e q, endN n e → pe e = some q → endN n q
def lostI (losses num : Int32) : Bool := decide (¬ (losses >>> (num &&& 31) &&& nI 1) = 0)
theorem rowN_e1 {n e : Nat} (he : endN n e) : rowN n (e + 1) := by unfold endN at he; unfold rowN; omega
theorem rowN_e3 {n e : Nat} (he : endN n e) : rowN n (e + 3) := by unfold endN at he; unfold rowN; omega
theorem rowN_e6 {n e : Nat} (he : endN n e) : rowN n (e + 5 + 1) := by unfold endN at he; unfold rowN; omega
theorem rowN_e8 {n e : Nat} (he : endN n e) : rowN n (e + 5 + 3) := by unfold endN at he; unfold rowN; omega
theorem d_N_join_0 : decode c_N_join 0 = .ok (.aload_n 0, 1) := by decide +kernel
theorem d_N_join_1 : decode c_N_join 1 = .ok (.aload_n 1, 1) := by decide +kernel
theorem d_N_join_2 : decode c_N_join 2 = .ok (.putfield 35, 3) := by decide +kernel
theorem d_N_join_5 : decode c_N_join 5 = .ok (.aload_n 0, 1) := by decide +kernel
theorem d_N_join_6 : decode c_N_join 6 = .ok (.iload_n 2, 1) := by decide +kernel
theorem d_N_join_7 : decode c_N_join 7 = .ok (.putfield 32, 3) := by decide +kernel
theorem d_N_join_10 : decode c_N_join 10 = .ok (.return_, 1) := by decide +kernel
set_option maxHeartbeats 2000000 in
theorem m_N_join {E : kx_E} {w : va_W} {n : Nat} {ad : Nat → Nat} {L : Nat → List Nat} {V S : Nat → Nat → Int32} {pe bi : Nat → Option Nat} (hC : Cls E w n ad L V S pe bi) {e q k : Nat} (he : endN n e) : kx_S E Y_N_join [.ref (ad e), .ref (ad q), .int (nI k)] w (CQ E w n ad L V (up2 S e 6 (nI k)) (up1 pe e (some q)) bi none) := by
  refine kx_go (by decide) rfl rfl (Nat.le_of_ble_eq_true rfl) (kx_cc rfl (kx_cc rfl (kx_cc rfl kx_c0))) (fun z => ?_)
  have hO : kx_off w w clsN := kx_off.rf
  refine kx_aload_n d_N_join_0 rfl (by first | rfl | exact kx_rf _) ?_
  refine kx_aload_n d_N_join_1 rfl (by first | rfl | exact kx_rf _) ?_
  refine cN_join d_N_join_2 f_N_35 hC hO he (fun w hC hO => ?_)
  refine kx_aload_n d_N_join_5 rfl (by first | rfl | exact kx_rf _) ?_
  refine kx_iload_n d_N_join_6 rfl ?_
  refine cN_put6 d_N_join_7 f_N_32 (p_N_6 _) hC hO he (fun w hC hO => ?_)
  refine kx_vret d_N_join_10 rfl (by decide) (by decide) ?_
  exact ⟨rfl, hC, hO⟩
theorem d_N_part_0 : decode c_N_part 0 = .ok (.aload_n 0, 1) := by decide +kernel
theorem d_N_part_1 : decode c_N_part 1 = .ok (.aconst_null, 1) := by decide +kernel
theorem d_N_part_2 : decode c_N_part 2 = .ok (.putfield 35, 3) := by decide +kernel
theorem d_N_part_5 : decode c_N_part 5 = .ok (.aload_n 0, 1) := by decide +kernel
theorem d_N_part_6 : decode c_N_part 6 = .ok (.iconst (-1), 1) := by decide +kernel
theorem d_N_part_7 : decode c_N_part 7 = .ok (.putfield 32, 3) := by decide +kernel
theorem d_N_part_10 : decode c_N_part 10 = .ok (.return_, 1) := by decide +kernel
set_option maxHeartbeats 2000000 in
theorem m_N_part {E : kx_E} {w : va_W} {n : Nat} {ad : Nat → Nat} {L : Nat → List Nat} {V S : Nat → Nat → Int32} {pe bi : Nat → Option Nat} (hC : Cls E w n ad L V S pe bi) {e : Nat} (he : endN n e) : kx_S E Y_N_part [.ref (ad e)] w (CQ E w n ad L V (up2 S e 6 (-1)) (up1 pe e none) bi none) := by
  refine kx_go (by decide) rfl rfl (Nat.le_of_ble_eq_true rfl) (kx_cc rfl kx_c0) (fun z => ?_)
  have hO : kx_off w w clsN := kx_off.rf
  refine kx_aload_n d_N_part_0 rfl (by first | rfl | exact kx_rf _) ?_
  refine kx_null d_N_part_1 ?_
  refine cN_part d_N_part_2 f_N_35 hC hO he (fun w hC hO => ?_)
  refine kx_aload_n d_N_part_5 rfl (by first | rfl | exact kx_rf _) ?_
  refine kx_iconst (-1) d_N_part_6 (by decide) ?_
  refine cN_put6 d_N_part_7 f_N_32 (p_N_6 _) hC hO he (fun w hC hO => ?_)
  refine kx_vret d_N_part_10 rfl (by decide) (by decide) ?_
  exact ⟨rfl, hC, hO⟩
theorem d_N_forget_0 : decode c_N_forget 0 = .ok (.aload_n 0, 1) := by decide +kernel
theorem d_N_forget_1 : decode c_N_forget 1 = .ok (.getfield 18, 3) := by decide +kernel
theorem d_N_forget_4 : decode c_N_forget 4 = .ok (.invokevirtual 39, 3) := by decide +kernel
theorem d_N_forget_7 : decode c_N_forget 7 = .ok (.aload_n 0, 1) := by decide +kernel
theorem d_N_forget_8 : decode c_N_forget 8 = .ok (.getfield 22, 3) := by decide +kernel
theorem d_N_forget_11 : decode c_N_forget 11 = .ok (.invokevirtual 39, 3) := by decide +kernel
theorem d_N_forget_14 : decode c_N_forget 14 = .ok (.aload_n 0, 1) := by decide +kernel
theorem d_N_forget_15 : decode c_N_forget 15 = .ok (.iconst 0, 1) := by decide +kernel
theorem d_N_forget_16 : decode c_N_forget 16 = .ok (.putfield 42, 3) := by decide +kernel
theorem d_N_forget_19 : decode c_N_forget 19 = .ok (.aload_n 0, 1) := by decide +kernel
theorem d_N_forget_20 : decode c_N_forget 20 = .ok (.iconst 0, 1) := by decide +kernel
theorem d_N_forget_21 : decode c_N_forget 21 = .ok (.putfield 46, 3) := by decide +kernel
theorem d_N_forget_24 : decode c_N_forget 24 = .ok (.return_, 1) := by decide +kernel
set_option maxHeartbeats 2000000 in
theorem m_N_forget {E : kx_E} {w : va_W} {n : Nat} {ad : Nat → Nat} {L : Nat → List Nat} {V S : Nat → Nat → Int32} {pe bi : Nat → Option Nat} (hC : Cls E w n ad L V S pe bi) {e : Nat} (he : endN n e) : kx_S E Y_N_forget [.ref (ad e)] w (CQ E w n ad (up1 (up1 L (e + 1) []) (e + 3) []) V (up2 (up2 S e 7 (nI 0)) e 8 (nI 0)) pe bi none) := by
  refine kx_go (by decide) rfl rfl (Nat.le_of_ble_eq_true rfl) (kx_cc rfl kx_c0) (fun z => ?_)
  have hO : kx_off w w clsN := kx_off.rf
  refine kx_aload_n d_N_forget_0 rfl (by first | rfl | exact kx_rf _) ?_
  refine kx_get _ d_N_forget_1 f_N_18 (hC.endAt he) (by rfl) ?_
  refine cR_clear d_N_forget_4 v_N_39 hC hO (rowN_e1 he) (by decide) (by decide) (by decide) (by decide) (fun w hC hO => ?_)
  refine kx_aload_n d_N_forget_7 rfl (by first | rfl | exact kx_rf _) ?_
  refine kx_get _ d_N_forget_8 f_N_22 (hC.endAt he) (by rfl) ?_
  refine cR_clear d_N_forget_11 v_N_39 hC hO (rowN_e3 he) (by decide) (by decide) (by decide) (by decide) (fun w hC hO => ?_)
  refine kx_aload_n d_N_forget_14 rfl (by first | rfl | exact kx_rf _) ?_
  refine kx_iconst (nI 0) d_N_forget_15 (by decide) ?_
  refine cN_put7 d_N_forget_16 f_N_42 p_N_7_0 hC hO he (fun w hC hO => ?_)
  refine kx_aload_n d_N_forget_19 rfl (by first | rfl | exact kx_rf _) ?_
  refine kx_iconst (nI 0) d_N_forget_20 (by decide) ?_
  refine cN_put8 d_N_forget_21 f_N_46 (p_N_8 _) hC hO he (fun w hC hO => ?_)
  refine kx_vret d_N_forget_24 rfl (by decide) (by decide) ?_
  exact ⟨rfl, hC, hO⟩
theorem d_N_outermost_0 : decode c_N_outermost 0 = .ok (.aload_n 0, 1) := by decide +kernel
theorem d_N_outermost_1 : decode c_N_outermost 1 = .ok (.astore_n 1, 1) := by decide +kernel
theorem d_N_outermost_2 : decode c_N_outermost 2 = .ok (.iconst 0, 1) := by decide +kernel
theorem d_N_outermost_3 : decode c_N_outermost 3 = .ok (.istore_n 2, 1) := by decide +kernel
theorem d_N_outermost_4 : decode c_N_outermost 4 = .ok (.iload_n 2, 1) := by decide +kernel
theorem d_N_outermost_5 : decode c_N_outermost 5 = .ok (.bipush 24, 2) := by decide +kernel
theorem d_N_outermost_7 : decode c_N_outermost 7 = .ok (.if_icmp .ge 24, 3) := by decide +kernel
theorem d_N_outermost_10 : decode c_N_outermost 10 = .ok (.aload_n 1, 1) := by decide +kernel
theorem d_N_outermost_11 : decode c_N_outermost 11 = .ok (.getfield 35, 3) := by decide +kernel
theorem d_N_outermost_14 : decode c_N_outermost 14 = .ok (.ifnull 17, 3) := by decide +kernel
theorem d_N_outermost_17 : decode c_N_outermost 17 = .ok (.aload_n 1, 1) := by decide +kernel
theorem d_N_outermost_18 : decode c_N_outermost 18 = .ok (.getfield 35, 3) := by decide +kernel
theorem d_N_outermost_21 : decode c_N_outermost 21 = .ok (.getfield 49, 3) := by decide +kernel
theorem d_N_outermost_24 : decode c_N_outermost 24 = .ok (.astore_n 1, 1) := by decide +kernel
theorem d_N_outermost_25 : decode c_N_outermost 25 = .ok (.iinc 2 1, 3) := by decide +kernel
theorem d_N_outermost_28 : decode c_N_outermost 28 = .ok (.goto (-24), 3) := by decide +kernel
theorem d_N_outermost_31 : decode c_N_outermost 31 = .ok (.aload_n 1, 1) := by decide +kernel
theorem d_N_outermost_32 : decode c_N_outermost 32 = .ok (.areturn, 1) := by decide +kernel
/-- the end at which k steps outward stop -/
def outE (pe : Nat → Option Nat) : Nat → Nat → Nat
  | 0, e => e
  | k + 1, e => match pe e with
    | none => e
    | some q => outE pe k (opp q)
set_option maxHeartbeats 2000000 in
theorem l_N_outermost {E : kx_E} {w : va_W} {n : Nat} {ad : Nat → Nat} {L : Nat → List Nat} {V S : Nat → Nat → Int32} {pe bi : Nat → Option Nat} (hC : Cls E w n ad L V S pe bi) (hp : peOk n pe) {z : kx_Z} {Q : kx_O → va_W → Prop} {e0 : Nat} (hQ : Q (.inl (some (.ref (ad (outE pe 24 e0))))) w) : ∀ (m k e : Nat), m + k = 24 → endN n e → outE pe 24 e0 = outE pe m e → kx_R E Y_N_outermost z 4 [(1, .ref (ad e)), (2, .int (nI k))] [] w 0 0 Q := by
  intro m
  induction m with
  | zero =>
    intro k e hk he hr
    have hk : k = 24 := by omega
    subst hk
    refine kx_iload_n d_N_outermost_4 rfl ?_
    refine kx_bipush (nI 24) d_N_outermost_5 (by decide) ?_
    first | refine kx_icmp_ge_n 31 d_N_outermost_7 (by decide) (by omega) (by omega) ?_ ?_ | refine kx_icmp_ge 31 d_N_outermost_7 (by decide) ?_ ?_
    · intro h7
      refine kx_aload_n d_N_outermost_31 rfl (by first | rfl | exact kx_rf _) ?_
      refine kx_aret d_N_outermost_32 rfl (by first | rfl | exact kx_rf _) (by decide) (by decide) ?_
      rw [hr] at hQ
      exact hQ
    · intro h7
      exact absurd h7 (by omega)
  | succ m ih =>
    intro k e hk he hr
    refine kx_iload_n d_N_outermost_4 rfl ?_
    refine kx_bipush (nI 24) d_N_outermost_5 (by decide) ?_
    first | refine kx_icmp_ge_n 31 d_N_outermost_7 (by decide) (by omega) (by omega) ?_ ?_ | refine kx_icmp_ge 31 d_N_outermost_7 (by decide) ?_ ?_
    · intro h7
      first
        | exact absurd h7 (by omega)
        | (have hn : pe e = none := by
             cases hpe : pe e with
             | none => rfl
             | some q => rw [hpe] at h14; cases h14
           have hr2 : outE pe 24 e0 = e := by rw [hr]; unfold outE; rw [hn]
           rw [hr2] at hQ
           refine kx_aload_n d_N_outermost_31 rfl rfl ?_
           exact kx_aret d_N_outermost_32 rfl rfl (by decide) (by decide) hQ)
    · intro h7
      refine kx_aload_n d_N_outermost_10 rfl (by first | rfl | exact kx_rf _) ?_
      refine kx_get _ d_N_outermost_11 f_N_35 (hC.endAt he) (by rfl) ?_
      refine kx_ifnull 31 d_N_outermost_14 (by decide) ?_ ?_
      · intro h14
        first
          | exact absurd h7 (by omega)
          | (have hn : pe e = none := by
               cases hpe : pe e with
               | none => rfl
               | some q => rw [hpe] at h14; cases h14
             have hr2 : outE pe 24 e0 = e := by rw [hr]; unfold outE; rw [hn]
             rw [hr2] at hQ
             refine kx_aload_n d_N_outermost_31 rfl rfl ?_
             exact kx_aret d_N_outermost_32 rfl rfl (by decide) (by decide) hQ)
      · intro a14 h14
        refine kx_aload_n d_N_outermost_17 rfl (by first | rfl | exact kx_rf _) ?_
        refine kx_get _ d_N_outermost_18 f_N_35 (hC.endAt he) (by rfl) ?_
        obtain ⟨q, hq⟩ : ∃ q, pe e = some q := by
          cases hpe : pe e with
          | none => rw [hpe] at h14; cases h14
          | some q => exact ⟨q, rfl⟩
        have heq := hp e q he hq
        rw [hq]
        refine kx_stk (st1 := [.ref (ad q)]) rfl ?_
        refine kx_get _ d_N_outermost_21 f_N_49 (hC.endAt heq) (by rfl) ?_
        refine kx_astore_n d_N_outermost_24 (by decide) (by first | rfl | exact kx_rf _) ?_
        refine kx_iinc _ d_N_outermost_25 rfl (by decide) (nI_1 _) ?_
        refine kx_goto 4 d_N_outermost_28 (by decide) ?_
        refine kx_loc (L1 := [(1, .ref (ad (opp q))), (2, .int (nI (k + 1)))]) ⟨rfl, rfl, trivial⟩ ?_
        exact ih (k + 1) (opp q) (by omega) (oppN heq) (by rw [hr]; conv => lhs; unfold outE; rw [hq])
theorem m_N_outermost {E : kx_E} {w : va_W} {n : Nat} {ad : Nat → Nat} {L : Nat → List Nat} {V S : Nat → Nat → Int32} {pe bi : Nat → Option Nat} (hC : Cls E w n ad L V S pe bi) (hp : peOk n pe) {e : Nat} (he : endN n e) : kx_S E Y_N_outermost [.ref (ad e)] w (fun o w1 => o = .inl (some (.ref (ad (outE pe 24 e)))) ∧ w1 = w) := by
  refine kx_go (by decide) rfl rfl (Nat.le_of_ble_eq_true rfl) (kx_cc rfl kx_c0) (fun z => ?_)
  have hO : kx_off w w clsN := kx_off.rf
  refine kx_aload_n d_N_outermost_0 rfl (by first | rfl | exact kx_rf _) ?_
  refine kx_astore_n d_N_outermost_1 (by decide) (by first | rfl | exact kx_rf _) ?_
  refine kx_iconst (nI 0) d_N_outermost_2 (by decide) ?_
  refine kx_istore_n d_N_outermost_3 (by decide) ?_
  refine kx_loc (L1 := [(1, .ref (ad e)), (2, .int (nI 0))]) ⟨rfl, rfl, trivial⟩ ?_
  exact l_N_outermost hC hp ⟨rfl, rfl⟩ 24 0 e rfl he rfl
/-- the frame that comes over to an end: its name -/
def incE (pe : Nat → Option Nat) (S : Nat → Nat → Int32) (losses : Int32) (e : Nat) : Option Nat := match pe e with
  | none => none
  | some q => if lostI losses (S e 6) = true then none else some (q + 5)
theorem d_N_incoming_0 : decode c_N_incoming 0 = .ok (.aload_n 0, 1) := by decide +kernel
theorem d_N_incoming_1 : decode c_N_incoming 1 = .ok (.getfield 35, 3) := by decide +kernel
theorem d_N_incoming_4 : decode c_N_incoming 4 = .ok (.ifnull 14, 3) := by decide +kernel
theorem d_N_incoming_7 : decode c_N_incoming 7 = .ok (.iload_n 1, 1) := by decide +kernel
theorem d_N_incoming_8 : decode c_N_incoming 8 = .ok (.aload_n 0, 1) := by decide +kernel
theorem d_N_incoming_9 : decode c_N_incoming 9 = .ok (.getfield 32, 3) := by decide +kernel
theorem d_N_incoming_12 : decode c_N_incoming 12 = .ok (.ishr, 1) := by decide +kernel
theorem d_N_incoming_13 : decode c_N_incoming 13 = .ok (.iconst 1, 1) := by decide +kernel
theorem d_N_incoming_14 : decode c_N_incoming 14 = .ok (.iand, 1) := by decide +kernel
theorem d_N_incoming_15 : decode c_N_incoming 15 = .ok (.ifCond .eq 7, 3) := by decide +kernel
theorem d_N_incoming_18 : decode c_N_incoming 18 = .ok (.aconst_null, 1) := by decide +kernel
theorem d_N_incoming_19 : decode c_N_incoming 19 = .ok (.goto 10, 3) := by decide +kernel
theorem d_N_incoming_22 : decode c_N_incoming 22 = .ok (.aload_n 0, 1) := by decide +kernel
theorem d_N_incoming_23 : decode c_N_incoming 23 = .ok (.getfield 35, 3) := by decide +kernel
theorem d_N_incoming_26 : decode c_N_incoming 26 = .ok (.getfield 28, 3) := by decide +kernel
theorem d_N_incoming_29 : decode c_N_incoming 29 = .ok (.areturn, 1) := by decide +kernel
set_option maxHeartbeats 2000000 in
theorem m_N_incoming {E : kx_E} {w : va_W} {n : Nat} {ad : Nat → Nat} {L : Nat → List Nat} {V S : Nat → Nat → Int32} {pe bi : Nat → Option Nat} (hC : Cls E w n ad L V S pe bi) (hp : peOk n pe) {e : Nat} (he : endN n e) {losses : Int32} : kx_S E Y_N_incoming [.ref (ad e), .int losses] w (fun o w1 => o = .inl (some (va_rf ((incE pe S losses e).map ad))) ∧ w1 = w) := by
  refine kx_go (by decide) rfl rfl (Nat.le_of_ble_eq_true rfl) (kx_cc rfl (kx_cc rfl kx_c0)) (fun z => ?_)
  have hO : kx_off w w clsN := kx_off.rf
  cases hpe : pe e with
  | none =>
    have hi : incE pe S losses e = none := by unfold incE; rw [hpe]
    rw [hi]
    have hE := hC.endAt he
    unfold endC at hE
    rw [hpe] at hE
    refine kx_aload_n d_N_incoming_0 rfl (by first | rfl | exact kx_rf _) ?_
    refine kx_get _ d_N_incoming_1 f_N_35 hE (by rfl) ?_
    refine kx_ifnull (o := none) 18 d_N_incoming_4 (by decide) (fun _ => ?_) (fun a h => by cases h)
    refine kx_null d_N_incoming_18 ?_
    refine kx_goto 29 d_N_incoming_19 (by decide) ?_
    refine kx_aret d_N_incoming_29 rfl (by first | rfl | exact kx_rf _) (by decide) (by decide) ?_
    exact ⟨rfl, rfl⟩
  | some q =>
    have heq := hp e q he hpe
    have hE := hC.endAt he
    unfold endC at hE
    rw [hpe] at hE
    refine kx_aload_n d_N_incoming_0 rfl (by first | rfl | exact kx_rf _) ?_
    refine kx_get _ d_N_incoming_1 f_N_35 hE (by rfl) ?_
    refine kx_ifnull (o := some (ad q)) 18 d_N_incoming_4 (by decide) (fun h => by cases h) (fun _ _ => ?_)
    refine kx_iload_n d_N_incoming_7 rfl ?_
    refine kx_aload_n d_N_incoming_8 rfl (by first | rfl | exact kx_rf _) ?_
    refine kx_get _ d_N_incoming_9 f_N_32 hE (by rfl) ?_
    refine kx_ishr _ d_N_incoming_12 rfl ?_
    refine kx_iconst (nI 1) d_N_incoming_13 (by decide) ?_
    refine kx_iand _ d_N_incoming_14 rfl ?_
    refine kx_if_eq 22 d_N_incoming_15 (by decide) ?_ ?_
    · intro h15
      refine kx_aload_n d_N_incoming_22 rfl (by first | rfl | exact kx_rf _) ?_
      refine kx_get _ d_N_incoming_23 f_N_35 hE (by rfl) ?_
      refine kx_stk (st1 := [.ref (ad q)]) rfl ?_
      refine kx_get _ d_N_incoming_26 f_N_28 (hC.endAt heq) (by rfl) ?_
      first
        | (have hi : incE pe S losses e = none := by unfold incE lostI; rw [hpe]; simp [h15]
           rw [hi]
           exact kx_aret d_N_incoming_29 rfl rfl (by decide) (by decide) ⟨rfl, rfl⟩)
        | (have hi : incE pe S losses e = some (q + 5) := by unfold incE lostI; rw [hpe]; simp [h15]
           rw [hi]
           exact kx_aret d_N_incoming_29 rfl rfl (by decide) (by decide) ⟨rfl, rfl⟩)
    · intro h15
      refine kx_null d_N_incoming_18 ?_
      refine kx_goto 29 d_N_incoming_19 (by decide) ?_
      first
        | (have hi : incE pe S losses e = none := by unfold incE lostI; rw [hpe]; simp [h15]
           rw [hi]
           exact kx_aret d_N_incoming_29 rfl rfl (by decide) (by decide) ⟨rfl, rfl⟩)
        | (have hi : incE pe S losses e = some (q + 5) := by unfold incE lostI; rw [hpe]; simp [h15]
           rw [hi]
           exact kx_aret d_N_incoming_29 rfl rfl (by decide) (by decide) ⟨rfl, rfl⟩)
/-- an end hears nothing: its silence grows, at 4 its view is empty and whole -/
def silL (L : Nat → List Nat) (e s : Nat) : Nat → List Nat := if s + 1 < 4 then L else up1 L (e + 1) []
def silS (S : Nat → Nat → Int32) (e s : Nat) : Nat → Nat → Int32 := if s + 1 < 4 then up2 S e 8 (nI (s + 1)) else up2 (up2 S e 8 (nI 4)) e 7 (nI 1)
theorem d_N_fallSilent_0 : decode c_N_fallSilent 0 = .ok (.aload_n 0, 1) := by decide +kernel
theorem d_N_fallSilent_1 : decode c_N_fallSilent 1 = .ok (.aload_n 0, 1) := by decide +kernel
theorem d_N_fallSilent_2 : decode c_N_fallSilent 2 = .ok (.getfield 46, 3) := by decide +kernel
theorem d_N_fallSilent_5 : decode c_N_fallSilent 5 = .ok (.iconst 1, 1) := by decide +kernel
theorem d_N_fallSilent_6 : decode c_N_fallSilent 6 = .ok (.iadd, 1) := by decide +kernel
theorem d_N_fallSilent_7 : decode c_N_fallSilent 7 = .ok (.iconst 4, 1) := by decide +kernel
theorem d_N_fallSilent_8 : decode c_N_fallSilent 8 = .ok (.invokestatic 74, 3) := by decide +kernel
theorem d_N_fallSilent_11 : decode c_N_fallSilent 11 = .ok (.putfield 46, 3) := by decide +kernel
theorem d_N_fallSilent_14 : decode c_N_fallSilent 14 = .ok (.aload_n 0, 1) := by decide +kernel
theorem d_N_fallSilent_15 : decode c_N_fallSilent 15 = .ok (.getfield 46, 3) := by decide +kernel
theorem d_N_fallSilent_18 : decode c_N_fallSilent 18 = .ok (.iconst 4, 1) := by decide +kernel
theorem d_N_fallSilent_19 : decode c_N_fallSilent 19 = .ok (.if_icmp .ne 15, 3) := by decide +kernel
theorem d_N_fallSilent_22 : decode c_N_fallSilent 22 = .ok (.aload_n 0, 1) := by decide +kernel
theorem d_N_fallSilent_23 : decode c_N_fallSilent 23 = .ok (.getfield 18, 3) := by decide +kernel
theorem d_N_fallSilent_26 : decode c_N_fallSilent 26 = .ok (.invokevirtual 39, 3) := by decide +kernel
theorem d_N_fallSilent_29 : decode c_N_fallSilent 29 = .ok (.aload_n 0, 1) := by decide +kernel
theorem d_N_fallSilent_30 : decode c_N_fallSilent 30 = .ok (.iconst 1, 1) := by decide +kernel
theorem d_N_fallSilent_31 : decode c_N_fallSilent 31 = .ok (.putfield 42, 3) := by decide +kernel
theorem d_N_fallSilent_34 : decode c_N_fallSilent 34 = .ok (.return_, 1) := by decide +kernel
set_option maxHeartbeats 2000000 in
theorem m_N_fallSilent {E : kx_E} {w : va_W} {n : Nat} {ad : Nat → Nat} {L : Nat → List Nat} {V S : Nat → Nat → Int32} {pe bi : Nat → Option Nat} (hC : Cls E w n ad L V S pe bi) {e s : Nat} (he : endN n e) (hs : S e 8 = nI s) (h4 : s ≤ 4) : kx_S E Y_N_fallSilent [.ref (ad e)] w (CQ E w n ad (silL L e s) V (silS S e s) pe bi none) := by
  refine kx_go (by decide) rfl rfl (Nat.le_of_ble_eq_true rfl) (kx_cc rfl kx_c0) (fun z => ?_)
  have hO : kx_off w w clsN := kx_off.rf
  refine kx_aload_n d_N_fallSilent_0 rfl (by first | rfl | exact kx_rf _) ?_
  refine kx_aload_n d_N_fallSilent_1 rfl (by first | rfl | exact kx_rf _) ?_
  refine kx_get _ d_N_fallSilent_2 f_N_46 (hC.endAt he) (by rfl) ?_
  rw [hs]
  refine kx_iconst (nI 1) d_N_fallSilent_5 (by decide) ?_
  first | refine kx_iadd _ d_N_fallSilent_6 (nI_add _ _) ?_ | refine kx_iadd _ d_N_fallSilent_6 rfl ?_
  refine kx_iconst (nI 4) d_N_fallSilent_7 (by decide) ?_
  refine kx_min d_N_fallSilent_8 mn_N_74 (by omega) (by decide) (Nat.le_of_ble_eq_true rfl) (by decide) (by decide) (by decide) ?_
  refine cN_put8 d_N_fallSilent_11 f_N_46 (p_N_8 _) hC hO he (fun w hC hO => ?_)
  refine kx_aload_n d_N_fallSilent_14 rfl (by first | rfl | exact kx_rf _) ?_
  refine kx_get _ d_N_fallSilent_15 f_N_46 (hC.endAt he) (by rfl) ?_
  rw [up2_s]
  refine kx_iconst (nI 4) d_N_fallSilent_18 (by decide) ?_
  refine kx_icmp_ne_n 34 d_N_fallSilent_19 (by decide) (by omega) (by decide) ?_ ?_
  · intro h19
    refine kx_vret d_N_fallSilent_34 rfl (by decide) (by decide) ?_
    first
      | (have hm : min (s + 1) 4 = 4 := h19
         unfold silL silS
         rw [if_neg (by omega), if_neg (by omega)]
         rw [hm] at hC
         exact ⟨rfl, hC, hO⟩)
      | (have hm : min (s + 1) 4 = s + 1 := by omega
         unfold silL silS
         rw [if_pos (by omega), if_pos (by omega)]
         rw [hm] at hC
         exact ⟨rfl, hC, hO⟩)
  · intro h19
    refine kx_aload_n d_N_fallSilent_22 rfl (by first | rfl | exact kx_rf _) ?_
    refine kx_get _ d_N_fallSilent_23 f_N_18 (hC.endAt he) (by rfl) ?_
    refine cR_clear d_N_fallSilent_26 v_N_39 hC hO (rowN_e1 he) (by decide) (by decide) (by decide) (by decide) (fun w hC hO => ?_)
    refine kx_aload_n d_N_fallSilent_29 rfl (by first | rfl | exact kx_rf _) ?_
    refine kx_iconst (nI 1) d_N_fallSilent_30 (by decide) ?_
    refine cN_put7 d_N_fallSilent_31 f_N_42 p_N_7_1 hC hO he (fun w hC hO => ?_)
    refine kx_vret d_N_fallSilent_34 rfl (by decide) (by decide) ?_
    first
      | (have hm : min (s + 1) 4 = 4 := h19
         unfold silL silS
         rw [if_neg (by omega), if_neg (by omega)]
         rw [hm] at hC
         exact ⟨rfl, hC, hO⟩)
      | (have hm : min (s + 1) 4 = s + 1 := by omega
         unfold silL silS
         rw [if_pos (by omega), if_pos (by omega)]
         rw [hm] at hC
         exact ⟨rfl, hC, hO⟩)
theorem d_N_lookInto_0 : decode c_N_lookInto 0 = .ok (.aload_n 1, 1) := by decide +kernel
theorem d_N_lookInto_1 : decode c_N_lookInto 1 = .ok (.ifnonnull 8, 3) := by decide +kernel
theorem d_N_lookInto_4 : decode c_N_lookInto 4 = .ok (.aload_n 0, 1) := by decide +kernel
theorem d_N_lookInto_5 : decode c_N_lookInto 5 = .ok (.invokevirtual 52, 3) := by decide +kernel
theorem d_N_lookInto_8 : decode c_N_lookInto 8 = .ok (.return_, 1) := by decide +kernel
theorem d_N_lookInto_9 : decode c_N_lookInto 9 = .ok (.aload_n 0, 1) := by decide +kernel
theorem d_N_lookInto_10 : decode c_N_lookInto 10 = .ok (.iconst 0, 1) := by decide +kernel
theorem d_N_lookInto_11 : decode c_N_lookInto 11 = .ok (.putfield 46, 3) := by decide +kernel
theorem d_N_lookInto_14 : decode c_N_lookInto 14 = .ok (.aload_n 0, 1) := by decide +kernel
theorem d_N_lookInto_15 : decode c_N_lookInto 15 = .ok (.getfield 18, 3) := by decide +kernel
theorem d_N_lookInto_18 : decode c_N_lookInto 18 = .ok (.invokevirtual 39, 3) := by decide +kernel
theorem d_N_lookInto_21 : decode c_N_lookInto 21 = .ok (.aload_n 0, 1) := by decide +kernel
theorem d_N_lookInto_22 : decode c_N_lookInto 22 = .ok (.getfield 18, 3) := by decide +kernel
theorem d_N_lookInto_25 : decode c_N_lookInto 25 = .ok (.aload_n 1, 1) := by decide +kernel
theorem d_N_lookInto_26 : decode c_N_lookInto 26 = .ok (.getfield 55, 3) := by decide +kernel
theorem d_N_lookInto_29 : decode c_N_lookInto 29 = .ok (.invokevirtual 58, 3) := by decide +kernel
theorem d_N_lookInto_32 : decode c_N_lookInto 32 = .ok (.aload_n 0, 1) := by decide +kernel
theorem d_N_lookInto_33 : decode c_N_lookInto 33 = .ok (.getfield 18, 3) := by decide +kernel
theorem d_N_lookInto_36 : decode c_N_lookInto 36 = .ok (.aload_n 1, 1) := by decide +kernel
theorem d_N_lookInto_37 : decode c_N_lookInto 37 = .ok (.getfield 62, 3) := by decide +kernel
theorem d_N_lookInto_40 : decode c_N_lookInto 40 = .ok (.invokevirtual 63, 3) := by decide +kernel
theorem d_N_lookInto_43 : decode c_N_lookInto 43 = .ok (.aload_n 0, 1) := by decide +kernel
theorem d_N_lookInto_44 : decode c_N_lookInto 44 = .ok (.aload_n 1, 1) := by decide +kernel
theorem d_N_lookInto_45 : decode c_N_lookInto 45 = .ok (.getfield 67, 3) := by decide +kernel
theorem d_N_lookInto_48 : decode c_N_lookInto 48 = .ok (.putfield 42, 3) := by decide +kernel
theorem d_N_lookInto_51 : decode c_N_lookInto 51 = .ok (.aload_n 0, 1) := by decide +kernel
theorem d_N_lookInto_52 : decode c_N_lookInto 52 = .ok (.getfield 22, 3) := by decide +kernel
theorem d_N_lookInto_55 : decode c_N_lookInto 55 = .ok (.aload_n 1, 1) := by decide +kernel
theorem d_N_lookInto_56 : decode c_N_lookInto 56 = .ok (.getfield 68, 3) := by decide +kernel
theorem d_N_lookInto_59 : decode c_N_lookInto 59 = .ok (.invokevirtual 71, 3) := by decide +kernel
theorem d_N_lookInto_62 : decode c_N_lookInto 62 = .ok (.return_, 1) := by decide +kernel
set_option maxHeartbeats 2000000 in
theorem m_N_lookInto_no {E : kx_E} {w : va_W} {n : Nat} {ad : Nat → Nat} {L : Nat → List Nat} {V S : Nat → Nat → Int32} {pe bi : Nat → Option Nat} (hC : Cls E w n ad L V S pe bi) {e s : Nat} (he : endN n e) (hs : S e 8 = nI s) (h4 : s ≤ 4) : kx_S E Y_N_lookInto [.ref (ad e), .null] w (CQ E w n ad (silL L e s) V (silS S e s) pe bi none) := by
  refine kx_go (by decide) rfl rfl (Nat.le_of_ble_eq_true rfl) (kx_cc rfl (kx_cc rfl kx_c0)) (fun z => ?_)
  have hO : kx_off w w clsN := kx_off.rf
  refine kx_aload_n d_N_lookInto_0 rfl (by first | rfl | exact kx_rf _) ?_
  refine kx_ifnonnull (o := none) 9 d_N_lookInto_1 (by decide) (fun a h => by cases h) (fun _ => ?_)
  refine kx_aload_n d_N_lookInto_4 rfl (by first | rfl | exact kx_rf _) ?_
  refine kx_callV (as := []) (rest := []) d_N_lookInto_5 v_N_52 rfl (hC.endAt he) rfl rfl (by decide) (by decide) (by decide) (by decide) (by decide) rfl (m_N_fallSilent hC he hs h4) (fun X w1 h => by cases h.1) (fun v w1 hq => ?_)
  obtain ⟨hv, hC1, hO1⟩ := hq
  cases hv
  refine kx_vret d_N_lookInto_8 rfl (by decide) (by decide) ?_
  exact ⟨rfl, hC1, hO1⟩
/-- an end hears the frame f -/
def heaL (L : Nat → List Nat) (e f s : Nat) : Nat → List Nat := up1 (up1 L (e + 1) ((s :: L (f + 1)).take 24)) (e + 3) (L (f + 3))
def heaS (S : Nat → Nat → Int32) (e f : Nat) : Nat → Nat → Int32 := up2 (up2 S e 8 (nI 0)) e 7 (S f 5)
theorem up1_up1 {α : Type} {f : Nat → α} {x : Nat} {u v : α} : up1 (up1 f x u) x v = up1 f x v := by funext y; unfold up1; by_cases h : y = x <;> simp [h]
set_option maxHeartbeats 2000000 in
theorem m_N_lookInto {E : kx_E} {w : va_W} {n : Nat} {ad : Nat → Nat} {L : Nat → List Nat} {V S : Nat → Nat → Int32} {pe bi : Nat → Option Nat} (hC : Cls E w n ad L V S pe bi) {e q s : Nat} (he : endN n e) (hq : endN n q) (hs : S (q + 5) 4 = nI s) (h5 : s < 512) (hw : S (q + 5) 5 = nI 0 ∨ S (q + 5) 5 = nI 1) : kx_S E Y_N_lookInto [.ref (ad e), .ref (ad (q + 5))] w (CQ E w n ad (heaL L e (q + 5) s) V (heaS S e (q + 5)) pe bi none) := by
  refine kx_go (by decide) rfl rfl (Nat.le_of_ble_eq_true rfl) (kx_cc rfl (kx_cc rfl kx_c0)) (fun z => ?_)
  have hO : kx_off w w clsN := kx_off.rf
  have hne : q + 5 ≠ e := by unfold endN at he hq; omega
  have n1 : e + 1 ≠ q + 5 + 1 := by unfold endN at he hq; omega
  have n2 : e + 3 ≠ q + 5 + 3 := by unfold endN at he hq; omega
  have n3 : q + 5 + 1 ≠ e + 1 := Ne.symm n1
  have n4 : q + 5 + 3 ≠ e + 1 := by unfold endN at he hq; omega
  refine kx_aload_n d_N_lookInto_0 rfl (by first | rfl | exact kx_rf _) ?_
  refine kx_ifnonnull (o := some (ad (q + 5))) 9 d_N_lookInto_1 (by decide) (fun _ _ => ?_) (fun h => by cases h)
  refine kx_aload_n d_N_lookInto_9 rfl (by first | rfl | exact kx_rf _) ?_
  refine kx_iconst (nI 0) d_N_lookInto_10 (by decide) ?_
  refine cN_put8 d_N_lookInto_11 f_N_46 (p_N_8 _) hC hO he (fun w hC hO => ?_)
  refine kx_aload_n d_N_lookInto_14 rfl (by first | rfl | exact kx_rf _) ?_
  refine kx_get _ d_N_lookInto_15 f_N_18 (hC.endAt he) (by rfl) ?_
  refine cR_clear d_N_lookInto_18 v_N_39 hC hO (rowN_e1 he) (by decide) (by decide) (by decide) (by decide) (fun w hC hO => ?_)
  refine kx_aload_n d_N_lookInto_21 rfl (by first | rfl | exact kx_rf _) ?_
  refine kx_get _ d_N_lookInto_22 f_N_18 (hC.endAt he) (by rfl) ?_
  refine kx_aload_n d_N_lookInto_25 rfl (by first | rfl | exact kx_rf _) ?_
  refine kx_get _ d_N_lookInto_26 f_N_55 (hC.frm q hq) (by rfl) ?_
  rw [up2_n hne, hs]
  refine cR_append d_N_lookInto_29 v_N_58 hC hO (rowN_e1 he) h5 (by decide) (by decide) (by decide) (by decide) (fun w hC hO => ?_)
  rw [up1_s] at hC
  have hC := hC.cgL (show up1 (up1 L (e + 1) []) (e + 1) (if ([] : List Nat).length < 24 then [] ++ [s] else []) = up1 L (e + 1) [s] from up1_up1)
  refine kx_aload_n d_N_lookInto_32 rfl (by first | rfl | exact kx_rf _) ?_
  refine kx_get _ d_N_lookInto_33 f_N_18 (hC.endAt he) (by rfl) ?_
  refine kx_aload_n d_N_lookInto_36 rfl (by first | rfl | exact kx_rf _) ?_
  refine kx_get _ d_N_lookInto_37 f_N_62 (hC.frm q hq) (by rfl) ?_
  refine cR_appendAll d_N_lookInto_40 v_N_63 hC hO (rowN_e1 he) (rowN_e6 hq) n1 (by decide) (by decide) (by decide) (by decide) (fun w hC hO => ?_)
  rw [up1_s, up1_n n3] at hC
  have hC := hC.cgL (show up1 (up1 L (e + 1) [s]) (e + 1) (([s] ++ L (q + 5 + 1)).take 24) = up1 L (e + 1) ((s :: L (q + 5 + 1)).take 24) from up1_up1)
  refine kx_aload_n d_N_lookInto_43 rfl (by first | rfl | exact kx_rf _) ?_
  refine kx_aload_n d_N_lookInto_44 rfl (by first | rfl | exact kx_rf _) ?_
  refine kx_get _ d_N_lookInto_45 f_N_67 (hC.frm q hq) (by rfl) ?_
  rw [up2_n hne]
  refine cN_put7 d_N_lookInto_48 f_N_42 (by rcases hw with h | h <;> rw [h]; exact p_N_7_0; exact p_N_7_1) hC hO he (fun w hC hO => ?_)
  refine kx_aload_n d_N_lookInto_51 rfl (by first | rfl | exact kx_rf _) ?_
  refine kx_get _ d_N_lookInto_52 f_N_22 (hC.endAt he) (by rfl) ?_
  refine kx_aload_n d_N_lookInto_55 rfl (by first | rfl | exact kx_rf _) ?_
  refine kx_get _ d_N_lookInto_56 f_N_68 (hC.frm q hq) (by rfl) ?_
  refine cR_copyFrom d_N_lookInto_59 v_N_71 hC hO (rowN_e3 he) (rowN_e8 hq) n2 (by decide) (by decide) (by decide) (by decide) (fun w hC hO => ?_)
  rw [up1_n n4] at hC
  refine kx_vret d_N_lookInto_62 rfl (by decide) (by decide) ?_
  exact ⟨rfl, hC, hO⟩
