/-! Car: the directory, listening, facts -/
theorem rowNo_le (id : Nat) : ∀ (l : List Nat) (k : Nat), rowNo id l k ≤ k + l.length
  | [], _ => Nat.zero_le _
  | v :: t, k => by
    unfold rowNo
    have := rowNo_le id t (k + 1)
    rw [List.length_cons]
    split <;> omega
def dftT (c : Nat) (T : LVS) : List Nat := draftI (T.1 (carE c 0 + 1)) (T.1 (carE c 1 + 1)) (clN (T.2.2 (carE c 0) 0)) (T.2.2 (carE c 0) 7) (T.2.2 (carE c 1) 7)
def renT (c : Nat) (T : LVS) : LVS := if dftT c T = T.1 (carB c + 26) then (up1 T.1 (carB c + 28) (dftT c T), T.2.1, T.2.2)
  else (up1 (up1 T.1 (carB c + 28) (dftT c T)) (carB c + 26) (dftT c T), up1 T.2.1 (carB c + 30) (fun _ => -1), up2 (up2 T.2.2 (carB c) 7 (nI (rowNo (clN (T.2.2 (carB c) 0)) (dftT c T) 0))) (carB c) 9 (T.2.2 (carB c) 9 + nI 1))
def CT (E : kx_E) (w0 : va_W) (n : Nat) (ad : Nat → Nat) (pe bi : Nat → Option Nat) (T : LVS) (r : Option Value) : kx_O → va_W → Prop := fun o w1 => o = .inl r ∧ Cls E w1 n ad T.1 T.2.1 T.2.2 pe bi ∧ kx_off w0 w1 clsN
theorem d_C_renewDirectory_0 : decode c_C_renewDirectory 0 = .ok (.aload_n 0, 1) := by decide +kernel
theorem d_C_renewDirectory_1 : decode c_C_renewDirectory 1 = .ok (.aload_n 1, 1) := by decide +kernel
theorem d_C_renewDirectory_2 : decode c_C_renewDirectory 2 = .ok (.invokevirtual 161, 3) := by decide +kernel
theorem d_C_renewDirectory_5 : decode c_C_renewDirectory 5 = .ok (.aload_n 0, 1) := by decide +kernel
theorem d_C_renewDirectory_6 : decode c_C_renewDirectory 6 = .ok (.getfield 38, 3) := by decide +kernel
theorem d_C_renewDirectory_9 : decode c_C_renewDirectory 9 = .ok (.aload_n 0, 1) := by decide +kernel
theorem d_C_renewDirectory_10 : decode c_C_renewDirectory 10 = .ok (.getfield 34, 3) := by decide +kernel
theorem d_C_renewDirectory_13 : decode c_C_renewDirectory 13 = .ok (.invokevirtual 104, 3) := by decide +kernel
theorem d_C_renewDirectory_16 : decode c_C_renewDirectory 16 = .ok (.ifCond .eq 4, 3) := by decide +kernel
theorem d_C_renewDirectory_19 : decode c_C_renewDirectory 19 = .ok (.return_, 1) := by decide +kernel
theorem d_C_renewDirectory_20 : decode c_C_renewDirectory 20 = .ok (.aload_n 0, 1) := by decide +kernel
theorem d_C_renewDirectory_21 : decode c_C_renewDirectory 21 = .ok (.getfield 34, 3) := by decide +kernel
theorem d_C_renewDirectory_24 : decode c_C_renewDirectory 24 = .ok (.aload_n 0, 1) := by decide +kernel
theorem d_C_renewDirectory_25 : decode c_C_renewDirectory 25 = .ok (.getfield 38, 3) := by decide +kernel
theorem d_C_renewDirectory_28 : decode c_C_renewDirectory 28 = .ok (.invokevirtual 128, 3) := by decide +kernel
theorem d_C_renewDirectory_31 : decode c_C_renewDirectory 31 = .ok (.aload_n 0, 1) := by decide +kernel
theorem d_C_renewDirectory_32 : decode c_C_renewDirectory 32 = .ok (.aload_n 0, 1) := by decide +kernel
theorem d_C_renewDirectory_33 : decode c_C_renewDirectory 33 = .ok (.getfield 34, 3) := by decide +kernel
theorem d_C_renewDirectory_36 : decode c_C_renewDirectory 36 = .ok (.aload_n 0, 1) := by decide +kernel
theorem d_C_renewDirectory_37 : decode c_C_renewDirectory 37 = .ok (.getfield 9, 3) := by decide +kernel
theorem d_C_renewDirectory_40 : decode c_C_renewDirectory 40 = .ok (.invokevirtual 164, 3) := by decide +kernel
theorem d_C_renewDirectory_43 : decode c_C_renewDirectory 43 = .ok (.putfield 60, 3) := by decide +kernel
theorem d_C_renewDirectory_46 : decode c_C_renewDirectory 46 = .ok (.aload_n 0, 1) := by decide +kernel
theorem d_C_renewDirectory_47 : decode c_C_renewDirectory 47 = .ok (.getfield 41, 3) := by decide +kernel
theorem d_C_renewDirectory_50 : decode c_C_renewDirectory 50 = .ok (.iconst (-1), 1) := by decide +kernel
theorem d_C_renewDirectory_51 : decode c_C_renewDirectory 51 = .ok (.invokestatic 48, 3) := by decide +kernel
theorem d_C_renewDirectory_54 : decode c_C_renewDirectory 54 = .ok (.aload_n 0, 1) := by decide +kernel
theorem d_C_renewDirectory_55 : decode c_C_renewDirectory 55 = .ok (.dup, 1) := by decide +kernel
theorem d_C_renewDirectory_56 : decode c_C_renewDirectory 56 = .ok (.getfield 63, 3) := by decide +kernel
theorem d_C_renewDirectory_59 : decode c_C_renewDirectory 59 = .ok (.iconst 1, 1) := by decide +kernel
theorem d_C_renewDirectory_60 : decode c_C_renewDirectory 60 = .ok (.iadd, 1) := by decide +kernel
theorem d_C_renewDirectory_61 : decode c_C_renewDirectory 61 = .ok (.putfield 63, 3) := by decide +kernel
theorem d_C_renewDirectory_64 : decode c_C_renewDirectory 64 = .ok (.return_, 1) := by decide +kernel
set_option maxRecDepth 20000 in
set_option maxHeartbeats 4000000 in
theorem m_C_renewDirectory {E : kx_E} {w : va_W} {n : Nat} {ad : Nat → Nat} {pe bi : Nat → Option Nat} {T : LVS} (hC : Cls E w n ad T.1 T.2.1 T.2.2 pe bi) {c : Nat} (hc : c < n) (hI : InvS n T.2.2) : kx_S E Y_C_renewDirectory [.ref (ad (carB c)), .ref (ad 3)] w (CT E w n ad pe bi (renT c T) none) := by
  refine kx_go (by decide) rfl rfl (Nat.le_of_ble_eq_true rfl) (kx_cc rfl (kx_cc rfl kx_c0)) (fun z => ?_)
  have hO : kx_off w w clsN := kx_off.rf
  obtain ⟨id, hid, hid0⟩ := hI.id hc
  have hL : draL T.1 T.2.2 c = up1 T.1 (carB c + 28) (dftT c T) := rfl
  unfold renT
  generalize dftT c T = dl at hL ⊢
  have a1 : carB c + 26 ≠ carB c + 28 := by omega
  refine kx_aload_n d_C_renewDirectory_0 rfl (by first | rfl | exact kx_rf _) ?_
  refine kx_aload_n d_C_renewDirectory_1 rfl (by first | rfl | exact kx_rf _) ?_
  refine kx_callV (as := [.ref (ad 3)]) (rest := []) d_C_renewDirectory_2 v_C_161 rfl (hC.car c hc) rfl rfl (by decide) (by decide) (by decide) (by decide) (by decide) rfl (m_C_draftDirectory hC hc hI) (fun X w1 h => by cases h.1) (fun v w hq9 => ?_)
  obtain ⟨hv, hC, hO9⟩ := hq9
  cases hv
  have hO := hO.tr hO9 (fun _ h => h) (fun _ h => h)
  rw [hL] at hC
  refine kx_stk (st1 := []) rfl ?_
  refine kx_aload_n d_C_renewDirectory_5 rfl (by first | rfl | exact kx_rf _) ?_
  refine kx_get _ d_C_renewDirectory_6 f_C_38 (hC.car c hc) (by rfl) ?_
  refine kx_aload_n d_C_renewDirectory_9 rfl (by first | rfl | exact kx_rf _) ?_
  refine kx_get _ d_C_renewDirectory_10 f_C_34 (hC.car c hc) (by rfl) ?_
  refine cR_isSameAs d_C_renewDirectory_13 v_C_104 hC (rowN_28 hc) (rowN_26 hc) (by decide) (Nat.le_of_ble_eq_true rfl) (by decide) (by decide) ?_
  rw [up1_s, up1_n a1]
  refine kx_if_eq_n 20 d_C_renewDirectory_16 (by decide) (by split <;> decide) ?_ ?_
  · intro h16
    have hne : ¬ dl = T.1 (carB c + 26) := fun e => by rw [if_pos e] at h16; cases h16
    rw [if_neg hne]
    refine kx_aload_n d_C_renewDirectory_20 rfl (by first | rfl | exact kx_rf _) ?_
    refine kx_get _ d_C_renewDirectory_21 f_C_34 (hC.car c hc) (by rfl) ?_
    refine kx_aload_n d_C_renewDirectory_24 rfl (by first | rfl | exact kx_rf _) ?_
    refine kx_get _ d_C_renewDirectory_25 f_C_38 (hC.car c hc) (by rfl) ?_
    refine cR_copyFrom d_C_renewDirectory_28 v_C_128 hC hO (rowN_26 hc) (rowN_28 hc) a1 (by decide) (Nat.le_of_ble_eq_true rfl) (by decide) (by decide) (fun w hC hO => ?_)
    rw [up1_s] at hC
    have hdl := (hC.row _ (rowN_26 hc)).2.2.1
    rw [up1_s] at hdl
    refine kx_aload_n d_C_renewDirectory_31 rfl (by first | rfl | exact kx_rf _) ?_
    refine kx_aload_n d_C_renewDirectory_32 rfl (by first | rfl | exact kx_rf _) ?_
    refine kx_get _ d_C_renewDirectory_33 f_C_34 (hC.car c hc) (by rfl) ?_
    refine kx_aload_n d_C_renewDirectory_36 rfl (by first | rfl | exact kx_rf _) ?_
    refine kx_get _ d_C_renewDirectory_37 f_C_9 (hC.car c hc) (by rfl) ?_
    rw [hid0]
    refine cR_numberOf d_C_renewDirectory_40 v_C_164 hC (rowN_26 hc) (by omega) (by decide) (Nat.le_of_ble_eq_true rfl) (by decide) (by decide) ?_
    rw [up1_s]
    refine cC_put7 d_C_renewDirectory_43 f_C_60 hC hO hc (fun w hC hO => ?_)
    refine kx_aload_n d_C_renewDirectory_46 rfl (by first | rfl | exact kx_rf _) ?_
    refine kx_get _ d_C_renewDirectory_47 f_C_41 (hC.car c hc) (by rfl) ?_
    refine kx_iconst (-1) d_C_renewDirectory_50 (by decide) ?_
    refine cV_fill d_C_renewDirectory_51 s_C_48 hC hO (intN_30 hc) (by decide) (Nat.le_of_ble_eq_true rfl) (by decide) (by decide) (fun w hC hO => ?_)
    refine kx_aload_n d_C_renewDirectory_54 rfl (by first | rfl | exact kx_rf _) ?_
    refine kx_dup d_C_renewDirectory_55 (by first | rfl | exact kx_rfc _) ?_
    refine kx_get _ d_C_renewDirectory_56 f_C_63 (hC.car c hc) (by rfl) ?_
    rw [up2_k (by decide)]
    refine kx_iconst (nI 1) d_C_renewDirectory_59 (by decide) ?_
    refine kx_iadd _ d_C_renewDirectory_60 rfl ?_
    refine cC_put9 d_C_renewDirectory_61 f_C_63 hC hO hc (fun w hC hO => ?_)
    refine kx_vret d_C_renewDirectory_64 rfl (by decide) (by decide) ?_
    rw [clN_nI (by omega)]
    exact ⟨rfl, hC, hO⟩
  · intro h16
    have he : dl = T.1 (carB c + 26) := Decidable.byContradiction (fun e => h16 (by rw [if_neg e]))
    rw [if_pos he]
    exact kx_vret d_C_renewDirectory_19 rfl (by decide) (by decide) ⟨rfl, hC, hO⟩
theorem dft_len {n c : Nat} {T : LVS} (h0 : (T.1 (carE c 0 + 1)).length ≤ 24) : (dftT c T).length ≤ 24 := by
  unfold dftT draftI
  split
  · exact Nat.zero_le _
  · rename_i h
    split
    · exact Nat.zero_le _
    · split
      · rw [rowTurn_len, List.length_append, List.length_append, rowTurn_len]; simp only [List.length_singleton]; omega
      · rw [List.length_append, List.length_append, rowTurn_len]; simp only [List.length_singleton]; omega
theorem renT_inv {n c : Nat} {T : LVS} (hI : InvS n T.2.2) (h0 : (T.1 (carE c 0 + 1)).length ≤ 24) : InvS n (renT c T).2.2 := by
  unfold renT
  split
  · exact hI
  · refine (hI.up (okUp_c (fun _ => ⟨_, ?_, rfl⟩) (by decide))).up (okUp_c (fun h => by cases h) (by decide))
    have := rowNo_le (clN (T.2.2 (carB c) 0)) (dftT c T) 0
    have := dft_len (n := n) (c := c) (T := T) h0
    omega
def incQ (pe : Nat → Option Nat) (S : Nat → Nat → Int32) (losses : Int32) (e : Nat) : Option Nat := match pe e with
  | none => none
  | some q => if lostI losses (S e 6) = true then none else some q
theorem incE_Q (pe : Nat → Option Nat) (S : Nat → Nat → Int32) (losses : Int32) (e : Nat) (ad : Nat → Nat) : (incE pe S losses e).map ad = (incQ pe S losses e).map (fun q => ad (q + 5)) := by
  unfold incE incQ
  cases pe e with
  | none => rfl
  | some q => dsimp only; split <;> rfl
theorem incQ_N {n : Nat} {pe : Nat → Option Nat} {S : Nat → Nat → Int32} {losses : Int32} {e : Nat} (hp : peOk n pe) (he : endN n e) : ∀ q, incQ pe S losses e = some q → endN n q := by
  intro q h
  unfold incQ at h
  cases hpe : pe e with
  | none => rw [hpe] at h; cases h
  | some r =>
    rw [hpe] at h
    dsimp only at h
    split at h
    · cases h
    · cases h; exact hp e _ he hpe
def lookT (e : Nat) (o : Option Nat) (T : LVS) : LVS := match o with
  | none => (silL T.1 e (clN (T.2.2 e 8)), T.2.1, silS T.2.2 e (clN (T.2.2 e 8)))
  | some q => (heaL T.1 e (q + 5) (clN (T.2.2 (q + 5) 4)), T.2.1, heaS T.2.2 e (q + 5))
def growT (c : Nat) (T : LVS) : LVS := (T.1, up1 T.2.1 (carB c + 30) (growV (T.2.1 (carB c + 30)) (T.1 (carB c + 26)).length), T.2.2)
def heeT (c : Nat) (o : Option Nat) (T : LVS) : LVS := match o with
  | none => T
  | some q => (T.1, heeV T.1 T.2.1 c q (clN (T.2.2 (carB c) 7)), heeS T.1 T.2.2 c q)
def oneI (o : Option Nat) : Nat := match o with
  | none => 0
  | some _ => 1
theorem lookT_inv {n e : Nat} {o : Option Nat} {T : LVS} (hI : InvS n T.2.2) (he : endN n e) (ho : ∀ q, o = some q → endN n q) : InvS n (lookT e o T).2.2 := by
  cases o with
  | none =>
    obtain ⟨s, h4, hs⟩ := hI.sil he
    show InvS n (silS T.2.2 e (clN (T.2.2 e 8)))
    rw [hs, clN_nI (by omega)]
    unfold silS
    split
    · exact hI.up (okUp_e he (fun _ => ⟨s + 1, by omega, rfl⟩) (fun h => by cases h) (by decide))
    · exact (hI.up (okUp_e he (fun _ => ⟨4, by omega, rfl⟩) (fun h => by cases h) (by decide))).up (okUp_e he (fun h => by cases h) (fun _ => Or.inr rfl) (by decide))
  | some q =>
    show InvS n (heaS T.2.2 e (q + 5))
    unfold heaS
    exact (hI.up (okUp_e he (fun _ => ⟨0, by omega, rfl⟩) (fun h => by cases h) (by decide))).up (okUp_e he (fun h => by cases h) (fun _ => hI.fwh (ho q rfl)) (by decide))
theorem heeT_inv {n c : Nat} {o : Option Nat} {T : LVS} (hI : InvS n T.2.2) : InvS n (heeT c o T).2.2 := by
  cases o with
  | none => exact hI
  | some q =>
    show InvS n (heeS T.1 T.2.2 c q)
    unfold heeS
    split
    · exact hI.up (okUp_c (fun h => by cases h) (by decide))
    · exact hI
set_option maxRecDepth 20000 in
set_option maxHeartbeats 4000000 in
theorem m_N_lookT {E : kx_E} {w : va_W} {n : Nat} {ad : Nat → Nat} {pe bi : Nat → Option Nat} {T : LVS} (hC : Cls E w n ad T.1 T.2.1 T.2.2 pe bi) {e : Nat} {o : Option Nat} (he : endN n e) (ho : ∀ q, o = some q → endN n q) (hI : InvS n T.2.2) : kx_S E Y_N_lookInto [.ref (ad e), va_rf (o.map (fun q => ad (q + 5)))] w (CT E w n ad pe bi (lookT e o T) none) := by
  cases o with
  | none =>
    obtain ⟨s, h4, hs⟩ := hI.sil he
    have h := m_N_lookInto_no hC he hs h4
    have e1 : lookT e none T = (silL T.1 e s, T.2.1, silS T.2.2 e s) := by unfold lookT; dsimp only; rw [hs, clN_nI (by omega)]
    rw [e1]
    exact h
  | some q =>
    obtain ⟨s, h5, hs⟩ := hI.snd (ho q rfl)
    have h := m_N_lookInto hC he (ho q rfl) hs h5 (hI.fwh (ho q rfl))
    have e1 : lookT e (some q) T = (heaL T.1 e (q + 5) s, T.2.1, heaS T.2.2 e (q + 5)) := by unfold lookT; dsimp only; rw [hs, clN_nI (by omega)]
    rw [e1]
    exact h
theorem m_C_heedT {E : kx_E} {w : va_W} {n : Nat} {ad : Nat → Nat} {pe bi : Nat → Option Nat} {T : LVS} (hC : Cls E w n ad T.1 T.2.1 T.2.2 pe bi) {c : Nat} {o : Option Nat} (hc : c < n) (ho : ∀ q, o = some q → endN n q) (hI : InvS n T.2.2) : kx_S E Y_C_heed [.ref (ad (carB c)), va_rf (o.map (fun q => ad (q + 5)))] w (CT E w n ad pe bi (heeT c o T) (some (.int (nI (oneI o))))) := by
  cases o with
  | none => exact m_C_heed_no hC hc
  | some q =>
    obtain ⟨num, h24, hn⟩ := hI.num hc
    have h := m_C_heed hC hc (ho q rfl) hn h24
    have e1 : heeT c (some q) T = (T.1, heeV T.1 T.2.1 c q num, heeS T.1 T.2.2 c q) := by unfold heeT; dsimp only; rw [hn, clN_nI (by omega)]
    rw [e1]
    exact h
def lisT (pe : Nat → Option Nat) (losses : Int32) (c : Nat) (T : LVS) : LVS :=
  heeT c (incQ pe T.2.2 losses (carE c 1)) (heeT c (incQ pe T.2.2 losses (carE c 0)) (growT c (renT c (lookT (carE c 1) (incQ pe T.2.2 losses (carE c 1)) (lookT (carE c 0) (incQ pe T.2.2 losses (carE c 0)) T)))))
def lisN (pe : Nat → Option Nat) (S : Nat → Nat → Int32) (losses : Int32) (c : Nat) : Nat := oneI (incQ pe S losses (carE c 0)) + oneI (incQ pe S losses (carE c 1))
theorem d_C_listen_0 : decode c_C_listen 0 = .ok (.aload_n 0, 1) := by decide +kernel
theorem d_C_listen_1 : decode c_C_listen 1 = .ok (.getfield 20, 3) := by decide +kernel
theorem d_C_listen_4 : decode c_C_listen 4 = .ok (.iconst 0, 1) := by decide +kernel
theorem d_C_listen_5 : decode c_C_listen 5 = .ok (.aaload, 1) := by decide +kernel
theorem d_C_listen_6 : decode c_C_listen 6 = .ok (.iload_n 1, 1) := by decide +kernel
theorem d_C_listen_7 : decode c_C_listen 7 = .ok (.invokevirtual 142, 3) := by decide +kernel
theorem d_C_listen_10 : decode c_C_listen 10 = .ok (.astore_n 3, 1) := by decide +kernel
theorem d_C_listen_11 : decode c_C_listen 11 = .ok (.aload_n 0, 1) := by decide +kernel
theorem d_C_listen_12 : decode c_C_listen 12 = .ok (.getfield 20, 3) := by decide +kernel
theorem d_C_listen_15 : decode c_C_listen 15 = .ok (.iconst 1, 1) := by decide +kernel
theorem d_C_listen_16 : decode c_C_listen 16 = .ok (.aaload, 1) := by decide +kernel
theorem d_C_listen_17 : decode c_C_listen 17 = .ok (.iload_n 1, 1) := by decide +kernel
theorem d_C_listen_18 : decode c_C_listen 18 = .ok (.invokevirtual 142, 3) := by decide +kernel
theorem d_C_listen_21 : decode c_C_listen 21 = .ok (.astore 4, 2) := by decide +kernel
theorem d_C_listen_23 : decode c_C_listen 23 = .ok (.aload_n 0, 1) := by decide +kernel
theorem d_C_listen_24 : decode c_C_listen 24 = .ok (.getfield 20, 3) := by decide +kernel
theorem d_C_listen_27 : decode c_C_listen 27 = .ok (.iconst 0, 1) := by decide +kernel
theorem d_C_listen_28 : decode c_C_listen 28 = .ok (.aaload, 1) := by decide +kernel
theorem d_C_listen_29 : decode c_C_listen 29 = .ok (.aload_n 3, 1) := by decide +kernel
theorem d_C_listen_30 : decode c_C_listen 30 = .ok (.invokevirtual 146, 3) := by decide +kernel
theorem d_C_listen_33 : decode c_C_listen 33 = .ok (.aload_n 0, 1) := by decide +kernel
theorem d_C_listen_34 : decode c_C_listen 34 = .ok (.getfield 20, 3) := by decide +kernel
theorem d_C_listen_37 : decode c_C_listen 37 = .ok (.iconst 1, 1) := by decide +kernel
theorem d_C_listen_38 : decode c_C_listen 38 = .ok (.aaload, 1) := by decide +kernel
theorem d_C_listen_39 : decode c_C_listen 39 = .ok (.aload 4, 2) := by decide +kernel
theorem d_C_listen_41 : decode c_C_listen 41 = .ok (.invokevirtual 146, 3) := by decide +kernel
theorem d_C_listen_44 : decode c_C_listen 44 = .ok (.aload_n 0, 1) := by decide +kernel
theorem d_C_listen_45 : decode c_C_listen 45 = .ok (.aload_n 2, 1) := by decide +kernel
theorem d_C_listen_46 : decode c_C_listen 46 = .ok (.invokevirtual 150, 3) := by decide +kernel
theorem d_C_listen_49 : decode c_C_listen 49 = .ok (.aload_n 0, 1) := by decide +kernel
theorem d_C_listen_50 : decode c_C_listen 50 = .ok (.invokevirtual 154, 3) := by decide +kernel
theorem d_C_listen_53 : decode c_C_listen 53 = .ok (.aload_n 0, 1) := by decide +kernel
theorem d_C_listen_54 : decode c_C_listen 54 = .ok (.aload_n 3, 1) := by decide +kernel
theorem d_C_listen_55 : decode c_C_listen 55 = .ok (.invokevirtual 157, 3) := by decide +kernel
theorem d_C_listen_58 : decode c_C_listen 58 = .ok (.aload_n 0, 1) := by decide +kernel
theorem d_C_listen_59 : decode c_C_listen 59 = .ok (.aload 4, 2) := by decide +kernel
theorem d_C_listen_61 : decode c_C_listen 61 = .ok (.invokevirtual 157, 3) := by decide +kernel
theorem d_C_listen_64 : decode c_C_listen 64 = .ok (.iadd, 1) := by decide +kernel
theorem d_C_listen_65 : decode c_C_listen 65 = .ok (.ireturn, 1) := by decide +kernel
set_option maxRecDepth 20000 in
set_option maxHeartbeats 4000000 in
theorem m_C_listen {E : kx_E} {w : va_W} {n : Nat} {ad : Nat → Nat} {pe bi : Nat → Option Nat} {T : LVS} (hC : Cls E w n ad T.1 T.2.1 T.2.2 pe bi) (hp : peOk n pe) {c : Nat} (hc : c < n) (hI : InvS n T.2.2) (losses : Int32) : kx_S E Y_C_listen [.ref (ad (carB c)), .int losses, .ref (ad 3)] w (fun o w1 => CT E w n ad pe bi (lisT pe losses c T) (some (.int (nI (lisN pe T.2.2 losses c)))) o w1) := by
  refine kx_go (by decide) rfl rfl (Nat.le_of_ble_eq_true rfl) (kx_cc rfl (kx_cc rfl (kx_cc rfl kx_c0))) (fun z => ?_)
  have hO : kx_off w w clsN := kx_off.rf
  unfold lisT lisN
  obtain ⟨o0, hq0⟩ : ∃ o, incQ pe T.2.2 losses (carE c 0) = o := ⟨_, rfl⟩
  obtain ⟨o1, hq1⟩ : ∃ o, incQ pe T.2.2 losses (carE c 1) = o := ⟨_, rfl⟩
  rw [hq0, hq1]
  have ho0 : ∀ q, o0 = some q → endN n q := by rw [← hq0]; exact incQ_N hp (carE_N hc)
  have ho1 : ∀ q, o1 = some q → endN n q := by rw [← hq1]; exact incQ_N hp (carE_N hc)
  have e0 : endN n (carE c 0) := carE_N hc
  have e1 : endN n (carE c 1) := carE_N hc
  have I1 := lookT_inv hI e0 ho0
  have I2 := lookT_inv I1 e1 ho1
  refine kx_aload_n d_C_listen_0 rfl (by first | rfl | exact kx_rf _) ?_
  refine kx_get _ d_C_listen_1 f_C_20 (hC.car c hc) (by rfl) ?_
  refine kx_iconst (nI 0) d_C_listen_4 (by decide) ?_
  refine cA_end d_C_listen_5 hC hc (by first | decide | omega) ?_
  refine kx_iload_n d_C_listen_6 rfl ?_
  refine kx_callV (as := [.int losses]) (rest := []) d_C_listen_7 v_C_142 rfl (hC.endAt (carE_N hc)) rfl rfl (by decide) (by decide) (by decide) (by decide) (by decide) rfl (m_N_incoming hC hp (carE_N (i := 0) hc)) (fun X w1 h => by cases h.1) (fun v w1 hq9 => ?_)
  obtain ⟨hv, hw9⟩ := hq9
  cases hv
  subst hw9
  rw [incE_Q, hq0]
  refine kx_stk (st1 := [va_rf (o0.map (fun q => ad (q + 5)))]) rfl ?_
  refine kx_astore_n d_C_listen_10 (by decide) (by first | rfl | exact kx_rf _) ?_
  refine kx_aload_n d_C_listen_11 rfl (by first | rfl | exact kx_rf _) ?_
  refine kx_get _ d_C_listen_12 f_C_20 (hC.car c hc) (by rfl) ?_
  refine kx_iconst (nI 1) d_C_listen_15 (by decide) ?_
  refine cA_end d_C_listen_16 hC hc (by first | decide | omega) ?_
  refine kx_iload_n d_C_listen_17 rfl ?_
  refine kx_callV (as := [.int losses]) (rest := []) d_C_listen_18 v_C_142 rfl (hC.endAt (carE_N hc)) rfl rfl (by decide) (by decide) (by decide) (by decide) (by decide) rfl (m_N_incoming hC hp (carE_N (i := 1) hc)) (fun X w1 h => by cases h.1) (fun v w1 hq9 => ?_)
  obtain ⟨hv, hw9⟩ := hq9
  cases hv
  subst hw9
  rw [incE_Q, hq1]
  refine kx_stk (st1 := [va_rf (o1.map (fun q => ad (q + 5)))]) rfl ?_
  refine kx_astore d_C_listen_21 (by decide) (by first | rfl | exact kx_rf _) ?_
  refine kx_aload_n d_C_listen_23 rfl (by first | rfl | exact kx_rf _) ?_
  refine kx_get _ d_C_listen_24 f_C_20 (hC.car c hc) (by rfl) ?_
  refine kx_iconst (nI 0) d_C_listen_27 (by decide) ?_
  refine cA_end d_C_listen_28 hC hc (by first | decide | omega) ?_
  refine kx_aload_n d_C_listen_29 rfl (by first | rfl | exact kx_rf _) ?_
  refine kx_callV (as := [va_rf (o0.map (fun q => ad (q + 5)))]) (rest := []) d_C_listen_30 v_C_146 rfl (hC.endAt e0) rfl rfl (by decide) (by decide) (Nat.le_of_ble_eq_true rfl) (by decide) (by decide) rfl (m_N_lookT hC e0 ho0 hI) (fun X w1 h => by cases h.1) (fun v w hq9 => ?_)
  obtain ⟨hv, hC, hO9⟩ := hq9
  cases hv
  have hO := hO.tr hO9 (fun _ h => h) (fun _ h => h)
  refine kx_stk (st1 := []) rfl ?_
  refine kx_aload_n d_C_listen_33 rfl (by first | rfl | exact kx_rf _) ?_
  refine kx_get _ d_C_listen_34 f_C_20 (hC.car c hc) (by rfl) ?_
  refine kx_iconst (nI 1) d_C_listen_37 (by decide) ?_
  refine cA_end d_C_listen_38 hC hc (by first | decide | omega) ?_
  refine kx_aload d_C_listen_39 rfl (by first | rfl | exact kx_rf _) ?_
  refine kx_callV (as := [va_rf (o1.map (fun q => ad (q + 5)))]) (rest := []) d_C_listen_41 v_C_146 rfl (hC.endAt e1) rfl rfl (by decide) (by decide) (Nat.le_of_ble_eq_true rfl) (by decide) (by decide) rfl (m_N_lookT hC e1 ho1 I1) (fun X w1 h => by cases h.1) (fun v w hq9 => ?_)
  obtain ⟨hv, hC, hO9⟩ := hq9
  cases hv
  have hO := hO.tr hO9 (fun _ h => h) (fun _ h => h)
  refine kx_stk (st1 := []) rfl ?_
  have I3 := renT_inv (c := c) I2 (hC.row _ (rowN_e1 e0)).2.2.1
  refine kx_aload_n d_C_listen_44 rfl (by first | rfl | exact kx_rf _) ?_
  refine kx_aload_n d_C_listen_45 rfl (by first | rfl | exact kx_rf _) ?_
  refine kx_callV (as := [.ref (ad 3)]) (rest := []) d_C_listen_46 v_C_150 rfl (hC.car c hc) rfl rfl (by decide) (by decide) (Nat.le_of_ble_eq_true rfl) (by decide) (by decide) rfl (m_C_renewDirectory hC hc I2) (fun X w1 h => by cases h.1) (fun v w hq9 => ?_)
  obtain ⟨hv, hC, hO9⟩ := hq9
  cases hv
  have hO := hO.tr hO9 (fun _ h => h) (fun _ h => h)
  refine kx_stk (st1 := []) rfl ?_
  refine kx_aload_n d_C_listen_49 rfl (by first | rfl | exact kx_rf _) ?_
  refine kx_callV (as := []) (rest := []) d_C_listen_50 v_C_154 rfl (hC.car c hc) rfl rfl (by decide) (by decide) (Nat.le_of_ble_eq_true rfl) (by decide) (by decide) rfl (m_C_growOlder hC hc) (fun X w1 h => by cases h.1) (fun v w hq9 => ?_)
  obtain ⟨hv, hC, hO9⟩ := hq9
  cases hv
  have hO := hO.tr hO9 (fun _ h => h) (fun _ h => h)
  refine kx_stk (st1 := []) rfl ?_
  have hC : Cls E w n ad (growT c (renT c (lookT (carE c 1) o1 (lookT (carE c 0) o0 T)))).1 (growT c (renT c (lookT (carE c 1) o1 (lookT (carE c 0) o0 T)))).2.1 (growT c (renT c (lookT (carE c 1) o1 (lookT (carE c 0) o0 T)))).2.2 pe bi := hC
  refine kx_aload_n d_C_listen_53 rfl (by first | rfl | exact kx_rf _) ?_
  refine kx_aload_n d_C_listen_54 rfl (by first | rfl | exact kx_rf _) ?_
  refine kx_callV (as := [va_rf (o0.map (fun q => ad (q + 5)))]) (rest := []) d_C_listen_55 v_C_157 rfl (hC.car c hc) rfl rfl (by decide) (by decide) (Nat.le_of_ble_eq_true rfl) (by decide) (by decide) rfl (m_C_heedT hC hc ho0 I3) (fun X w1 h => by cases h.1) (fun v w hq9 => ?_)
  obtain ⟨hv, hC, hO9⟩ := hq9
  cases hv
  have hO := hO.tr hO9 (fun _ h => h) (fun _ h => h)
  refine kx_stk (st1 := [.int (nI (oneI o0))]) rfl ?_
  have I4 := heeT_inv (c := c) (o := o0) (T := growT c (renT c (lookT (carE c 1) o1 (lookT (carE c 0) o0 T)))) I3
  refine kx_aload_n d_C_listen_58 rfl (by first | rfl | exact kx_rf _) ?_
  refine kx_aload d_C_listen_59 rfl (by first | rfl | exact kx_rf _) ?_
  refine kx_callV (as := [va_rf (o1.map (fun q => ad (q + 5)))]) (rest := [.int (nI (oneI o0))]) d_C_listen_61 v_C_157 rfl (hC.car c hc) rfl rfl (by decide) (by decide) (Nat.le_of_ble_eq_true rfl) (by decide) (by decide) rfl (m_C_heedT hC hc ho1 I4) (fun X w1 h => by cases h.1) (fun v w hq9 => ?_)
  obtain ⟨hv, hC, hO9⟩ := hq9
  cases hv
  have hO := hO.tr hO9 (fun _ h => h) (fun _ h => h)
  refine kx_stk (st1 := [.int (nI (oneI o1)), .int (nI (oneI o0))]) rfl ?_
  first | refine kx_iadd _ d_C_listen_64 (nI_add _ _) ?_ | refine kx_iadd _ d_C_listen_64 rfl ?_
  refine kx_iret d_C_listen_65 rfl (by decide) (by decide) ?_
  exact ⟨rfl, hC, hO⟩
def flipI (l : List Nat) (num : Nat) : Nat := if 1 ≤ num ∧ num ≤ l.length ∧ l.getD (num - 1) 0 % 2 = 1 then 1 else 0
def boolI (b : Int32) : Nat := if b = 0 then 0 else 1
theorem d_C_fact_0 : decode c_C_fact 0 = .ok (.iload_n 1, 1) := by decide +kernel
theorem d_C_fact_1 : decode c_C_fact 1 = .ok (.tableswitch 162 0 11 #[63, 68, 73, 94, 102, 107, 112, 112, 125, 125, 141, 141], 63) := by decide +kernel
theorem d_C_fact_64 : decode c_C_fact 64 = .ok (.aload_n 0, 1) := by decide +kernel
theorem d_C_fact_65 : decode c_C_fact 65 = .ok (.invokevirtual 79, 3) := by decide +kernel
theorem d_C_fact_68 : decode c_C_fact 68 = .ok (.ireturn, 1) := by decide +kernel
theorem d_C_fact_69 : decode c_C_fact 69 = .ok (.aload_n 0, 1) := by decide +kernel
theorem d_C_fact_70 : decode c_C_fact 70 = .ok (.getfield 60, 3) := by decide +kernel
theorem d_C_fact_73 : decode c_C_fact 73 = .ok (.ireturn, 1) := by decide +kernel
theorem d_C_fact_74 : decode c_C_fact 74 = .ok (.aload_n 0, 1) := by decide +kernel
theorem d_C_fact_75 : decode c_C_fact 75 = .ok (.getfield 34, 3) := by decide +kernel
theorem d_C_fact_78 : decode c_C_fact 78 = .ok (.aload_n 0, 1) := by decide +kernel
theorem d_C_fact_79 : decode c_C_fact 79 = .ok (.getfield 60, 3) := by decide +kernel
theorem d_C_fact_82 : decode c_C_fact 82 = .ok (.invokevirtual 83, 3) := by decide +kernel
theorem d_C_fact_85 : decode c_C_fact 85 = .ok (.iconst 1, 1) := by decide +kernel
theorem d_C_fact_86 : decode c_C_fact 86 = .ok (.if_icmp .ne 7, 3) := by decide +kernel
theorem d_C_fact_89 : decode c_C_fact 89 = .ok (.iconst 1, 1) := by decide +kernel
theorem d_C_fact_90 : decode c_C_fact 90 = .ok (.goto 4, 3) := by decide +kernel
theorem d_C_fact_93 : decode c_C_fact 93 = .ok (.iconst 0, 1) := by decide +kernel
theorem d_C_fact_94 : decode c_C_fact 94 = .ok (.ireturn, 1) := by decide +kernel
theorem d_C_fact_95 : decode c_C_fact 95 = .ok (.aload_n 0, 1) := by decide +kernel
theorem d_C_fact_96 : decode c_C_fact 96 = .ok (.getfield 34, 3) := by decide +kernel
theorem d_C_fact_99 : decode c_C_fact 99 = .ok (.getfield 76, 3) := by decide +kernel
theorem d_C_fact_102 : decode c_C_fact 102 = .ok (.ireturn, 1) := by decide +kernel
theorem d_C_fact_103 : decode c_C_fact 103 = .ok (.aload_n 0, 1) := by decide +kernel
theorem d_C_fact_104 : decode c_C_fact 104 = .ok (.getfield 66, 3) := by decide +kernel
theorem d_C_fact_107 : decode c_C_fact 107 = .ok (.ireturn, 1) := by decide +kernel
theorem d_C_fact_108 : decode c_C_fact 108 = .ok (.aload_n 0, 1) := by decide +kernel
theorem d_C_fact_109 : decode c_C_fact 109 = .ok (.getfield 63, 3) := by decide +kernel
theorem d_C_fact_112 : decode c_C_fact 112 = .ok (.ireturn, 1) := by decide +kernel
theorem d_C_fact_113 : decode c_C_fact 113 = .ok (.aload_n 0, 1) := by decide +kernel
theorem d_C_fact_114 : decode c_C_fact 114 = .ok (.getfield 20, 3) := by decide +kernel
theorem d_C_fact_117 : decode c_C_fact 117 = .ok (.iload_n 1, 1) := by decide +kernel
theorem d_C_fact_118 : decode c_C_fact 118 = .ok (.bipush 6, 2) := by decide +kernel
theorem d_C_fact_120 : decode c_C_fact 120 = .ok (.isub, 1) := by decide +kernel
theorem d_C_fact_121 : decode c_C_fact 121 = .ok (.aaload, 1) := by decide +kernel
theorem d_C_fact_122 : decode c_C_fact 122 = .ok (.getfield 87, 3) := by decide +kernel
theorem d_C_fact_125 : decode c_C_fact 125 = .ok (.ireturn, 1) := by decide +kernel
theorem d_C_fact_126 : decode c_C_fact 126 = .ok (.aload_n 0, 1) := by decide +kernel
theorem d_C_fact_127 : decode c_C_fact 127 = .ok (.getfield 20, 3) := by decide +kernel
theorem d_C_fact_130 : decode c_C_fact 130 = .ok (.iload_n 1, 1) := by decide +kernel
theorem d_C_fact_131 : decode c_C_fact 131 = .ok (.bipush 8, 2) := by decide +kernel
theorem d_C_fact_133 : decode c_C_fact 133 = .ok (.isub, 1) := by decide +kernel
theorem d_C_fact_134 : decode c_C_fact 134 = .ok (.aaload, 1) := by decide +kernel
theorem d_C_fact_135 : decode c_C_fact 135 = .ok (.getfield 90, 3) := by decide +kernel
theorem d_C_fact_138 : decode c_C_fact 138 = .ok (.getfield 76, 3) := by decide +kernel
theorem d_C_fact_141 : decode c_C_fact 141 = .ok (.ireturn, 1) := by decide +kernel
theorem d_C_fact_142 : decode c_C_fact 142 = .ok (.aload_n 0, 1) := by decide +kernel
theorem d_C_fact_143 : decode c_C_fact 143 = .ok (.getfield 20, 3) := by decide +kernel
theorem d_C_fact_146 : decode c_C_fact 146 = .ok (.iload_n 1, 1) := by decide +kernel
theorem d_C_fact_147 : decode c_C_fact 147 = .ok (.bipush 10, 2) := by decide +kernel
theorem d_C_fact_149 : decode c_C_fact 149 = .ok (.isub, 1) := by decide +kernel
theorem d_C_fact_150 : decode c_C_fact 150 = .ok (.aaload, 1) := by decide +kernel
theorem d_C_fact_151 : decode c_C_fact 151 = .ok (.getfield 93, 3) := by decide +kernel
theorem d_C_fact_154 : decode c_C_fact 154 = .ok (.ifCond .eq 7, 3) := by decide +kernel
theorem d_C_fact_157 : decode c_C_fact 157 = .ok (.iconst 1, 1) := by decide +kernel
theorem d_C_fact_158 : decode c_C_fact 158 = .ok (.goto 4, 3) := by decide +kernel
theorem d_C_fact_161 : decode c_C_fact 161 = .ok (.iconst 0, 1) := by decide +kernel
theorem d_C_fact_162 : decode c_C_fact 162 = .ok (.ireturn, 1) := by decide +kernel
theorem d_C_fact_163 : decode c_C_fact 163 = .ok (.iconst (-1), 1) := by decide +kernel
theorem d_C_fact_164 : decode c_C_fact 164 = .ok (.ireturn, 1) := by decide +kernel
set_option maxRecDepth 20000 in
set_option maxHeartbeats 4000000 in
theorem m_C_fact_0 {E : kx_E} {w : va_W} {n : Nat} {ad : Nat → Nat} {pe bi : Nat → Option Nat} {T : LVS} (hC : Cls E w n ad T.1 T.2.1 T.2.2 pe bi) {c : Nat} (hc : c < n) (hI : InvS n T.2.2) : kx_S E Y_C_fact [.ref (ad (carB c)), .int (nI 0)] w (kx_Qi w (nI (staI T.1 c (clN (T.2.2 (carE c 0) 8)) (clN (T.2.2 (carE c 1) 8))))) := by
  refine kx_go (by decide) rfl rfl (Nat.le_of_ble_eq_true rfl) (kx_cc rfl (kx_cc rfl kx_c0)) (fun z => ?_)
  have hO : kx_off w w clsN := kx_off.rf
  obtain ⟨s0, h40, hs0⟩ := hI.sil (carE_N (i := 0) hc)
  obtain ⟨s1, h41, hs1⟩ := hI.sil (carE_N (i := 1) hc)
  rw [hs0, hs1, clN_nI (by omega), clN_nI (by omega)]
  refine kx_iload_n d_C_fact_0 rfl ?_
  refine kx_tabIn (off := 63) 64 d_C_fact_1 (by decide) (by decide) (by decide) (by decide) ?_
  refine kx_aload_n d_C_fact_64 rfl (by first | rfl | exact kx_rf _) ?_
  refine kx_callV (as := []) (rest := []) d_C_fact_65 v_C_79 rfl (hC.car c hc) rfl rfl (by decide) (by decide) (by decide) (by decide) (by decide) rfl (m_C_state hC hc hs0 hs1 h40 h41) (fun X w1 h => by cases h.1) (fun v w1 hq9 => ?_)
  obtain ⟨hv, hw9⟩ := hq9
  cases hv
  subst hw9
  refine kx_stk (st1 := [.int (nI (staI T.1 c s0 s1))]) rfl ?_
  refine kx_iret d_C_fact_68 rfl (by decide) (by decide) ?_
  exact ⟨rfl, rfl⟩
set_option maxRecDepth 20000 in
set_option maxHeartbeats 4000000 in
theorem m_C_fact_1 {E : kx_E} {w : va_W} {n : Nat} {ad : Nat → Nat} {pe bi : Nat → Option Nat} {T : LVS} (hC : Cls E w n ad T.1 T.2.1 T.2.2 pe bi) {c : Nat} (hc : c < n) (hI : InvS n T.2.2) : kx_S E Y_C_fact [.ref (ad (carB c)), .int (nI 1)] w (kx_Qi w (T.2.2 (carB c) 7)) := by
  refine kx_go (by decide) rfl rfl (Nat.le_of_ble_eq_true rfl) (kx_cc rfl (kx_cc rfl kx_c0)) (fun z => ?_)
  have hO : kx_off w w clsN := kx_off.rf
  refine kx_iload_n d_C_fact_0 rfl ?_
  refine kx_tabIn (off := 68) 69 d_C_fact_1 (by decide) (by decide) (by decide) (by decide) ?_
  refine kx_aload_n d_C_fact_69 rfl (by first | rfl | exact kx_rf _) ?_
  refine kx_get _ d_C_fact_70 f_C_60 (hC.car c hc) (by rfl) ?_
  refine kx_iret d_C_fact_73 rfl (by decide) (by decide) ?_
  exact ⟨rfl, rfl⟩
set_option maxRecDepth 20000 in
set_option maxHeartbeats 4000000 in
theorem m_C_fact_2 {E : kx_E} {w : va_W} {n : Nat} {ad : Nat → Nat} {pe bi : Nat → Option Nat} {T : LVS} (hC : Cls E w n ad T.1 T.2.1 T.2.2 pe bi) {c : Nat} (hc : c < n) (hI : InvS n T.2.2) : kx_S E Y_C_fact [.ref (ad (carB c)), .int (nI 2)] w (kx_Qi w (nI (flipI (T.1 (carB c + 26)) (clN (T.2.2 (carB c) 7))))) := by
  refine kx_go (by decide) rfl rfl (Nat.le_of_ble_eq_true rfl) (kx_cc rfl (kx_cc rfl kx_c0)) (fun z => ?_)
  have hO : kx_off w w clsN := kx_off.rf
  obtain ⟨num, h24, hn⟩ := hI.num hc
  rw [hn, clN_nI (by omega)]
  have hl := (hC.row _ (rowN_26 hc)).2.2.1
  have kno : (num < 1 ∨ (T.1 (carB c + 26)).length < num) → flipI (T.1 (carB c + 26)) num = 0 := by intro h; unfold flipI; rw [if_neg (fun q => by omega)]
  refine kx_iload_n d_C_fact_0 rfl ?_
  refine kx_tabIn (off := 73) 74 d_C_fact_1 (by decide) (by decide) (by decide) (by decide) ?_
  refine kx_aload_n d_C_fact_74 rfl (by first | rfl | exact kx_rf _) ?_
  refine kx_get _ d_C_fact_75 f_C_34 (hC.car c hc) (by rfl) ?_
  refine kx_aload_n d_C_fact_78 rfl (by first | rfl | exact kx_rf _) ?_
  refine kx_get _ d_C_fact_79 f_C_60 (hC.car c hc) (by rfl) ?_
  rw [hn]
  by_cases hq : num < 1 ∨ (T.1 (carB c + 26)).length < num
  · refine cR_endAt_no d_C_fact_82 v_C_83 hC (rowN_26 hc) (by rcases hq with h | h; exact Or.inl ((nI_ltI (by omega) (by decide)).mpr h); exact Or.inr ((nI_ltI (by omega) (by omega)).mpr h)) (by decide) (Nat.le_of_ble_eq_true rfl) (by decide) (by decide) ?_
    refine kx_iconst (nI 1) d_C_fact_85 (by decide) ?_
    refine kx_icmp_ne 93 d_C_fact_86 (by decide) ?_ ?_
    · intro h86
      refine kx_iconst (nI 0) d_C_fact_93 (by decide) ?_
      refine kx_iret d_C_fact_94 rfl (by decide) (by decide) ?_
      rw [kno hq]
      first
        | exact ⟨rfl, rfl⟩
        | exact absurd h86 (by decide)
    · intro h86
      refine kx_iconst (nI 1) d_C_fact_89 (by decide) ?_
      refine kx_goto 94 d_C_fact_90 (by decide) ?_
      refine kx_iret d_C_fact_94 rfl (by decide) (by decide) ?_
      rw [kno hq]
      first
        | exact ⟨rfl, rfl⟩
        | exact absurd h86 (by decide)
  · obtain ⟨j, rfl⟩ : ∃ j, num = j + 1 := ⟨num - 1, by omega⟩
    have hm := Nat.mod_lt ((T.1 (carB c + 26)).getD j 0) (show 2 > 0 by decide)
    refine cR_endAt d_C_fact_82 v_C_83 hC (rowN_26 hc) (by omega) (by decide) (Nat.le_of_ble_eq_true rfl) (by decide) (by decide) ?_
    refine kx_iconst (nI 1) d_C_fact_85 (by decide) ?_
    first | refine kx_icmp_ne_n 93 d_C_fact_86 (by decide) (by omega) (by omega) ?_ ?_ | refine kx_icmp_ne 93 d_C_fact_86 (by decide) ?_ ?_
    · intro h86
      refine kx_iconst (nI 0) d_C_fact_93 (by decide) ?_
      refine kx_iret d_C_fact_94 rfl (by decide) (by decide) ?_
      unfold flipI
      rw [Nat.add_sub_cancel]
      first
        | (rw [if_pos ⟨by omega, by omega, h86⟩]; exact ⟨rfl, rfl⟩)
        | (rw [if_neg (fun q => h86 q.2.2)]; exact ⟨rfl, rfl⟩)
    · intro h86
      refine kx_iconst (nI 1) d_C_fact_89 (by decide) ?_
      refine kx_goto 94 d_C_fact_90 (by decide) ?_
      refine kx_iret d_C_fact_94 rfl (by decide) (by decide) ?_
      unfold flipI
      rw [Nat.add_sub_cancel]
      first
        | (rw [if_pos ⟨by omega, by omega, h86⟩]; exact ⟨rfl, rfl⟩)
        | (rw [if_neg (fun q => h86 q.2.2)]; exact ⟨rfl, rfl⟩)
set_option maxRecDepth 20000 in
set_option maxHeartbeats 4000000 in
theorem m_C_fact_3 {E : kx_E} {w : va_W} {n : Nat} {ad : Nat → Nat} {pe bi : Nat → Option Nat} {T : LVS} (hC : Cls E w n ad T.1 T.2.1 T.2.2 pe bi) {c : Nat} (hc : c < n) (hI : InvS n T.2.2) : kx_S E Y_C_fact [.ref (ad (carB c)), .int (nI 3)] w (kx_Qi w (nI (T.1 (carB c + 26)).length)) := by
  refine kx_go (by decide) rfl rfl (Nat.le_of_ble_eq_true rfl) (kx_cc rfl (kx_cc rfl kx_c0)) (fun z => ?_)
  have hO : kx_off w w clsN := kx_off.rf
  refine kx_iload_n d_C_fact_0 rfl ?_
  refine kx_tabIn (off := 94) 95 d_C_fact_1 (by decide) (by decide) (by decide) (by decide) ?_
  refine kx_aload_n d_C_fact_95 rfl (by first | rfl | exact kx_rf _) ?_
  refine kx_get _ d_C_fact_96 f_C_34 (hC.car c hc) (by rfl) ?_
  refine kx_get _ d_C_fact_99 f_C_76 (hC.rowObj (rowN_26 hc)) (by rfl) ?_
  refine kx_iret d_C_fact_102 rfl (by decide) (by decide) ?_
  exact ⟨rfl, rfl⟩
set_option maxRecDepth 20000 in
set_option maxHeartbeats 4000000 in
theorem m_C_fact_4 {E : kx_E} {w : va_W} {n : Nat} {ad : Nat → Nat} {pe bi : Nat → Option Nat} {T : LVS} (hC : Cls E w n ad T.1 T.2.1 T.2.2 pe bi) {c : Nat} (hc : c < n) (hI : InvS n T.2.2) : kx_S E Y_C_fact [.ref (ad (carB c)), .int (nI 4)] w (kx_Qi w (T.2.2 (carB c) 10)) := by
  refine kx_go (by decide) rfl rfl (Nat.le_of_ble_eq_true rfl) (kx_cc rfl (kx_cc rfl kx_c0)) (fun z => ?_)
  have hO : kx_off w w clsN := kx_off.rf
  refine kx_iload_n d_C_fact_0 rfl ?_
  refine kx_tabIn (off := 102) 103 d_C_fact_1 (by decide) (by decide) (by decide) (by decide) ?_
  refine kx_aload_n d_C_fact_103 rfl (by first | rfl | exact kx_rf _) ?_
  refine kx_get _ d_C_fact_104 f_C_66 (hC.car c hc) (by rfl) ?_
  refine kx_iret d_C_fact_107 rfl (by decide) (by decide) ?_
  exact ⟨rfl, rfl⟩
set_option maxRecDepth 20000 in
set_option maxHeartbeats 4000000 in
theorem m_C_fact_5 {E : kx_E} {w : va_W} {n : Nat} {ad : Nat → Nat} {pe bi : Nat → Option Nat} {T : LVS} (hC : Cls E w n ad T.1 T.2.1 T.2.2 pe bi) {c : Nat} (hc : c < n) (hI : InvS n T.2.2) : kx_S E Y_C_fact [.ref (ad (carB c)), .int (nI 5)] w (kx_Qi w (T.2.2 (carB c) 9)) := by
  refine kx_go (by decide) rfl rfl (Nat.le_of_ble_eq_true rfl) (kx_cc rfl (kx_cc rfl kx_c0)) (fun z => ?_)
  have hO : kx_off w w clsN := kx_off.rf
  refine kx_iload_n d_C_fact_0 rfl ?_
  refine kx_tabIn (off := 107) 108 d_C_fact_1 (by decide) (by decide) (by decide) (by decide) ?_
  refine kx_aload_n d_C_fact_108 rfl (by first | rfl | exact kx_rf _) ?_
  refine kx_get _ d_C_fact_109 f_C_63 (hC.car c hc) (by rfl) ?_
  refine kx_iret d_C_fact_112 rfl (by decide) (by decide) ?_
  exact ⟨rfl, rfl⟩
set_option maxRecDepth 20000 in
set_option maxHeartbeats 4000000 in
theorem m_C_fact_6 {E : kx_E} {w : va_W} {n : Nat} {ad : Nat → Nat} {pe bi : Nat → Option Nat} {T : LVS} (hC : Cls E w n ad T.1 T.2.1 T.2.2 pe bi) {c : Nat} (hc : c < n) (hI : InvS n T.2.2) : kx_S E Y_C_fact [.ref (ad (carB c)), .int (nI 6)] w (kx_Qi w (T.2.2 (carE c 0) 8)) := by
  refine kx_go (by decide) rfl rfl (Nat.le_of_ble_eq_true rfl) (kx_cc rfl (kx_cc rfl kx_c0)) (fun z => ?_)
  have hO : kx_off w w clsN := kx_off.rf
  refine kx_iload_n d_C_fact_0 rfl ?_
  refine kx_tabIn (off := 112) 113 d_C_fact_1 (by decide) (by decide) (by decide) (by decide) ?_
  refine kx_aload_n d_C_fact_113 rfl (by first | rfl | exact kx_rf _) ?_
  refine kx_get _ d_C_fact_114 f_C_20 (hC.car c hc) (by rfl) ?_
  refine kx_iload_n d_C_fact_117 rfl ?_
  refine kx_bipush (nI 6) d_C_fact_118 (by decide) ?_
  refine kx_isub (nI 0) d_C_fact_120 (by decide) ?_
  refine cA_end d_C_fact_121 hC hc (by first | decide | omega) ?_
  refine kx_get _ d_C_fact_122 f_C_87 (hC.endAt (carE_N hc)) (by rfl) ?_
  refine kx_iret d_C_fact_125 rfl (by decide) (by decide) ?_
  exact ⟨rfl, rfl⟩
set_option maxRecDepth 20000 in
set_option maxHeartbeats 4000000 in
theorem m_C_fact_7 {E : kx_E} {w : va_W} {n : Nat} {ad : Nat → Nat} {pe bi : Nat → Option Nat} {T : LVS} (hC : Cls E w n ad T.1 T.2.1 T.2.2 pe bi) {c : Nat} (hc : c < n) (hI : InvS n T.2.2) : kx_S E Y_C_fact [.ref (ad (carB c)), .int (nI 7)] w (kx_Qi w (T.2.2 (carE c 1) 8)) := by
  refine kx_go (by decide) rfl rfl (Nat.le_of_ble_eq_true rfl) (kx_cc rfl (kx_cc rfl kx_c0)) (fun z => ?_)
  have hO : kx_off w w clsN := kx_off.rf
  refine kx_iload_n d_C_fact_0 rfl ?_
  refine kx_tabIn (off := 112) 113 d_C_fact_1 (by decide) (by decide) (by decide) (by decide) ?_
  refine kx_aload_n d_C_fact_113 rfl (by first | rfl | exact kx_rf _) ?_
  refine kx_get _ d_C_fact_114 f_C_20 (hC.car c hc) (by rfl) ?_
  refine kx_iload_n d_C_fact_117 rfl ?_
  refine kx_bipush (nI 6) d_C_fact_118 (by decide) ?_
  refine kx_isub (nI 1) d_C_fact_120 (by decide) ?_
  refine cA_end d_C_fact_121 hC hc (by first | decide | omega) ?_
  refine kx_get _ d_C_fact_122 f_C_87 (hC.endAt (carE_N hc)) (by rfl) ?_
  refine kx_iret d_C_fact_125 rfl (by decide) (by decide) ?_
  exact ⟨rfl, rfl⟩
set_option maxRecDepth 20000 in
set_option maxHeartbeats 4000000 in
theorem m_C_fact_8 {E : kx_E} {w : va_W} {n : Nat} {ad : Nat → Nat} {pe bi : Nat → Option Nat} {T : LVS} (hC : Cls E w n ad T.1 T.2.1 T.2.2 pe bi) {c : Nat} (hc : c < n) (hI : InvS n T.2.2) : kx_S E Y_C_fact [.ref (ad (carB c)), .int (nI 8)] w (kx_Qi w (nI (T.1 (carE c 0 + 1)).length)) := by
  refine kx_go (by decide) rfl rfl (Nat.le_of_ble_eq_true rfl) (kx_cc rfl (kx_cc rfl kx_c0)) (fun z => ?_)
  have hO : kx_off w w clsN := kx_off.rf
  refine kx_iload_n d_C_fact_0 rfl ?_
  refine kx_tabIn (off := 125) 126 d_C_fact_1 (by decide) (by decide) (by decide) (by decide) ?_
  refine kx_aload_n d_C_fact_126 rfl (by first | rfl | exact kx_rf _) ?_
  refine kx_get _ d_C_fact_127 f_C_20 (hC.car c hc) (by rfl) ?_
  refine kx_iload_n d_C_fact_130 rfl ?_
  refine kx_bipush (nI 8) d_C_fact_131 (by decide) ?_
  refine kx_isub (nI 0) d_C_fact_133 (by decide) ?_
  refine cA_end d_C_fact_134 hC hc (by first | decide | omega) ?_
  refine kx_get _ d_C_fact_135 f_C_90 (hC.endAt (carE_N hc)) (by rfl) ?_
  refine kx_get _ d_C_fact_138 f_C_76 (hC.rowObj (rowN_e1 (carE_N hc))) (by rfl) ?_
  refine kx_iret d_C_fact_141 rfl (by decide) (by decide) ?_
  exact ⟨rfl, rfl⟩
set_option maxRecDepth 20000 in
set_option maxHeartbeats 4000000 in
theorem m_C_fact_9 {E : kx_E} {w : va_W} {n : Nat} {ad : Nat → Nat} {pe bi : Nat → Option Nat} {T : LVS} (hC : Cls E w n ad T.1 T.2.1 T.2.2 pe bi) {c : Nat} (hc : c < n) (hI : InvS n T.2.2) : kx_S E Y_C_fact [.ref (ad (carB c)), .int (nI 9)] w (kx_Qi w (nI (T.1 (carE c 1 + 1)).length)) := by
  refine kx_go (by decide) rfl rfl (Nat.le_of_ble_eq_true rfl) (kx_cc rfl (kx_cc rfl kx_c0)) (fun z => ?_)
  have hO : kx_off w w clsN := kx_off.rf
  refine kx_iload_n d_C_fact_0 rfl ?_
  refine kx_tabIn (off := 125) 126 d_C_fact_1 (by decide) (by decide) (by decide) (by decide) ?_
  refine kx_aload_n d_C_fact_126 rfl (by first | rfl | exact kx_rf _) ?_
  refine kx_get _ d_C_fact_127 f_C_20 (hC.car c hc) (by rfl) ?_
  refine kx_iload_n d_C_fact_130 rfl ?_
  refine kx_bipush (nI 8) d_C_fact_131 (by decide) ?_
  refine kx_isub (nI 1) d_C_fact_133 (by decide) ?_
  refine cA_end d_C_fact_134 hC hc (by first | decide | omega) ?_
  refine kx_get _ d_C_fact_135 f_C_90 (hC.endAt (carE_N hc)) (by rfl) ?_
  refine kx_get _ d_C_fact_138 f_C_76 (hC.rowObj (rowN_e1 (carE_N hc))) (by rfl) ?_
  refine kx_iret d_C_fact_141 rfl (by decide) (by decide) ?_
  exact ⟨rfl, rfl⟩
set_option maxRecDepth 20000 in
set_option maxHeartbeats 4000000 in
theorem m_C_fact_10 {E : kx_E} {w : va_W} {n : Nat} {ad : Nat → Nat} {pe bi : Nat → Option Nat} {T : LVS} (hC : Cls E w n ad T.1 T.2.1 T.2.2 pe bi) {c : Nat} (hc : c < n) (hI : InvS n T.2.2) : kx_S E Y_C_fact [.ref (ad (carB c)), .int (nI 10)] w (kx_Qi w (nI (boolI (T.2.2 (carE c 0) 7)))) := by
  refine kx_go (by decide) rfl rfl (Nat.le_of_ble_eq_true rfl) (kx_cc rfl (kx_cc rfl kx_c0)) (fun z => ?_)
  have hO : kx_off w w clsN := kx_off.rf
  refine kx_iload_n d_C_fact_0 rfl ?_
  refine kx_tabIn (off := 141) 142 d_C_fact_1 (by decide) (by decide) (by decide) (by decide) ?_
  refine kx_aload_n d_C_fact_142 rfl (by first | rfl | exact kx_rf _) ?_
  refine kx_get _ d_C_fact_143 f_C_20 (hC.car c hc) (by rfl) ?_
  refine kx_iload_n d_C_fact_146 rfl ?_
  refine kx_bipush (nI 10) d_C_fact_147 (by decide) ?_
  refine kx_isub (nI 0) d_C_fact_149 (by decide) ?_
  refine cA_end d_C_fact_150 hC hc (by first | decide | omega) ?_
  refine kx_get _ d_C_fact_151 f_C_93 (hC.endAt (carE_N hc)) (by rfl) ?_
  refine kx_if_eq 161 d_C_fact_154 (by decide) ?_ ?_
  · intro h154
    refine kx_iconst (nI 0) d_C_fact_161 (by decide) ?_
    refine kx_iret d_C_fact_162 rfl (by decide) (by decide) ?_
    unfold boolI
    first
      | (rw [if_pos h154]; exact ⟨rfl, rfl⟩)
      | (rw [if_neg h154]; exact ⟨rfl, rfl⟩)
  · intro h154
    refine kx_iconst (nI 1) d_C_fact_157 (by decide) ?_
    refine kx_goto 162 d_C_fact_158 (by decide) ?_
    refine kx_iret d_C_fact_162 rfl (by decide) (by decide) ?_
    unfold boolI
    first
      | (rw [if_pos h154]; exact ⟨rfl, rfl⟩)
      | (rw [if_neg h154]; exact ⟨rfl, rfl⟩)
set_option maxRecDepth 20000 in
set_option maxHeartbeats 4000000 in
theorem m_C_fact_11 {E : kx_E} {w : va_W} {n : Nat} {ad : Nat → Nat} {pe bi : Nat → Option Nat} {T : LVS} (hC : Cls E w n ad T.1 T.2.1 T.2.2 pe bi) {c : Nat} (hc : c < n) (hI : InvS n T.2.2) : kx_S E Y_C_fact [.ref (ad (carB c)), .int (nI 11)] w (kx_Qi w (nI (boolI (T.2.2 (carE c 1) 7)))) := by
  refine kx_go (by decide) rfl rfl (Nat.le_of_ble_eq_true rfl) (kx_cc rfl (kx_cc rfl kx_c0)) (fun z => ?_)
  have hO : kx_off w w clsN := kx_off.rf
  refine kx_iload_n d_C_fact_0 rfl ?_
  refine kx_tabIn (off := 141) 142 d_C_fact_1 (by decide) (by decide) (by decide) (by decide) ?_
  refine kx_aload_n d_C_fact_142 rfl (by first | rfl | exact kx_rf _) ?_
  refine kx_get _ d_C_fact_143 f_C_20 (hC.car c hc) (by rfl) ?_
  refine kx_iload_n d_C_fact_146 rfl ?_
  refine kx_bipush (nI 10) d_C_fact_147 (by decide) ?_
  refine kx_isub (nI 1) d_C_fact_149 (by decide) ?_
  refine cA_end d_C_fact_150 hC hc (by first | decide | omega) ?_
  refine kx_get _ d_C_fact_151 f_C_93 (hC.endAt (carE_N hc)) (by rfl) ?_
  refine kx_if_eq 161 d_C_fact_154 (by decide) ?_ ?_
  · intro h154
    refine kx_iconst (nI 0) d_C_fact_161 (by decide) ?_
    refine kx_iret d_C_fact_162 rfl (by decide) (by decide) ?_
    unfold boolI
    first
      | (rw [if_pos h154]; exact ⟨rfl, rfl⟩)
      | (rw [if_neg h154]; exact ⟨rfl, rfl⟩)
  · intro h154
    refine kx_iconst (nI 1) d_C_fact_157 (by decide) ?_
    refine kx_goto 162 d_C_fact_158 (by decide) ?_
    refine kx_iret d_C_fact_162 rfl (by decide) (by decide) ?_
    unfold boolI
    first
      | (rw [if_pos h154]; exact ⟨rfl, rfl⟩)
      | (rw [if_neg h154]; exact ⟨rfl, rfl⟩)
