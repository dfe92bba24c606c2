/-! ConsistBus: a round, rounds -/
abbrev kx_iae : String := "java/lang/IllegalArgumentException"
abbrev kx_ise : String := "java/lang/IllegalStateException"
def mkC (pe : Nat → Option Nat) (c : Nat) (T : LVS) : LVS := mkE pe c 1 (mkE pe c 0 T)
def mkR (pe : Nat → Option Nat) : Nat → LVS → LVS
  | 0, T => T
  | k + 1, T => mkC pe k (mkR pe k T)
def lisR (pe : Nat → Option Nat) (losses : Int32) : Nat → LVS → LVS
  | 0, T => T
  | k + 1, T => lisT pe losses k (lisR pe losses k T)
def lisK (pe : Nat → Option Nat) (losses : Int32) : Nat → LVS → Nat
  | 0, _ => 0
  | k + 1, T => lisK pe losses k T + lisN pe (lisR pe losses k T).2.2 losses k
theorem mkE_0 (pe : Nat → Option Nat) (c i : Nat) (T : LVS) : (mkE pe c i T).2.2 0 = T.2.2 0 := by
  unfold mkE
  split
  · rfl
  · funext j
    show fillS T.2.2 (carE c i) 0 j = T.2.2 0 j
    unfold fillS
    rw [up2_n (by omega), up2_n (by omega)]
theorem carE_p (c i : Nat) : 0 ≠ carE c i := by unfold carE; split <;> simp only [carB] <;> omega
theorem lookT_0 (e : Nat) (o : Option Nat) (T : LVS) (he : 0 ≠ e) : (lookT e o T).2.2 0 = T.2.2 0 := by
  funext j
  cases o with
  | none =>
    show silS T.2.2 e _ 0 j = _
    unfold silS
    split
    · rw [up2_n he]
    · rw [up2_n he, up2_n he]
  | some q =>
    show heaS T.2.2 e _ 0 j = _
    unfold heaS
    rw [up2_n he, up2_n he]
theorem renT_0 (c : Nat) (T : LVS) : (renT c T).2.2 0 = T.2.2 0 := by
  funext j
  unfold renT
  split
  · rfl
  · dsimp only
    rw [up2_n (by simp only [carB]; omega), up2_n (by simp only [carB]; omega)]
theorem heeT_0 (c : Nat) (o : Option Nat) (T : LVS) : (heeT c o T).2.2 0 = T.2.2 0 := by
  funext j
  cases o with
  | none => rfl
  | some q =>
    show heeS T.1 T.2.2 c q 0 j = _
    unfold heeS
    split
    · rw [up2_n (by simp only [carB]; omega)]
    · rfl
theorem lisT_0 (pe : Nat → Option Nat) (losses : Int32) (c : Nat) (T : LVS) : (lisT pe losses c T).2.2 0 = T.2.2 0 := by
  unfold lisT
  rw [heeT_0, heeT_0]
  show (renT c _).2.2 0 = _
  rw [renT_0, lookT_0 _ _ _ (carE_p c 1), lookT_0 _ _ _ (carE_p c 0)]
theorem lookT_l (e : Nat) (o : Option Nat) (T : LVS) {x : Nat} (h : (T.1 x).length ≤ 24) (h3 : x ≠ e + 3) : ((lookT e o T).1 x).length ≤ 24 := by
  cases o with
  | none =>
    show (silL T.1 e _ x).length ≤ 24
    unfold silL
    split
    · exact h
    · unfold up1
      split
      · exact Nat.zero_le _
      · exact h
  | some q =>
    show (heaL T.1 e _ _ x).length ≤ 24
    unfold heaL
    rw [up1_n h3]
    unfold up1
    split
    · rw [List.length_take]; omega
    · exact h
theorem lisT_inv {n c : Nat} {pe : Nat → Option Nat} {losses : Int32} {T : LVS} (hI : InvS n T.2.2) (hp : peOk n pe) (hc : c < n) (hl : (T.1 (carE c 0 + 1)).length ≤ 24) : InvS n (lisT pe losses c T).2.2 := by
  unfold lisT
  refine heeT_inv (heeT_inv ?_)
  show InvS n (renT c _).2.2
  refine renT_inv (lookT_inv (lookT_inv hI (carE_N hc) (incQ_N hp (carE_N hc))) (carE_N hc) (incQ_N hp (carE_N hc))) ?_
  exact lookT_l _ _ _ (lookT_l _ _ _ hl (by omega)) (by unfold carE; simp only [carB]; split <;> split <;> omega)
theorem mkR_0 (pe : Nat → Option Nat) : ∀ (k : Nat) (T : LVS), (mkR pe k T).2.2 0 = T.2.2 0
  | 0, T => rfl
  | k + 1, T => by
    show (mkE pe k 1 (mkE pe k 0 (mkR pe k T))).2.2 0 = T.2.2 0
    rw [mkE_0, mkE_0, mkR_0 pe k T]
theorem lisR_0 (pe : Nat → Option Nat) (losses : Int32) : ∀ (k : Nat) (T : LVS), (lisR pe losses k T).2.2 0 = T.2.2 0
  | 0, T => rfl
  | k + 1, T => by
    show (lisT pe losses k (lisR pe losses k T)).2.2 0 = T.2.2 0
    rw [lisT_0, lisR_0 pe losses k T]
theorem mkR_inv {n : Nat} {pe : Nat → Option Nat} {T : LVS} (hI : InvS n T.2.2) : ∀ k, k ≤ n → InvS n (mkR pe k T).2.2
  | 0, _ => hI
  | k + 1, h => mkE_inv (mkE_inv (mkR_inv hI k (by omega)) (by omega)) (by omega)
theorem d_B_playRound_0 : decode c_B_playRound 0 = .ok (.iconst 0, 1) := by decide +kernel
theorem d_B_playRound_1 : decode c_B_playRound 1 = .ok (.istore_n 2, 1) := by decide +kernel
theorem d_B_playRound_2 : decode c_B_playRound 2 = .ok (.iload_n 2, 1) := by decide +kernel
theorem d_B_playRound_3 : decode c_B_playRound 3 = .ok (.aload_n 0, 1) := by decide +kernel
theorem d_B_playRound_4 : decode c_B_playRound 4 = .ok (.getfield 37, 3) := by decide +kernel
theorem d_B_playRound_7 : decode c_B_playRound 7 = .ok (.if_icmp .ge 18, 3) := by decide +kernel
theorem d_B_playRound_10 : decode c_B_playRound 10 = .ok (.aload_n 0, 1) := by decide +kernel
theorem d_B_playRound_11 : decode c_B_playRound 11 = .ok (.getfield 11, 3) := by decide +kernel
theorem d_B_playRound_14 : decode c_B_playRound 14 = .ok (.iload_n 2, 1) := by decide +kernel
theorem d_B_playRound_15 : decode c_B_playRound 15 = .ok (.aaload, 1) := by decide +kernel
theorem d_B_playRound_16 : decode c_B_playRound 16 = .ok (.invokevirtual 186, 3) := by decide +kernel
theorem d_B_playRound_19 : decode c_B_playRound 19 = .ok (.iinc 2 1, 3) := by decide +kernel
theorem d_B_playRound_22 : decode c_B_playRound 22 = .ok (.goto (-20), 3) := by decide +kernel
theorem d_B_playRound_25 : decode c_B_playRound 25 = .ok (.iconst 0, 1) := by decide +kernel
theorem d_B_playRound_26 : decode c_B_playRound 26 = .ok (.istore_n 2, 1) := by decide +kernel
theorem d_B_playRound_27 : decode c_B_playRound 27 = .ok (.iconst 0, 1) := by decide +kernel
theorem d_B_playRound_28 : decode c_B_playRound 28 = .ok (.istore_n 3, 1) := by decide +kernel
theorem d_B_playRound_29 : decode c_B_playRound 29 = .ok (.iload_n 3, 1) := by decide +kernel
theorem d_B_playRound_30 : decode c_B_playRound 30 = .ok (.aload_n 0, 1) := by decide +kernel
theorem d_B_playRound_31 : decode c_B_playRound 31 = .ok (.getfield 37, 3) := by decide +kernel
theorem d_B_playRound_34 : decode c_B_playRound 34 = .ok (.if_icmp .ge 26, 3) := by decide +kernel
theorem d_B_playRound_37 : decode c_B_playRound 37 = .ok (.iload_n 2, 1) := by decide +kernel
theorem d_B_playRound_38 : decode c_B_playRound 38 = .ok (.aload_n 0, 1) := by decide +kernel
theorem d_B_playRound_39 : decode c_B_playRound 39 = .ok (.getfield 11, 3) := by decide +kernel
theorem d_B_playRound_42 : decode c_B_playRound 42 = .ok (.iload_n 3, 1) := by decide +kernel
theorem d_B_playRound_43 : decode c_B_playRound 43 = .ok (.aaload, 1) := by decide +kernel
theorem d_B_playRound_44 : decode c_B_playRound 44 = .ok (.iload_n 1, 1) := by decide +kernel
theorem d_B_playRound_45 : decode c_B_playRound 45 = .ok (.aload_n 0, 1) := by decide +kernel
theorem d_B_playRound_46 : decode c_B_playRound 46 = .ok (.getfield 18, 3) := by decide +kernel
theorem d_B_playRound_49 : decode c_B_playRound 49 = .ok (.invokevirtual 189, 3) := by decide +kernel
theorem d_B_playRound_52 : decode c_B_playRound 52 = .ok (.iadd, 1) := by decide +kernel
theorem d_B_playRound_53 : decode c_B_playRound 53 = .ok (.istore_n 2, 1) := by decide +kernel
theorem d_B_playRound_54 : decode c_B_playRound 54 = .ok (.iinc 3 1, 3) := by decide +kernel
theorem d_B_playRound_57 : decode c_B_playRound 57 = .ok (.goto (-28), 3) := by decide +kernel
theorem d_B_playRound_60 : decode c_B_playRound 60 = .ok (.iload_n 2, 1) := by decide +kernel
theorem d_B_playRound_61 : decode c_B_playRound 61 = .ok (.ireturn, 1) := by decide +kernel
set_option maxRecDepth 20000 in
set_option maxHeartbeats 4000000 in
theorem l_B_playRound_2 {E : kx_E} {n : Nat} {ad : Nat → Nat} {w0 : va_W} {T : LVS} {pe bi : Nat → Option Nat} (hp : peOk n pe) (h24 : n ≤ 24) (hn : T.2.2 0 4 = nI n) {losses : Int32} {z : kx_Z} {Q : kx_O → va_W → Prop} (hT : InvS n T.2.2) (hQ : ∀ w, Cls E w n ad (lisR pe losses n T).1 (lisR pe losses n T).2.1 (lisR pe losses n T).2.2 pe bi → kx_off w0 w clsN → InvS n (lisR pe losses n T).2.2 → Q (.inl (some (.int (nI (lisK pe losses n T))))) w) :
    ∀ (m k : Nat) (w : va_W), m + k = n → Cls E w n ad (lisR pe losses k T).1 (lisR pe losses k T).2.1 (lisR pe losses k T).2.2 pe bi → kx_off w0 w clsN → InvS n (lisR pe losses k T).2.2 → kx_R E Y_B_playRound z 29 [(0, .ref (ad 0)), (1, .int losses), (2, .int (nI (lisK pe losses k T))), (3, .int (nI k))] [] w 0 0 Q := by
  intro m
  induction m with
  | zero =>
    intro k w hk hC hO hI
    have hk : k = n := by omega
    subst hk
    have hn9 : (lisR pe losses k T).2.2 0 4 = nI k := by rw [lisR_0]; exact hn
    refine kx_iload_n d_B_playRound_29 rfl ?_
    refine kx_aload_n d_B_playRound_30 rfl (by first | rfl | exact kx_rf _) ?_
    refine kx_get _ d_B_playRound_31 f_B_37 hC.bus (by rfl) ?_
    rw [hn9]
    first | refine kx_icmp_ge_n 60 d_B_playRound_34 (by decide) (by omega) (by omega) ?_ ?_ | refine kx_icmp_ge 60 d_B_playRound_34 (by decide) ?_ ?_
    · intro h34
      refine kx_iload_n d_B_playRound_60 rfl ?_
      refine kx_iret d_B_playRound_61 rfl (by decide) (by decide) ?_
      exact hQ w hC hO hI
    · intro h34
      exact absurd h34 (by omega)
  | succ m ih =>
    intro k w hk hC hO hI
    have hn9 : (lisR pe losses k T).2.2 0 4 = nI n := by rw [lisR_0]; exact hn
    have hkn : k < n := by omega
    have hI2 := lisT_inv (losses := losses) hI hp hkn (hC.row _ (rowN_e1 (carE_N hkn))).2.2.1
    refine kx_iload_n d_B_playRound_29 rfl ?_
    refine kx_aload_n d_B_playRound_30 rfl (by first | rfl | exact kx_rf _) ?_
    refine kx_get _ d_B_playRound_31 f_B_37 hC.bus (by rfl) ?_
    rw [hn9]
    first | refine kx_icmp_ge_n 60 d_B_playRound_34 (by decide) (by omega) (by omega) ?_ ?_ | refine kx_icmp_ge 60 d_B_playRound_34 (by decide) ?_ ?_
    · intro h34
      exact absurd h34 (by omega)
    · intro h34
      refine kx_iload_n d_B_playRound_37 rfl ?_
      refine kx_aload_n d_B_playRound_38 rfl (by first | rfl | exact kx_rf _) ?_
      refine kx_get _ d_B_playRound_39 f_B_11 hC.bus (by rfl) ?_
      refine kx_iload_n d_B_playRound_42 rfl ?_
      obtain ⟨f9, hf1, hf2⟩ := hC.cars
      refine kx_aald d_B_playRound_43 hf1 rfl (by omega) (by decide) ?_
      rw [hf2 k (by omega)]
      refine kx_stk (st1 := [.ref (ad (carB k)), .int (nI (lisK pe losses k T))]) rfl ?_
      refine kx_iload_n d_B_playRound_44 rfl ?_
      refine kx_aload_n d_B_playRound_45 rfl (by first | rfl | exact kx_rf _) ?_
      refine kx_get _ d_B_playRound_46 f_B_18 hC.bus (by rfl) ?_
      refine kx_callV (as := [.int losses, .ref (ad 3)]) (rest := [.int (nI (lisK pe losses k T))]) d_B_playRound_49 v_B_189 rfl (hC.car k hkn) rfl rfl (by decide) (by decide) (Nat.le_of_ble_eq_true rfl) (by decide) (by decide) rfl (m_C_listen hC hp hkn hI losses) (fun X w1 h => by cases h.1) (fun v w hq9 => ?_)
      obtain ⟨hv, hC, hO9⟩ := hq9
      cases hv
      have hO := hO.tr hO9 (fun _ h => h) (fun _ h => h)
      refine kx_stk (st1 := [.int (nI (lisN pe (lisR pe losses k T).2.2 losses k)), .int (nI (lisK pe losses k T))]) rfl ?_
      first | refine kx_iadd _ d_B_playRound_52 (nI_add _ _) ?_ | refine kx_iadd _ d_B_playRound_52 rfl ?_
      refine kx_istore_n d_B_playRound_53 (by decide) ?_
      refine kx_iinc _ d_B_playRound_54 rfl (by decide) (nI_1 _) ?_
      refine kx_goto 29 d_B_playRound_57 (by decide) ?_
      refine kx_loc (L1 := [(0, .ref (ad 0)), (1, .int losses), (2, .int (nI (lisK pe losses (k + 1) T))), (3, .int (nI (k + 1)))]) ⟨rfl, rfl, rfl, rfl, trivial⟩ ?_
      exact ih (k + 1) w (by omega) hC hO hI2
set_option maxRecDepth 20000 in
set_option maxHeartbeats 4000000 in
theorem l_B_playRound_1 {E : kx_E} {n : Nat} {ad : Nat → Nat} {w0 : va_W} {T : LVS} {pe bi : Nat → Option Nat} (hp : peOk n pe) (h24 : n ≤ 24) (hn : T.2.2 0 4 = nI n) {losses : Int32} {z : kx_Z} {Q : kx_O → va_W → Prop} (hT : InvS n T.2.2) (hQ : ∀ w, Cls E w n ad (mkR pe n T).1 (mkR pe n T).2.1 (mkR pe n T).2.2 pe bi → kx_off w0 w clsN → kx_R E Y_B_playRound z 25 [(0, .ref (ad 0)), (1, .int losses)] [] w 0 0 Q) :
    ∀ (m k : Nat) (w : va_W), m + k = n → Cls E w n ad (mkR pe k T).1 (mkR pe k T).2.1 (mkR pe k T).2.2 pe bi → kx_off w0 w clsN → kx_R E Y_B_playRound z 2 [(0, .ref (ad 0)), (1, .int losses), (2, .int (nI k))] [] w 0 0 Q := by
  intro m
  induction m with
  | zero =>
    intro k w hk hC hO
    have hk : k = n := by omega
    subst hk
    have hn9 : (mkR pe k T).2.2 0 4 = nI k := by rw [mkR_0]; exact hn
    refine kx_iload_n d_B_playRound_2 rfl ?_
    refine kx_aload_n d_B_playRound_3 rfl (by first | rfl | exact kx_rf _) ?_
    refine kx_get _ d_B_playRound_4 f_B_37 hC.bus (by rfl) ?_
    rw [hn9]
    first | refine kx_icmp_ge_n 25 d_B_playRound_7 (by decide) (by omega) (by omega) ?_ ?_ | refine kx_icmp_ge 25 d_B_playRound_7 (by decide) ?_ ?_
    · intro h7
      refine kx_loc (L1 := [(0, .ref (ad 0)), (1, .int losses)]) ⟨rfl, rfl, trivial⟩ ?_
      exact hQ w hC hO
    · intro h7
      exact absurd h7 (by omega)
  | succ m ih =>
    intro k w hk hC hO
    have hn9 : (mkR pe k T).2.2 0 4 = nI n := by rw [mkR_0]; exact hn
    have hkn : k < n := by omega
    have hI := mkR_inv (pe := pe) hT k (by omega)
    refine kx_iload_n d_B_playRound_2 rfl ?_
    refine kx_aload_n d_B_playRound_3 rfl (by first | rfl | exact kx_rf _) ?_
    refine kx_get _ d_B_playRound_4 f_B_37 hC.bus (by rfl) ?_
    rw [hn9]
    first | refine kx_icmp_ge_n 25 d_B_playRound_7 (by decide) (by omega) (by omega) ?_ ?_ | refine kx_icmp_ge 25 d_B_playRound_7 (by decide) ?_ ?_
    · intro h7
      exact absurd h7 (by omega)
    · intro h7
      refine kx_aload_n d_B_playRound_10 rfl (by first | rfl | exact kx_rf _) ?_
      refine kx_get _ d_B_playRound_11 f_B_11 hC.bus (by rfl) ?_
      refine kx_iload_n d_B_playRound_14 rfl ?_
      obtain ⟨f9, hf1, hf2⟩ := hC.cars
      refine kx_aald d_B_playRound_15 hf1 rfl (by omega) (by decide) ?_
      rw [hf2 k (by omega)]
      refine kx_stk (st1 := [.ref (ad (carB k))]) rfl ?_
      refine kx_callV (as := []) (rest := []) d_B_playRound_16 v_B_186 rfl (hC.car k hkn) rfl rfl (by decide) (by decide) (Nat.le_of_ble_eq_true rfl) (by decide) (by decide) rfl (m_C_makeFrames hC hkn hI) (fun X w1 h => by cases h.1) (fun v w hq9 => ?_)
      obtain ⟨hv, hC, hO9⟩ := hq9
      cases hv
      have hO := hO.tr hO9 (fun _ h => h) (fun _ h => h)
      refine kx_stk (st1 := []) rfl ?_
      refine kx_iinc _ d_B_playRound_19 rfl (by decide) (nI_1 _) ?_
      refine kx_goto 2 d_B_playRound_22 (by decide) ?_
      refine kx_loc (L1 := [(0, .ref (ad 0)), (1, .int losses), (2, .int (nI (k + 1)))]) ⟨rfl, rfl, rfl, trivial⟩ ?_
      exact ih (k + 1) w (by omega) hC hO
def plT (n : Nat) (pe : Nat → Option Nat) (losses : Int32) (T : LVS) : LVS := lisR pe losses n (mkR pe n T)
def plN (n : Nat) (pe : Nat → Option Nat) (losses : Int32) (T : LVS) : Nat := lisK pe losses n (mkR pe n T)
set_option maxRecDepth 20000 in
set_option maxHeartbeats 4000000 in
theorem m_B_playRound {E : kx_E} {w : va_W} {n : Nat} {ad : Nat → Nat} {pe bi : Nat → Option Nat} {T : LVS} (hC : Cls E w n ad T.1 T.2.1 T.2.2 pe bi) (hp : peOk n pe) (hI : InvS n T.2.2) (h24 : n ≤ 24) (hn : T.2.2 0 4 = nI n) (losses : Int32) : kx_S E Y_B_playRound [.ref (ad 0), .int losses] w (fun o w1 => CT E w n ad pe bi (plT n pe losses T) (some (.int (nI (plN n pe losses T)))) o w1 ∧ InvS n (plT n pe losses T).2.2) := by
  refine kx_go (by decide) rfl rfl (Nat.le_of_ble_eq_true rfl) (kx_cc rfl (kx_cc rfl kx_c0)) (fun z => ?_)
  have hO : kx_off w w clsN := kx_off.rf
  refine kx_iconst (nI 0) d_B_playRound_0 (by decide) ?_
  refine kx_istore_n d_B_playRound_1 (by decide) ?_
  refine kx_loc (L1 := [(0, .ref (ad 0)), (1, .int losses), (2, .int (nI 0))]) ⟨rfl, rfl, rfl, trivial⟩ ?_
  refine l_B_playRound_1 hp h24 hn hI (fun w hC hO => ?_) n 0 w rfl hC hO
  refine kx_iconst (nI 0) d_B_playRound_25 (by decide) ?_
  refine kx_istore_n d_B_playRound_26 (by decide) ?_
  refine kx_iconst (nI 0) d_B_playRound_27 (by decide) ?_
  refine kx_istore_n d_B_playRound_28 (by decide) ?_
  refine kx_loc (L1 := [(0, .ref (ad 0)), (1, .int losses), (2, .int (nI 0)), (3, .int (nI 0))]) ⟨rfl, rfl, rfl, rfl, trivial⟩ ?_
  exact l_B_playRound_2 hp h24 (by rw [mkR_0]; exact hn) (mkR_inv hI n (Nat.le_refl n)) (fun w hC hO hI9 => ⟨⟨rfl, hC, hO⟩, hI9⟩) n 0 w rfl hC hO (mkR_inv hI n (Nat.le_refl n))
theorem okUp_0 {n k : Nat} (v : Int32) (hk : k ≠ 99) : okUp n 0 k v := ⟨fun h => by unfold endN at h; omega, fun e he h => by omega, fun c hc h => by simp only [carB] at h; omega⟩
theorem i32_nle {x y : Int32} : ¬ y ≤ x ↔ x < y := ⟨fun h => Decidable.byContradiction (fun q => h (i32_nlt.mp q)), fun h q => i32_nlt.mpr q h⟩
def rdsT (n : Nat) (pe : Nat → Option Nat) (losses : Int32) : Nat → LVS → LVS
  | 0, T => T
  | k + 1, T => plT n pe losses (rdsT n pe losses k T)
def rdsN (n : Nat) (pe : Nat → Option Nat) (losses : Int32) : Nat → LVS → Nat
  | 0, _ => 0
  | k + 1, T => rdsN n pe losses k T + plN n pe losses (rdsT n pe losses k T)
theorem rdsT_0 (n : Nat) (pe : Nat → Option Nat) (losses : Int32) : ∀ (k : Nat) (T : LVS), (rdsT n pe losses k T).2.2 0 = T.2.2 0
  | 0, T => rfl
  | k + 1, T => by
    show (lisR pe losses n (mkR pe n (rdsT n pe losses k T))).2.2 0 = T.2.2 0
    rw [lisR_0, mkR_0, rdsT_0 n pe losses k T]
def rdT (n : Nat) (pe : Nat → Option Nat) (losses : Int32) (k : Nat) (T : LVS) : LVS := ((rdsT n pe losses k T).1, (rdsT n pe losses k T).2.1, up2 (up2 (rdsT n pe losses k T).2.2 0 7 (T.2.2 0 7 + nI k)) 0 8 (T.2.2 0 8 + nI (rdsN n pe losses k T)))
theorem d_B_rounds_0 : decode c_B_rounds 0 = .ok (.iload_n 1, 1) := by decide +kernel
theorem d_B_rounds_1 : decode c_B_rounds 1 = .ok (.ifCond .lt 10, 3) := by decide +kernel
theorem d_B_rounds_4 : decode c_B_rounds 4 = .ok (.iload_n 1, 1) := by decide +kernel
theorem d_B_rounds_5 : decode c_B_rounds 5 = .ok (.sipush 200, 3) := by decide +kernel
theorem d_B_rounds_8 : decode c_B_rounds 8 = .ok (.if_icmp .le 13, 3) := by decide +kernel
theorem d_B_rounds_11 : decode c_B_rounds 11 = .ok (.new 30, 3) := by decide +kernel
theorem d_B_rounds_14 : decode c_B_rounds 14 = .ok (.dup, 1) := by decide +kernel
theorem d_B_rounds_15 : decode c_B_rounds 15 = .ok (.ldc 98, 2) := by decide +kernel
theorem d_B_rounds_17 : decode c_B_rounds 17 = .ok (.invokespecial 34, 3) := by decide +kernel
theorem d_B_rounds_20 : decode c_B_rounds 20 = .ok (.athrow, 1) := by decide +kernel
theorem d_B_rounds_21 : decode c_B_rounds 21 = .ok (.iconst 0, 1) := by decide +kernel
theorem d_B_rounds_22 : decode c_B_rounds 22 = .ok (.istore_n 3, 1) := by decide +kernel
theorem d_B_rounds_23 : decode c_B_rounds 23 = .ok (.iconst 0, 1) := by decide +kernel
theorem d_B_rounds_24 : decode c_B_rounds 24 = .ok (.istore 4, 2) := by decide +kernel
theorem d_B_rounds_26 : decode c_B_rounds 26 = .ok (.iload 4, 2) := by decide +kernel
theorem d_B_rounds_28 : decode c_B_rounds 28 = .ok (.iload_n 1, 1) := by decide +kernel
theorem d_B_rounds_29 : decode c_B_rounds 29 = .ok (.if_icmp .ge 17, 3) := by decide +kernel
theorem d_B_rounds_32 : decode c_B_rounds 32 = .ok (.iload_n 3, 1) := by decide +kernel
theorem d_B_rounds_33 : decode c_B_rounds 33 = .ok (.aload_n 0, 1) := by decide +kernel
theorem d_B_rounds_34 : decode c_B_rounds 34 = .ok (.iload_n 2, 1) := by decide +kernel
theorem d_B_rounds_35 : decode c_B_rounds 35 = .ok (.invokevirtual 100, 3) := by decide +kernel
theorem d_B_rounds_38 : decode c_B_rounds 38 = .ok (.iadd, 1) := by decide +kernel
theorem d_B_rounds_39 : decode c_B_rounds 39 = .ok (.istore_n 3, 1) := by decide +kernel
theorem d_B_rounds_40 : decode c_B_rounds 40 = .ok (.iinc 4 1, 3) := by decide +kernel
theorem d_B_rounds_43 : decode c_B_rounds 43 = .ok (.goto (-17), 3) := by decide +kernel
theorem d_B_rounds_46 : decode c_B_rounds 46 = .ok (.aload_n 0, 1) := by decide +kernel
theorem d_B_rounds_47 : decode c_B_rounds 47 = .ok (.dup, 1) := by decide +kernel
theorem d_B_rounds_48 : decode c_B_rounds 48 = .ok (.getfield 103, 3) := by decide +kernel
theorem d_B_rounds_51 : decode c_B_rounds 51 = .ok (.iload_n 1, 1) := by decide +kernel
theorem d_B_rounds_52 : decode c_B_rounds 52 = .ok (.iadd, 1) := by decide +kernel
theorem d_B_rounds_53 : decode c_B_rounds 53 = .ok (.putfield 103, 3) := by decide +kernel
theorem d_B_rounds_56 : decode c_B_rounds 56 = .ok (.aload_n 0, 1) := by decide +kernel
theorem d_B_rounds_57 : decode c_B_rounds 57 = .ok (.dup, 1) := by decide +kernel
theorem d_B_rounds_58 : decode c_B_rounds 58 = .ok (.getfield 106, 3) := by decide +kernel
theorem d_B_rounds_61 : decode c_B_rounds 61 = .ok (.iload_n 3, 1) := by decide +kernel
theorem d_B_rounds_62 : decode c_B_rounds 62 = .ok (.iadd, 1) := by decide +kernel
theorem d_B_rounds_63 : decode c_B_rounds 63 = .ok (.putfield 106, 3) := by decide +kernel
theorem d_B_rounds_66 : decode c_B_rounds 66 = .ok (.iload_n 3, 1) := by decide +kernel
theorem d_B_rounds_67 : decode c_B_rounds 67 = .ok (.ireturn, 1) := by decide +kernel
set_option maxRecDepth 20000 in
set_option maxHeartbeats 4000000 in
theorem l_B_rounds {E : kx_E} {n : Nat} {ad : Nat → Nat} {w0 : va_W} {T : LVS} {pe bi : Nat → Option Nat} (hp : peOk n pe) (h24 : n ≤ 24) (hn : T.2.2 0 4 = nI n) {losses : Int32} {z : kx_Z} {Q : kx_O → va_W → Prop} {r : Nat} (hr : r ≤ 200) (hQ : ∀ w, Cls E w n ad (rdsT n pe losses r T).1 (rdsT n pe losses r T).2.1 (rdsT n pe losses r T).2.2 pe bi → kx_off w0 w clsN → InvS n (rdsT n pe losses r T).2.2 → kx_R E Y_B_rounds z 46 [(0, .ref (ad 0)), (1, .int (nI r)), (3, .int (nI (rdsN n pe losses r T)))] [] w 0 0 Q) :
    ∀ (m k : Nat) (w : va_W), m + k = r → Cls E w n ad (rdsT n pe losses k T).1 (rdsT n pe losses k T).2.1 (rdsT n pe losses k T).2.2 pe bi → kx_off w0 w clsN → InvS n (rdsT n pe losses k T).2.2 → kx_R E Y_B_rounds z 26 [(0, .ref (ad 0)), (1, .int (nI r)), (2, .int losses), (3, .int (nI (rdsN n pe losses k T))), (4, .int (nI k))] [] w 0 0 Q := by
  intro m
  induction m with
  | zero =>
    intro k w hk hC hO hI
    have hk : k = r := by omega
    subst hk
    refine kx_iload d_B_rounds_26 rfl ?_
    refine kx_iload_n d_B_rounds_28 rfl ?_
    first | refine kx_icmp_ge_n 46 d_B_rounds_29 (by decide) (by omega) (by omega) ?_ ?_ | refine kx_icmp_ge 46 d_B_rounds_29 (by decide) ?_ ?_
    · intro h29
      refine kx_loc (L1 := [(0, .ref (ad 0)), (1, .int (nI k)), (3, .int (nI (rdsN n pe losses k T)))]) ⟨rfl, rfl, rfl, trivial⟩ ?_
      exact hQ w hC hO hI
    · intro h29
      exact absurd h29 (by omega)
  | succ m ih =>
    intro k w hk hC hO hI
    have hn9 : (rdsT n pe losses k T).2.2 0 4 = nI n := by rw [rdsT_0]; exact hn
    refine kx_iload d_B_rounds_26 rfl ?_
    refine kx_iload_n d_B_rounds_28 rfl ?_
    first | refine kx_icmp_ge_n 46 d_B_rounds_29 (by decide) (by omega) (by omega) ?_ ?_ | refine kx_icmp_ge 46 d_B_rounds_29 (by decide) ?_ ?_
    · intro h29
      exact absurd h29 (by omega)
    · intro h29
      refine kx_iload_n d_B_rounds_32 rfl ?_
      refine kx_aload_n d_B_rounds_33 rfl (by first | rfl | exact kx_rf _) ?_
      refine kx_iload_n d_B_rounds_34 rfl ?_
      refine kx_callV (as := [.int losses]) (rest := [.int (nI (rdsN n pe losses k T))]) d_B_rounds_35 v_B_100 rfl (hC.bus) rfl rfl (by decide) (by decide) (Nat.le_of_ble_eq_true rfl) (by decide) (by decide) rfl (m_B_playRound hC hp hI h24 hn9 losses) (fun X w1 h => by cases h.1.1) (fun v w hq9 => ?_)
      obtain ⟨⟨hv, hC, hO9⟩, hI⟩ := hq9
      cases hv
      have hO := hO.tr hO9 (fun _ h => h) (fun _ h => h)
      refine kx_stk (st1 := [.int (nI (plN n pe losses (rdsT n pe losses k T))), .int (nI (rdsN n pe losses k T))]) rfl ?_
      first | refine kx_iadd _ d_B_rounds_38 (nI_add _ _) ?_ | refine kx_iadd _ d_B_rounds_38 rfl ?_
      refine kx_istore_n d_B_rounds_39 (by decide) ?_
      refine kx_iinc _ d_B_rounds_40 rfl (by decide) (nI_1 _) ?_
      refine kx_goto 26 d_B_rounds_43 (by decide) ?_
      refine kx_loc (L1 := [(0, .ref (ad 0)), (1, .int (nI r)), (2, .int losses), (3, .int (nI (rdsN n pe losses (k + 1) T))), (4, .int (nI (k + 1)))]) ⟨rfl, rfl, rfl, rfl, rfl, trivial⟩ ?_
      exact ih (k + 1) w (by omega) hC hO hI
set_option maxRecDepth 20000 in
set_option maxHeartbeats 4000000 in
theorem m_B_rounds {E : kx_E} {w : va_W} {n : Nat} {ad : Nat → Nat} {pe bi : Nat → Option Nat} {T : LVS} (hC : Cls E w n ad T.1 T.2.1 T.2.2 pe bi) (hp : peOk n pe) (hI : InvS n T.2.2) (h24 : n ≤ 24) (hn : T.2.2 0 4 = nI n) {r : Nat} (hr : r ≤ 200) (losses : Int32) : kx_S E Y_B_rounds [.ref (ad 0), .int (nI r), .int losses] w (fun o w1 => CT E w n ad pe bi (rdT n pe losses r T) (some (.int (nI (rdsN n pe losses r T)))) o w1 ∧ InvS n (rdT n pe losses r T).2.2) := by
  refine kx_go (by decide) rfl rfl (Nat.le_of_ble_eq_true rfl) (kx_cc rfl (kx_cc rfl (kx_cc rfl kx_c0))) (fun z => ?_)
  have hO : kx_off w w clsN := kx_off.rf
  refine kx_iload_n d_B_rounds_0 rfl ?_
  refine kx_if_lt_n 11 d_B_rounds_1 (by decide) (by omega) ?_
  refine kx_iload_n d_B_rounds_4 rfl ?_
  refine kx_sipush (nI 200) d_B_rounds_5 (by decide) ?_
  first | refine kx_icmp_le_n 21 d_B_rounds_8 (by decide) (by omega) (by omega) ?_ ?_ | refine kx_icmp_le 21 d_B_rounds_8 (by decide) ?_ ?_
  · intro h8
    refine kx_iconst (nI 0) d_B_rounds_21 (by decide) ?_
    refine kx_istore_n d_B_rounds_22 (by decide) ?_
    refine kx_iconst (nI 0) d_B_rounds_23 (by decide) ?_
    refine kx_istore d_B_rounds_24 (by decide) ?_
    refine kx_loc (L1 := [(0, .ref (ad 0)), (1, .int (nI r)), (2, .int losses), (3, .int (nI (rdsN n pe losses 0 T))), (4, .int (nI 0))]) ⟨rfl, rfl, rfl, rfl, rfl, trivial⟩ ?_
    refine l_B_rounds hp h24 hn hr (fun w hC hO hI => ?_) r 0 w rfl hC hO hI
    have h7 : (rdsT n pe losses r T).2.2 0 7 = T.2.2 0 7 := by rw [rdsT_0]
    have h8 : (rdsT n pe losses r T).2.2 0 8 = T.2.2 0 8 := by rw [rdsT_0]
    refine kx_aload_n d_B_rounds_46 rfl (by first | rfl | exact kx_rf _) ?_
    refine kx_dup d_B_rounds_47 (by first | rfl | exact kx_rfc _) ?_
    refine kx_get _ d_B_rounds_48 f_B_103 hC.bus (by rfl) ?_
    rw [h7]
    refine kx_iload_n d_B_rounds_51 rfl ?_
    refine kx_iadd _ d_B_rounds_52 rfl ?_
    refine cB_put7 d_B_rounds_53 f_B_103 hC hO (fun w hC hO => ?_)
    refine kx_aload_n d_B_rounds_56 rfl (by first | rfl | exact kx_rf _) ?_
    refine kx_dup d_B_rounds_57 (by first | rfl | exact kx_rfc _) ?_
    refine kx_get _ d_B_rounds_58 f_B_106 hC.bus (by rfl) ?_
    rw [up2_k (by decide), h8]
    refine kx_iload_n d_B_rounds_61 rfl ?_
    refine kx_iadd _ d_B_rounds_62 rfl ?_
    refine cB_put8 d_B_rounds_63 f_B_106 hC hO (fun w hC hO => ?_)
    refine kx_iload_n d_B_rounds_66 rfl ?_
    refine kx_iret d_B_rounds_67 rfl (by decide) (by decide) ?_
    exact ⟨⟨rfl, hC, hO⟩, (hI.up (okUp_0 _ (by decide))).up (okUp_0 _ (by decide))⟩
  · intro h8
    exact absurd h8 (by omega)
set_option maxRecDepth 20000 in
set_option maxHeartbeats 4000000 in
theorem m_B_rounds_no {E : kx_E} {w : va_W} {a : Nat} {v losses : Int32} (hv : v < 0 ∨ nI 200 < v) : kx_S E Y_B_rounds [.ref a, .int v, .int losses] w (fun o w1 => o = .inr kx_iae ∧ w1 = w) := by
  refine kx_go (by decide) rfl rfl (Nat.le_of_ble_eq_true rfl) (kx_cc rfl (kx_cc rfl (kx_cc rfl kx_c0))) (fun z => ?_)
  refine kx_iload_n d_B_rounds_0 rfl ?_
  refine kx_if_lt 11 d_B_rounds_1 (by decide) ?_ ?_
  · intro h1
    exact kx_throw d_B_rounds_11 d_B_rounds_14 d_B_rounds_15 d_B_rounds_17 d_B_rounds_20 t_B_98 rfl (by decide) (Nat.le_of_ble_eq_true rfl) (by decide) (by decide) ⟨rfl, rfl⟩
  · intro h1
    refine kx_iload_n d_B_rounds_4 rfl ?_
    refine kx_sipush (nI 200) d_B_rounds_5 (by decide) ?_
    refine kx_icmp_le 21 d_B_rounds_8 (by decide) ?_ ?_
    · intro h8
      exact absurd hv (by rintro (h | h); exact h1 h; exact absurd h8 (i32_nle.mpr h))
    · intro h8
      exact kx_throw d_B_rounds_11 d_B_rounds_14 d_B_rounds_15 d_B_rounds_17 d_B_rounds_20 t_B_98 rfl (by decide) (Nat.le_of_ble_eq_true rfl) (by decide) (by decide) ⟨rfl, rfl⟩
