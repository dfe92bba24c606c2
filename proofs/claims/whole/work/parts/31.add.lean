/-! ConsistBus.add -/
theorem d_B_add_0 : decode c_B_add 0 = .ok (.iload_n 1, 1) := by decide +kernel
theorem d_B_add_1 : decode c_B_add 1 = .ok (.iconst 1, 1) := by decide +kernel
theorem d_B_add_2 : decode c_B_add 2 = .ok (.if_icmp .lt 20, 3) := by decide +kernel
theorem d_B_add_5 : decode c_B_add 5 = .ok (.iload_n 1, 1) := by decide +kernel
theorem d_B_add_6 : decode c_B_add 6 = .ok (.sipush 255, 3) := by decide +kernel
theorem d_B_add_9 : decode c_B_add 9 = .ok (.if_icmp .gt 13, 3) := by decide +kernel
theorem d_B_add_12 : decode c_B_add 12 = .ok (.iload_n 2, 1) := by decide +kernel
theorem d_B_add_13 : decode c_B_add 13 = .ok (.ifCond .lt 9, 3) := by decide +kernel
theorem d_B_add_16 : decode c_B_add 16 = .ok (.iload_n 2, 1) := by decide +kernel
theorem d_B_add_17 : decode c_B_add 17 = .ok (.ldc 29, 2) := by decide +kernel
theorem d_B_add_19 : decode c_B_add 19 = .ok (.if_icmp .le 13, 3) := by decide +kernel
theorem d_B_add_22 : decode c_B_add 22 = .ok (.new 30, 3) := by decide +kernel
theorem d_B_add_25 : decode c_B_add 25 = .ok (.dup, 1) := by decide +kernel
theorem d_B_add_26 : decode c_B_add 26 = .ok (.ldc 32, 2) := by decide +kernel
theorem d_B_add_28 : decode c_B_add 28 = .ok (.invokespecial 34, 3) := by decide +kernel
theorem d_B_add_31 : decode c_B_add 31 = .ok (.athrow, 1) := by decide +kernel
theorem d_B_add_32 : decode c_B_add 32 = .ok (.aload_n 0, 1) := by decide +kernel
theorem d_B_add_33 : decode c_B_add 33 = .ok (.getfield 15, 3) := by decide +kernel
theorem d_B_add_36 : decode c_B_add 36 = .ok (.iload_n 1, 1) := by decide +kernel
theorem d_B_add_37 : decode c_B_add 37 = .ok (.aaload, 1) := by decide +kernel
theorem d_B_add_38 : decode c_B_add 38 = .ok (.ifnonnull 12, 3) := by decide +kernel
theorem d_B_add_41 : decode c_B_add 41 = .ok (.aload_n 0, 1) := by decide +kernel
theorem d_B_add_42 : decode c_B_add 42 = .ok (.getfield 37, 3) := by decide +kernel
theorem d_B_add_45 : decode c_B_add 45 = .ok (.bipush 24, 2) := by decide +kernel
theorem d_B_add_47 : decode c_B_add 47 = .ok (.if_icmp .lt 13, 3) := by decide +kernel
theorem d_B_add_50 : decode c_B_add 50 = .ok (.new 41, 3) := by decide +kernel
theorem d_B_add_53 : decode c_B_add 53 = .ok (.dup, 1) := by decide +kernel
theorem d_B_add_54 : decode c_B_add 54 = .ok (.ldc 43, 2) := by decide +kernel
theorem d_B_add_56 : decode c_B_add 56 = .ok (.invokespecial 45, 3) := by decide +kernel
theorem d_B_add_59 : decode c_B_add 59 = .ok (.athrow, 1) := by decide +kernel
theorem d_B_add_60 : decode c_B_add 60 = .ok (.new 9, 3) := by decide +kernel
theorem d_B_add_63 : decode c_B_add 63 = .ok (.dup, 1) := by decide +kernel
theorem d_B_add_64 : decode c_B_add 64 = .ok (.iload_n 1, 1) := by decide +kernel
theorem d_B_add_65 : decode c_B_add 65 = .ok (.iload_n 2, 1) := by decide +kernel
theorem d_B_add_66 : decode c_B_add 66 = .ok (.invokespecial 46, 3) := by decide +kernel
theorem d_B_add_69 : decode c_B_add 69 = .ok (.astore_n 3, 1) := by decide +kernel
theorem d_B_add_70 : decode c_B_add 70 = .ok (.aload_n 0, 1) := by decide +kernel
theorem d_B_add_71 : decode c_B_add 71 = .ok (.getfield 15, 3) := by decide +kernel
theorem d_B_add_74 : decode c_B_add 74 = .ok (.iload_n 1, 1) := by decide +kernel
theorem d_B_add_75 : decode c_B_add 75 = .ok (.aload_n 3, 1) := by decide +kernel
theorem d_B_add_76 : decode c_B_add 76 = .ok (.aastore, 1) := by decide +kernel
theorem d_B_add_77 : decode c_B_add 77 = .ok (.aload_n 0, 1) := by decide +kernel
theorem d_B_add_78 : decode c_B_add 78 = .ok (.getfield 11, 3) := by decide +kernel
theorem d_B_add_81 : decode c_B_add 81 = .ok (.aload_n 0, 1) := by decide +kernel
theorem d_B_add_82 : decode c_B_add 82 = .ok (.getfield 37, 3) := by decide +kernel
theorem d_B_add_85 : decode c_B_add 85 = .ok (.aload_n 3, 1) := by decide +kernel
theorem d_B_add_86 : decode c_B_add 86 = .ok (.aastore, 1) := by decide +kernel
theorem d_B_add_87 : decode c_B_add 87 = .ok (.aload_n 0, 1) := by decide +kernel
theorem d_B_add_88 : decode c_B_add 88 = .ok (.dup, 1) := by decide +kernel
theorem d_B_add_89 : decode c_B_add 89 = .ok (.getfield 37, 3) := by decide +kernel
theorem d_B_add_92 : decode c_B_add 92 = .ok (.iconst 1, 1) := by decide +kernel
theorem d_B_add_93 : decode c_B_add 93 = .ok (.iadd, 1) := by decide +kernel
theorem d_B_add_94 : decode c_B_add 94 = .ok (.putfield 37, 3) := by decide +kernel
theorem d_B_add_97 : decode c_B_add 97 = .ok (.aload_n 0, 1) := by decide +kernel
theorem d_B_add_98 : decode c_B_add 98 = .ok (.getfield 37, 3) := by decide +kernel
theorem d_B_add_101 : decode c_B_add 101 = .ok (.ireturn, 1) := by decide +kernel
set_option maxRecDepth 20000 in
set_option maxHeartbeats 4000000 in
theorem m_B_add_bad {E : kx_E} {w : va_W} {n : Nat} {ad : Nat → Nat} {L : Nat → List Nat} {V S : Nat → Nat → Int32} {pe bi : Nat → Option Nat} (hC : Cls E w n ad L V S pe bi) {id mask : Int32} (hv : id < nI 1 ∨ nI 255 < id ∨ mask < 0 ∨ nI 65535 < mask) : kx_S E Y_B_add [.ref (ad 0), .int id, .int mask] w (fun o w1 => o = .inr kx_iae ∧ w1 = w) := by
  refine kx_go (by decide) rfl rfl (Nat.le_of_ble_eq_true rfl) (kx_cc rfl (kx_cc rfl (kx_cc rfl kx_c0))) (fun z => ?_)
  have hO : kx_off w w clsN := kx_off.rf
  refine kx_iload_n d_B_add_0 rfl ?_
  refine kx_iconst (nI 1) d_B_add_1 (by decide) ?_
  refine kx_icmp_lt 22 d_B_add_2 (by decide) ?_ ?_
  · intro h2
    exact kx_throw d_B_add_22 d_B_add_25 d_B_add_26 d_B_add_28 d_B_add_31 t_B_32 rfl (by decide) (Nat.le_of_ble_eq_true rfl) (by decide) (by decide) ⟨rfl, rfl⟩
  · intro h2
    refine kx_iload_n d_B_add_5 rfl ?_
    refine kx_sipush (nI 255) d_B_add_6 (by decide) ?_
    refine kx_icmp_gt 22 d_B_add_9 (by decide) ?_ ?_
    · intro h9
      exact kx_throw d_B_add_22 d_B_add_25 d_B_add_26 d_B_add_28 d_B_add_31 t_B_32 rfl (by decide) (Nat.le_of_ble_eq_true rfl) (by decide) (by decide) ⟨rfl, rfl⟩
    · intro h9
      refine kx_iload_n d_B_add_12 rfl ?_
      refine kx_if_lt 22 d_B_add_13 (by decide) ?_ ?_
      · intro h13
        exact kx_throw d_B_add_22 d_B_add_25 d_B_add_26 d_B_add_28 d_B_add_31 t_B_32 rfl (by decide) (Nat.le_of_ble_eq_true rfl) (by decide) (by decide) ⟨rfl, rfl⟩
      · intro h13
        refine kx_iload_n d_B_add_16 rfl ?_
        refine kx_ldci (nI 65535) d_B_add_17 ic_B_29 ?_
        refine kx_icmp_le 32 d_B_add_19 (by decide) ?_ ?_
        · intro h19
          exact absurd hv (by rintro (h | h | h | h); exact h2 h; exact h9 h; exact h13 h; exact absurd h19 (i32_nle.mpr h))
        · intro h19
          exact kx_throw d_B_add_22 d_B_add_25 d_B_add_26 d_B_add_28 d_B_add_31 t_B_32 rfl (by decide) (Nat.le_of_ble_eq_true rfl) (by decide) (by decide) ⟨rfl, rfl⟩
set_option maxRecDepth 20000 in
set_option maxHeartbeats 4000000 in
theorem m_B_add_full {E : kx_E} {w : va_W} {n : Nat} {ad : Nat → Nat} {L : Nat → List Nat} {V S : Nat → Nat → Int32} {pe bi : Nat → Option Nat} (hC : Cls E w n ad L V S pe bi) {id mask : Nat} (h1 : 1 ≤ id) (h2 : id ≤ 255) (h3 : mask ≤ 65535) (h24 : n ≤ 24) (hn : S 0 4 = nI n) (hb : bi id ≠ none ∨ 24 ≤ n) : kx_S E Y_B_add [.ref (ad 0), .int (nI id), .int (nI mask)] w (fun o w1 => o = .inr kx_ise ∧ w1 = w) := by
  refine kx_go (by decide) rfl rfl (Nat.le_of_ble_eq_true rfl) (kx_cc rfl (kx_cc rfl (kx_cc rfl kx_c0))) (fun z => ?_)
  have hO : kx_off w w clsN := kx_off.rf
  refine kx_iload_n d_B_add_0 rfl ?_
  refine kx_iconst (nI 1) d_B_add_1 (by decide) ?_
  first | refine kx_icmp_lt_n 22 d_B_add_2 (by decide) (by omega) (by omega) ?_ ?_ | refine kx_icmp_lt 22 d_B_add_2 (by decide) ?_ ?_
  · intro h2
    first
      | exact absurd h2 (by omega)
      | exact absurd h9 (by omega)
      | exact absurd h19 (by omega)
  · intro h2
    refine kx_iload_n d_B_add_5 rfl ?_
    refine kx_sipush (nI 255) d_B_add_6 (by decide) ?_
    first | refine kx_icmp_gt_n 22 d_B_add_9 (by decide) (by omega) (by omega) ?_ ?_ | refine kx_icmp_gt 22 d_B_add_9 (by decide) ?_ ?_
    · intro h9
      first
        | exact absurd h2 (by omega)
        | exact absurd h9 (by omega)
        | exact absurd h19 (by omega)
    · intro h9
      refine kx_iload_n d_B_add_12 rfl ?_
      refine kx_if_lt_n 22 d_B_add_13 (by decide) (by omega) ?_
      refine kx_iload_n d_B_add_16 rfl ?_
      refine kx_ldci (nI 65535) d_B_add_17 ic_B_29 ?_
      first | refine kx_icmp_le_n 32 d_B_add_19 (by decide) (by omega) (by omega) ?_ ?_ | refine kx_icmp_le 32 d_B_add_19 (by decide) ?_ ?_
      · intro h19
        refine kx_aload_n d_B_add_32 rfl (by first | rfl | exact kx_rf _) ?_
        refine kx_get _ d_B_add_33 f_B_15 hC.bus (by rfl) ?_
        refine kx_iload_n d_B_add_36 rfl ?_
        obtain ⟨f9, hf1, hf2⟩ := hC.byId
        refine kx_aald d_B_add_37 hf1 rfl (by omega) (by decide) ?_
        rw [hf2 id (by omega)]
        refine kx_ifnonnull (o := (bi id).map (fun c => ad (carB c))) 50 d_B_add_38 (by decide) ?_ ?_
        · intro a38 h38
          exact kx_throw d_B_add_50 d_B_add_53 d_B_add_54 d_B_add_56 d_B_add_59 t_B_43 rfl (by decide) (Nat.le_of_ble_eq_true rfl) (by decide) (by decide) ⟨rfl, rfl⟩
        · intro h38
          refine kx_aload_n d_B_add_41 rfl (by first | rfl | exact kx_rf _) ?_
          refine kx_get _ d_B_add_42 f_B_37 hC.bus (by rfl) ?_
          rw [hn]
          refine kx_bipush (nI 24) d_B_add_45 (by decide) ?_
          first | refine kx_icmp_lt_n 60 d_B_add_47 (by decide) (by omega) (by omega) ?_ ?_ | refine kx_icmp_lt 60 d_B_add_47 (by decide) ?_ ?_
          · intro h47
            rcases hb with h | h
            · exact absurd (by cases e : bi id with | none => rfl | some q => rw [e] at h38; cases h38) h
            · exact absurd h47 (by omega)
          · intro h47
            exact kx_throw d_B_add_50 d_B_add_53 d_B_add_54 d_B_add_56 d_B_add_59 t_B_43 rfl (by decide) (Nat.le_of_ble_eq_true rfl) (by decide) (by decide) ⟨rfl, rfl⟩
      · intro h19
        first
          | exact absurd h2 (by omega)
          | exact absurd h9 (by omega)
          | exact absurd h19 (by omega)
def modK (w w1 : va_W) : Prop := ∀ x, 6 ≤ x → x < 34 → w1[x]? = w[x]?
theorem kx_off.modK {w w1 : va_W} (h : kx_off w w1 clsN) : modK w w1 := fun x h1 h2 => h.2 x (by unfold clsN; omega)
set_option maxRecDepth 20000 in
set_option maxHeartbeats 4000000 in
theorem m_B_add {E : kx_E} {w : va_W} {n : Nat} {ad : Nat → Nat} {L : Nat → List Nat} {V S : Nat → Nat → Int32} {pe bi : Nat → Option Nat} (hC : Cls E w n ad L V S pe bi) (hp : peOk n pe) (hbo : biOk n bi) {id mask : Nat} (h1 : 1 ≤ id) (h2 : id ≤ 255) (h3 : mask ≤ 65535) (h24 : n < 24) (hn : S 0 4 = nI n) (hb : bi id = none) : kx_S E Y_B_add [.ref (ad 0), .int (nI id), .int (nI mask)] w (fun o w1 => o = .inl (some (.int (nI (n + 1)))) ∧ ∃ a : Nat → Nat, Cls E w1 (n + 1) (gAd n ad a) (gL n L) (gV n V) (gS n (up2 S 0 4 (nI (n + 1))) id (nI mask)) (gP n pe) (up1 bi id (some n)) ∧ modK w w1) := by
  refine kx_go (by decide) rfl rfl (Nat.le_of_ble_eq_true rfl) (kx_cc rfl (kx_cc rfl (kx_cc rfl kx_c0))) (fun z => ?_)
  have hO : kx_off w w clsN := kx_off.rf
  refine kx_iload_n d_B_add_0 rfl ?_
  refine kx_iconst (nI 1) d_B_add_1 (by decide) ?_
  first | refine kx_icmp_lt_n 22 d_B_add_2 (by decide) (by omega) (by omega) ?_ ?_ | refine kx_icmp_lt 22 d_B_add_2 (by decide) ?_ ?_
  · intro h2
    first
      | exact absurd h2 (by omega)
      | exact absurd h9 (by omega)
      | exact absurd h19 (by omega)
  · intro h2
    refine kx_iload_n d_B_add_5 rfl ?_
    refine kx_sipush (nI 255) d_B_add_6 (by decide) ?_
    first | refine kx_icmp_gt_n 22 d_B_add_9 (by decide) (by omega) (by omega) ?_ ?_ | refine kx_icmp_gt 22 d_B_add_9 (by decide) ?_ ?_
    · intro h9
      first
        | exact absurd h2 (by omega)
        | exact absurd h9 (by omega)
        | exact absurd h19 (by omega)
    · intro h9
      refine kx_iload_n d_B_add_12 rfl ?_
      refine kx_if_lt_n 22 d_B_add_13 (by decide) (by omega) ?_
      refine kx_iload_n d_B_add_16 rfl ?_
      refine kx_ldci (nI 65535) d_B_add_17 ic_B_29 ?_
      first | refine kx_icmp_le_n 32 d_B_add_19 (by decide) (by omega) (by omega) ?_ ?_ | refine kx_icmp_le 32 d_B_add_19 (by decide) ?_ ?_
      · intro h19
        refine kx_aload_n d_B_add_32 rfl (by first | rfl | exact kx_rf _) ?_
        refine kx_get _ d_B_add_33 f_B_15 hC.bus (by rfl) ?_
        refine kx_iload_n d_B_add_36 rfl ?_
        obtain ⟨f9, hf1, hf2⟩ := hC.byId
        refine kx_aald d_B_add_37 hf1 rfl (by omega) (by decide) ?_
        rw [hf2 id (by omega)]
        refine kx_ifnonnull (o := (bi id).map (fun c => ad (carB c))) 50 d_B_add_38 (by decide) ?_ ?_
        · intro a38 h38
          first
            | exact absurd h47 (by omega)
            | (rw [hb] at h38; cases h38)
        · intro h38
          refine kx_aload_n d_B_add_41 rfl (by first | rfl | exact kx_rf _) ?_
          refine kx_get _ d_B_add_42 f_B_37 hC.bus (by rfl) ?_
          rw [hn]
          refine kx_bipush (nI 24) d_B_add_45 (by decide) ?_
          first | refine kx_icmp_lt_n 60 d_B_add_47 (by decide) (by omega) (by omega) ?_ ?_ | refine kx_icmp_lt 60 d_B_add_47 (by decide) ?_ ?_
          · intro h47
            refine kx_new d_B_add_60 n_B_9 (by decide) (by decide) (fun q => ?_)
            refine kx_dup d_B_add_63 (by first | rfl | exact kx_rfc _) ?_
            refine kx_iload_n d_B_add_64 rfl ?_
            refine kx_iload_n d_B_add_65 rfl ?_
            refine kx_callI (as := [.int (nI id), .int (nI mask)]) (rest := [.ref q]) d_B_add_66 i_B_46 rfl (by decide) (by decide) (Nat.le_of_ble_eq_true rfl) (by decide) (by decide) rfl (m_C_ini (w := w) (h := q) (id := id) (mask := nI mask)) (fun X w1 h => by cases h.1) (fun v w1 hq9 => ?_)
            obtain ⟨hv, a0, v9, hv9, hw9⟩ := hq9
            cases hv
            subst hw9
            refine kx_stk (st1 := [.ref q]) rfl ?_
            obtain ⟨a, ha⟩ : ∃ a : Nat → Nat, carK E q a0 id (nI mask) v9 = carK E (a 0) a id (nI mask) v9 ∧ a 0 = q := ⟨fun k => if k = 0 then q else a0 k, rfl, rfl⟩
            obtain ⟨ha, haq⟩ := ha
            subst haq
            refine kx_w (w1 := w ++ carK E (a 0) a id (nI mask) v9) (by rw [ha]) ?_
            clear ha
            obtain ⟨K, hK⟩ : ∃ K, K = carK E (a 0) a id (nI mask) v9 := ⟨_, rfl⟩
            have hK0 : (w ++ K)[w.length + 0]? = some (a 0, .inr (0, [.int (nI id), .int (nI mask), .ref (a 1), .ref (a 26), .ref (a 28), .ref (a 30), .ref (a 31), .int 0, .int 0, .int 0, .int 0])) := by rw [kx_gA, hK]; rfl
            rw [← hK]
            have hlen := hC.len
            have hbus := hC.bus
            obtain ⟨f8, hg1, hg2⟩ := hC.cars
            refine kx_astore_n d_B_add_69 (by decide) (by first | rfl | exact kx_rf _) ?_
            refine kx_aload_n d_B_add_70 rfl (by first | rfl | exact kx_rf _) ?_
            refine kx_get _ d_B_add_71 f_B_15 (kx_apL hbus) (by rfl) ?_
            refine kx_iload_n d_B_add_74 rfl ?_
            refine kx_aload_n d_B_add_75 rfl (by first | rfl | exact kx_rf _) ?_
            refine kx_aast d_B_add_76 (kx_apL hf1) hK0 rfl rfl (by omega) (by decide) ?_
            obtain ⟨w1, hw1⟩ : ∃ w1, w1 = w.set 2 (ad 2, kx_aq E 3 256 (va_up f9 id (some (a 0)))) := ⟨_, rfl⟩
            refine kx_w (w1 := w1 ++ K) (by rw [hw1, List.set_append_left _ _ (by omega)]) ?_
            have o1 : kx_off w w1 (fun x => x < 3) := by rw [hw1]; exact kx_off.rf.set (by decide)
            have b1 : w1[0]? = some (ad 0, busC ad S) := by rw [hw1]; exact kx_s2 (by decide) hbus
            have c1 : w1[1]? = some (ad 1, kx_aq E 3 24 f8) := by rw [hw1]; exact kx_s2 (by decide) hg1
            have d1 : w1[2]? = some (ad 2, kx_aq E 3 256 (va_up f9 id (some (a 0)))) := by rw [hw1]; exact kx_s1 hf1
            have hK1 : (w1 ++ K)[w1.length + 0]? = some (a 0, .inr (0, [.int (nI id), .int (nI mask), .ref (a 1), .ref (a 26), .ref (a 28), .ref (a 30), .ref (a 31), .int 0, .int 0, .int 0, .int 0])) := by rw [kx_gA, hK]; rfl
            have l1 : w1.length = 34 + 32 * n := by rw [o1.1]; exact hlen
            refine kx_aload_n d_B_add_77 rfl (by first | rfl | exact kx_rf _) ?_
            refine kx_get _ d_B_add_78 f_B_11 (kx_apL b1) (by rfl) ?_
            refine kx_aload_n d_B_add_81 rfl (by first | rfl | exact kx_rf _) ?_
            refine kx_get _ d_B_add_82 f_B_37 (kx_apL b1) (by rfl) ?_
            rw [hn]
            refine kx_aload_n d_B_add_85 rfl (by first | rfl | exact kx_rf _) ?_
            refine kx_aast d_B_add_86 (kx_apL c1) hK1 rfl rfl (by omega) (by decide) ?_
            obtain ⟨w2, hw2⟩ : ∃ w2, w2 = w1.set 1 (ad 1, kx_aq E 3 24 (va_up f8 n (some (a 0)))) := ⟨_, rfl⟩
            refine kx_w (w1 := w2 ++ K) (by rw [hw2, List.set_append_left _ _ (by omega)]) ?_
            have o2 : kx_off w w2 (fun x => x < 3) := by rw [hw2]; exact o1.set (by decide)
            have b2 : w2[0]? = some (ad 0, busC ad S) := by rw [hw2]; exact kx_s2 (by decide) b1
            have c2 : w2[1]? = some (ad 1, kx_aq E 3 24 (va_up f8 n (some (a 0)))) := by rw [hw2]; exact kx_s1 c1
            have d2 : w2[2]? = some (ad 2, kx_aq E 3 256 (va_up f9 id (some (a 0)))) := by rw [hw2]; exact kx_s2 (by decide) d1
            have l2 : w2.length = 34 + 32 * n := by rw [o2.1]; exact hlen
            refine kx_aload_n d_B_add_87 rfl (by first | rfl | exact kx_rf _) ?_
            refine kx_dup d_B_add_88 (by first | rfl | exact kx_rfc _) ?_
            refine kx_get _ d_B_add_89 f_B_37 (kx_apL b2) (by rfl) ?_
            rw [hn]
            refine kx_iconst (nI 1) d_B_add_92 (by decide) ?_
            first | refine kx_iadd _ d_B_add_93 (nI_add _ _) ?_ | refine kx_iadd _ d_B_add_93 rfl ?_
            refine kx_put d_B_add_94 f_B_37 (p_B_4 _) (kx_apL b2) (Nat.le_of_ble_eq_true rfl) ?_
            obtain ⟨w3, hw3⟩ : ∃ w3, w3 = w2.set 0 (ad 0, busC ad (up2 S 0 4 (nI (n + 1)))) := ⟨_, rfl⟩
            refine kx_w (w1 := w3 ++ K) (by rw [hw3, ← List.set_append_left _ _ (by omega)]; rfl) ?_
            have o3 : kx_off w w3 (fun x => x < 3) := by rw [hw3]; exact o2.set (by decide)
            have b3 : w3[0]? = some (ad 0, busC ad (up2 S 0 4 (nI (n + 1)))) := by rw [hw3]; exact kx_s1 b2
            have c3 : w3[1]? = some (ad 1, kx_aq E 3 24 (va_up f8 n (some (a 0)))) := by rw [hw3]; exact kx_s2 (by decide) c2
            have d3 : w3[2]? = some (ad 2, kx_aq E 3 256 (va_up f9 id (some (a 0)))) := by rw [hw3]; exact kx_s2 (by decide) d2
            have l3 : w3.length = 34 + 32 * n := by rw [o3.1]; exact hlen
            refine kx_aload_n d_B_add_97 rfl (by first | rfl | exact kx_rf _) ?_
            refine kx_get _ d_B_add_98 f_B_37 (kx_apL b3) (by rfl) ?_
            rw [up2_s]
            refine kx_iret d_B_add_101 rfl (by decide) (by decide) ?_
            refine ⟨rfl, a, ?_, ?_⟩
            · rw [hK]
              refine hC.grow hp (fun x hx => funext (up2_n hx)) o3 b3 ⟨_, c3, ?_⟩ ⟨_, d3, ?_⟩ hv9
              · intro c hc
                unfold va_up
                by_cases e : c = n
                · subst e
                  rw [if_pos rfl]
                  exact congrArg some (gAd_n 0).symm
                · rw [if_neg e, hg2 c (by omega)]
                  exact congrArg some (gAd_o (carB_lt (k := 0) (by omega) (by decide))).symm
              · intro i hi
                unfold va_up up1
                by_cases e : i = id
                · rw [if_pos e, if_pos e]
                  exact congrArg some (gAd_n 0).symm
                · rw [if_neg e, if_neg e, hf2 i hi]
                  cases hq : bi i with
                  | none => rfl
                  | some c => exact congrArg some (gAd_o (carB_lt (k := 0) (hbo i c hq) (by decide))).symm
            · intro x h6 h34
              rw [List.getElem?_append_left (by omega)]
              exact o3.2 x (by omega)
          · intro h47
            first
              | exact absurd h47 (by omega)
              | (rw [hb] at h38; cases h38)
      · intro h19
        first
          | exact absurd h2 (by omega)
          | exact absurd h9 (by omega)
          | exact absurd h19 (by omega)
