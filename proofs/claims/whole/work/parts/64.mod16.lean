/-! The reference: add, its maker -/
theorem i32_s {k : Nat} {x : Int32} (h : k + 1 < 2 ^ 31) : nI k < x ↔ nI (k + 1) ≤ x := by
  rw [Int32.lt_iff_toInt_lt, Int32.le_iff_toInt_le, nI_toInt (by omega), nI_toInt h]; omega
theorem i32_0 {x : Int32} : x ≤ 0 ↔ x < nI 1 := by
  rw [Int32.lt_iff_toInt_lt, Int32.le_iff_toInt_le, nI_toInt (by omega), Int32.toInt_zero]; omega
theorem Mdl.cg {E : kx_E} {w : va_W} {ma : Nat → Nat} {F : Nat → Int32} {A A1 : Nat → Nat → Int32} (h : Mdl E w ma F A) (e : A = A1) : Mdl E w ma F A1 := e ▸ h
theorem c_M_96 : Cond.constant R_M 96 (nI 65536) ∈ kx_WS := kx_in 702 (by decide +kernel) rfl
theorem d_M_add_0 : decode c_M_add 0 = .ok (.aload_n 0, 1) := by decide +kernel
theorem d_M_add_1 : decode c_M_add 1 = .ok (.iload_n 1, 1) := by decide +kernel
theorem d_M_add_2 : decode c_M_add 2 = .ok (.ifCond .le 24, 3) := by decide +kernel
theorem d_M_add_5 : decode c_M_add 5 = .ok (.iload_n 1, 1) := by decide +kernel
theorem d_M_add_6 : decode c_M_add 6 = .ok (.sipush 256, 3) := by decide +kernel
theorem d_M_add_9 : decode c_M_add 9 = .ok (.if_icmp .ge 17, 3) := by decide +kernel
theorem d_M_add_12 : decode c_M_add 12 = .ok (.iload_n 2, 1) := by decide +kernel
theorem d_M_add_13 : decode c_M_add 13 = .ok (.ifCond .lt 13, 3) := by decide +kernel
theorem d_M_add_16 : decode c_M_add 16 = .ok (.iload_n 2, 1) := by decide +kernel
theorem d_M_add_17 : decode c_M_add 17 = .ok (.ldc 96, 2) := by decide +kernel
theorem d_M_add_19 : decode c_M_add 19 = .ok (.if_icmp .ge 7, 3) := by decide +kernel
theorem d_M_add_22 : decode c_M_add 22 = .ok (.iconst 1, 1) := by decide +kernel
theorem d_M_add_23 : decode c_M_add 23 = .ok (.goto 4, 3) := by decide +kernel
theorem d_M_add_26 : decode c_M_add 26 = .ok (.iconst 0, 1) := by decide +kernel
theorem d_M_add_27 : decode c_M_add 27 = .ok (.aload_n 0, 1) := by decide +kernel
theorem d_M_add_28 : decode c_M_add 28 = .ok (.iload_n 1, 1) := by decide +kernel
theorem d_M_add_29 : decode c_M_add 29 = .ok (.invokevirtual 97, 3) := by decide +kernel
theorem d_M_add_32 : decode c_M_add 32 = .ok (.iconst (-1), 1) := by decide +kernel
theorem d_M_add_33 : decode c_M_add 33 = .ok (.if_icmp .ne 16, 3) := by decide +kernel
theorem d_M_add_36 : decode c_M_add 36 = .ok (.aload_n 0, 1) := by decide +kernel
theorem d_M_add_37 : decode c_M_add 37 = .ok (.getfield 93, 3) := by decide +kernel
theorem d_M_add_40 : decode c_M_add 40 = .ok (.bipush 24, 2) := by decide +kernel
theorem d_M_add_42 : decode c_M_add 42 = .ok (.if_icmp .ge 7, 3) := by decide +kernel
theorem d_M_add_45 : decode c_M_add 45 = .ok (.iconst 1, 1) := by decide +kernel
theorem d_M_add_46 : decode c_M_add 46 = .ok (.goto 4, 3) := by decide +kernel
theorem d_M_add_49 : decode c_M_add 49 = .ok (.iconst 0, 1) := by decide +kernel
theorem d_M_add_50 : decode c_M_add 50 = .ok (.iconst 1, 1) := by decide +kernel
theorem d_M_add_51 : decode c_M_add 51 = .ok (.invokevirtual 101, 3) := by decide +kernel
theorem d_M_add_54 : decode c_M_add 54 = .ok (.ifCond .ne 5, 3) := by decide +kernel
theorem d_M_add_57 : decode c_M_add 57 = .ok (.iconst 0, 1) := by decide +kernel
theorem d_M_add_58 : decode c_M_add 58 = .ok (.ireturn, 1) := by decide +kernel
theorem d_M_add_59 : decode c_M_add 59 = .ok (.aload_n 0, 1) := by decide +kernel
theorem d_M_add_60 : decode c_M_add 60 = .ok (.getfield 93, 3) := by decide +kernel
theorem d_M_add_63 : decode c_M_add 63 = .ok (.istore_n 3, 1) := by decide +kernel
theorem d_M_add_64 : decode c_M_add 64 = .ok (.aload_n 0, 1) := by decide +kernel
theorem d_M_add_65 : decode c_M_add 65 = .ok (.getfield 7, 3) := by decide +kernel
theorem d_M_add_68 : decode c_M_add 68 = .ok (.iload_n 3, 1) := by decide +kernel
theorem d_M_add_69 : decode c_M_add 69 = .ok (.iload_n 1, 1) := by decide +kernel
theorem d_M_add_70 : decode c_M_add 70 = .ok (.iastore, 1) := by decide +kernel
theorem d_M_add_71 : decode c_M_add 71 = .ok (.aload_n 0, 1) := by decide +kernel
theorem d_M_add_72 : decode c_M_add 72 = .ok (.getfield 13, 3) := by decide +kernel
theorem d_M_add_75 : decode c_M_add 75 = .ok (.iload_n 3, 1) := by decide +kernel
theorem d_M_add_76 : decode c_M_add 76 = .ok (.iload_n 2, 1) := by decide +kernel
theorem d_M_add_77 : decode c_M_add 77 = .ok (.iastore, 1) := by decide +kernel
theorem d_M_add_78 : decode c_M_add 78 = .ok (.aload_n 0, 1) := by decide +kernel
theorem d_M_add_79 : decode c_M_add 79 = .ok (.getfield 16, 3) := by decide +kernel
theorem d_M_add_82 : decode c_M_add 82 = .ok (.iconst 2, 1) := by decide +kernel
theorem d_M_add_83 : decode c_M_add 83 = .ok (.iload_n 3, 1) := by decide +kernel
theorem d_M_add_84 : decode c_M_add 84 = .ok (.imul, 1) := by decide +kernel
theorem d_M_add_85 : decode c_M_add 85 = .ok (.iconst (-1), 1) := by decide +kernel
theorem d_M_add_86 : decode c_M_add 86 = .ok (.iastore, 1) := by decide +kernel
theorem d_M_add_87 : decode c_M_add 87 = .ok (.aload_n 0, 1) := by decide +kernel
theorem d_M_add_88 : decode c_M_add 88 = .ok (.getfield 16, 3) := by decide +kernel
theorem d_M_add_91 : decode c_M_add 91 = .ok (.iconst 2, 1) := by decide +kernel
theorem d_M_add_92 : decode c_M_add 92 = .ok (.iload_n 3, 1) := by decide +kernel
theorem d_M_add_93 : decode c_M_add 93 = .ok (.imul, 1) := by decide +kernel
theorem d_M_add_94 : decode c_M_add 94 = .ok (.iconst 1, 1) := by decide +kernel
theorem d_M_add_95 : decode c_M_add 95 = .ok (.iadd, 1) := by decide +kernel
theorem d_M_add_96 : decode c_M_add 96 = .ok (.iconst (-1), 1) := by decide +kernel
theorem d_M_add_97 : decode c_M_add 97 = .ok (.iastore, 1) := by decide +kernel
theorem d_M_add_98 : decode c_M_add 98 = .ok (.iconst 0, 1) := by decide +kernel
theorem d_M_add_99 : decode c_M_add 99 = .ok (.istore 4, 2) := by decide +kernel
theorem d_M_add_101 : decode c_M_add 101 = .ok (.iload 4, 2) := by decide +kernel
theorem d_M_add_103 : decode c_M_add 103 = .ok (.bipush 96, 2) := by decide +kernel
theorem d_M_add_105 : decode c_M_add 105 = .ok (.if_icmp .ge 22, 3) := by decide +kernel
theorem d_M_add_108 : decode c_M_add 108 = .ok (.aload_n 0, 1) := by decide +kernel
theorem d_M_add_109 : decode c_M_add 109 = .ok (.getfield 53, 3) := by decide +kernel
theorem d_M_add_112 : decode c_M_add 112 = .ok (.bipush 96, 2) := by decide +kernel
theorem d_M_add_114 : decode c_M_add 114 = .ok (.iload_n 3, 1) := by decide +kernel
theorem d_M_add_115 : decode c_M_add 115 = .ok (.imul, 1) := by decide +kernel
theorem d_M_add_116 : decode c_M_add 116 = .ok (.iload 4, 2) := by decide +kernel
theorem d_M_add_118 : decode c_M_add 118 = .ok (.iadd, 1) := by decide +kernel
theorem d_M_add_119 : decode c_M_add 119 = .ok (.iconst 0, 1) := by decide +kernel
theorem d_M_add_120 : decode c_M_add 120 = .ok (.iastore, 1) := by decide +kernel
theorem d_M_add_121 : decode c_M_add 121 = .ok (.iinc 4 1, 3) := by decide +kernel
theorem d_M_add_124 : decode c_M_add 124 = .ok (.goto (-23), 3) := by decide +kernel
theorem d_M_add_127 : decode c_M_add 127 = .ok (.aload_n 0, 1) := by decide +kernel
theorem d_M_add_128 : decode c_M_add 128 = .ok (.iload_n 3, 1) := by decide +kernel
theorem d_M_add_129 : decode c_M_add 129 = .ok (.invokevirtual 105, 3) := by decide +kernel
theorem d_M_add_132 : decode c_M_add 132 = .ok (.aload_n 0, 1) := by decide +kernel
theorem d_M_add_133 : decode c_M_add 133 = .ok (.dup, 1) := by decide +kernel
theorem d_M_add_134 : decode c_M_add 134 = .ok (.getfield 93, 3) := by decide +kernel
theorem d_M_add_137 : decode c_M_add 137 = .ok (.iconst 1, 1) := by decide +kernel
theorem d_M_add_138 : decode c_M_add 138 = .ok (.iadd, 1) := by decide +kernel
theorem d_M_add_139 : decode c_M_add 139 = .ok (.putfield 93, 3) := by decide +kernel
theorem d_M_add_142 : decode c_M_add 142 = .ok (.aload_n 0, 1) := by decide +kernel
theorem d_M_add_143 : decode c_M_add 143 = .ok (.getfield 93, 3) := by decide +kernel
theorem d_M_add_146 : decode c_M_add 146 = .ok (.ireturn, 1) := by decide +kernel
set_option maxRecDepth 20000 in
set_option maxHeartbeats 4000000 in
theorem m_M_add_bad {E : kx_E} {w : va_W} {ma : Nat → Nat} {F : Nat → Int32} {A : Nat → Nat → Int32} (hM : Mdl E w ma F A) {n : Nat} {X : Fx} {D : Dy} (hR : ModR n X D A) (hX : WfX n X) (hD : WfD n D) (hn : F 1 = nI n) {bi : Nat → Option Nat} (hB : BiR n X bi) {id mask : Int32} (hv : id < nI 1 ∨ nI 255 < id ∨ mask < 0 ∨ nI 65535 < mask) : kx_S E Y_M_add [.ref (ma 0), .int id, .int mask] w (MX E w ma (up1 F 0 (nI 1)) A (some (.int (nI 0)))) := by
  refine kx_go (by decide) rfl rfl (Nat.le_of_ble_eq_true rfl) (kx_cc rfl (kx_cc rfl (kx_cc rfl kx_c0))) (fun z => ?_)
  have hO : kx_off w w mdlN := kx_off.rf
  have h24 := hX.1
  cases hc0 : carI bi id with
  | none =>
    refine kx_aload_n d_M_add_0 rfl (by first | rfl | exact kx_rf _) ?_
    refine kx_iload_n d_M_add_1 rfl ?_
    refine kx_if_le 26 d_M_add_2 (by decide) ?_ ?_
    · intro h2
      refine kx_iconst (nI 0) d_M_add_26 (by decide) ?_
      refine kx_aload_n d_M_add_27 rfl (by first | rfl | exact kx_rf _) ?_
      refine kx_iload_n d_M_add_28 rfl ?_
      refine kx_callV (as := [.int id]) (rest := [.int (nI 0), .ref (ma 0)]) d_M_add_29 v_M_97 rfl hM.1 rfl rfl (by decide) (by decide) (Nat.le_of_ble_eq_true rfl) (by decide) (by decide) rfl (m_M_findN hM hR hX hD hn hB hc0) (fun X w1 h => by cases h.1) (fun v w1 hq9 => ?_)
      obtain ⟨hv, hw9⟩ := hq9
      cases hv
      subst hw9
      refine kx_stk (st1 := [.int (-1), .int (nI 0), .ref (ma 0)]) rfl ?_
      refine kx_iconst (-1) d_M_add_32 (by decide) ?_
      refine kx_icmp_ne 49 d_M_add_33 (by decide) (fun h => absurd rfl h) (fun _ => ?_)
      refine kx_aload_n d_M_add_36 rfl (by first | rfl | exact kx_rf _) ?_
      refine kx_get _ d_M_add_37 f_M_93 hM.1 (by rfl) ?_
      rw [hn]
      refine kx_bipush (nI 24) d_M_add_40 (by decide) ?_
      first | refine kx_icmp_ge_n 49 d_M_add_42 (by decide) (by omega) (by omega) ?_ ?_ | refine kx_icmp_ge 49 d_M_add_42 (by decide) ?_ ?_
      · intro h42
        refine kx_iconst (nI 0) d_M_add_49 (by decide) ?_
        refine kx_iconst (nI 1) d_M_add_50 (by decide) ?_
        refine kx_callV (as := [.int (nI _), .int (nI _), .int (nI _)]) (rest := []) d_M_add_51 v_M_101 rfl hM.1 rfl rfl (by decide) (by decide) (Nat.le_of_ble_eq_true rfl) (by decide) (by decide) rfl (m_M_goes hM (by decide) (by decide) (by decide)) (fun X w1 h => by cases h.1) (fun v w hq9 => ?_)
        obtain ⟨hv, hM, hO9⟩ := hq9
        cases hv
        have hO := hO.tr hO9 (fun _ h => h) (fun _ h => h)
        refine kx_stk (st1 := [.int (nI 0)]) rfl ?_
        refine kx_if_ne_n 59 d_M_add_54 (by decide) (by decide) (fun h => absurd rfl h) (fun _ => ?_)
        refine kx_iconst (nI 0) d_M_add_57 (by decide) ?_
        refine kx_iret d_M_add_58 rfl (by decide) (by decide) ?_
        exact ⟨rfl, hM, hO⟩
      · intro h42
        refine kx_iconst (nI 1) d_M_add_45 (by decide) ?_
        refine kx_goto 50 d_M_add_46 (by decide) ?_
        refine kx_iconst (nI 1) d_M_add_50 (by decide) ?_
        refine kx_callV (as := [.int (nI _), .int (nI _), .int (nI _)]) (rest := []) d_M_add_51 v_M_101 rfl hM.1 rfl rfl (by decide) (by decide) (Nat.le_of_ble_eq_true rfl) (by decide) (by decide) rfl (m_M_goes hM (by decide) (by decide) (by decide)) (fun X w1 h => by cases h.1) (fun v w hq9 => ?_)
        obtain ⟨hv, hM, hO9⟩ := hq9
        cases hv
        have hO := hO.tr hO9 (fun _ h => h) (fun _ h => h)
        refine kx_stk (st1 := [.int (nI 0)]) rfl ?_
        refine kx_if_ne_n 59 d_M_add_54 (by decide) (by decide) (fun h => absurd rfl h) (fun _ => ?_)
        refine kx_iconst (nI 0) d_M_add_57 (by decide) ?_
        refine kx_iret d_M_add_58 rfl (by decide) (by decide) ?_
        exact ⟨rfl, hM, hO⟩
    · intro h2
      refine kx_iload_n d_M_add_5 rfl ?_
      refine kx_sipush (nI 256) d_M_add_6 (by decide) ?_
      refine kx_icmp_ge 26 d_M_add_9 (by decide) ?_ ?_
      · intro h9
        refine kx_iconst (nI 0) d_M_add_26 (by decide) ?_
        refine kx_aload_n d_M_add_27 rfl (by first | rfl | exact kx_rf _) ?_
        refine kx_iload_n d_M_add_28 rfl ?_
        refine kx_callV (as := [.int id]) (rest := [.int (nI 0), .ref (ma 0)]) d_M_add_29 v_M_97 rfl hM.1 rfl rfl (by decide) (by decide) (Nat.le_of_ble_eq_true rfl) (by decide) (by decide) rfl (m_M_findN hM hR hX hD hn hB hc0) (fun X w1 h => by cases h.1) (fun v w1 hq9 => ?_)
        obtain ⟨hv, hw9⟩ := hq9
        cases hv
        subst hw9
        refine kx_stk (st1 := [.int (-1), .int (nI 0), .ref (ma 0)]) rfl ?_
        refine kx_iconst (-1) d_M_add_32 (by decide) ?_
        refine kx_icmp_ne 49 d_M_add_33 (by decide) (fun h => absurd rfl h) (fun _ => ?_)
        refine kx_aload_n d_M_add_36 rfl (by first | rfl | exact kx_rf _) ?_
        refine kx_get _ d_M_add_37 f_M_93 hM.1 (by rfl) ?_
        rw [hn]
        refine kx_bipush (nI 24) d_M_add_40 (by decide) ?_
        first | refine kx_icmp_ge_n 49 d_M_add_42 (by decide) (by omega) (by omega) ?_ ?_ | refine kx_icmp_ge 49 d_M_add_42 (by decide) ?_ ?_
        · intro h42
          refine kx_iconst (nI 0) d_M_add_49 (by decide) ?_
          refine kx_iconst (nI 1) d_M_add_50 (by decide) ?_
          refine kx_callV (as := [.int (nI _), .int (nI _), .int (nI _)]) (rest := []) d_M_add_51 v_M_101 rfl hM.1 rfl rfl (by decide) (by decide) (Nat.le_of_ble_eq_true rfl) (by decide) (by decide) rfl (m_M_goes hM (by decide) (by decide) (by decide)) (fun X w1 h => by cases h.1) (fun v w hq9 => ?_)
          obtain ⟨hv, hM, hO9⟩ := hq9
          cases hv
          have hO := hO.tr hO9 (fun _ h => h) (fun _ h => h)
          refine kx_stk (st1 := [.int (nI 0)]) rfl ?_
          refine kx_if_ne_n 59 d_M_add_54 (by decide) (by decide) (fun h => absurd rfl h) (fun _ => ?_)
          refine kx_iconst (nI 0) d_M_add_57 (by decide) ?_
          refine kx_iret d_M_add_58 rfl (by decide) (by decide) ?_
          exact ⟨rfl, hM, hO⟩
        · intro h42
          refine kx_iconst (nI 1) d_M_add_45 (by decide) ?_
          refine kx_goto 50 d_M_add_46 (by decide) ?_
          refine kx_iconst (nI 1) d_M_add_50 (by decide) ?_
          refine kx_callV (as := [.int (nI _), .int (nI _), .int (nI _)]) (rest := []) d_M_add_51 v_M_101 rfl hM.1 rfl rfl (by decide) (by decide) (Nat.le_of_ble_eq_true rfl) (by decide) (by decide) rfl (m_M_goes hM (by decide) (by decide) (by decide)) (fun X w1 h => by cases h.1) (fun v w hq9 => ?_)
          obtain ⟨hv, hM, hO9⟩ := hq9
          cases hv
          have hO := hO.tr hO9 (fun _ h => h) (fun _ h => h)
          refine kx_stk (st1 := [.int (nI 0)]) rfl ?_
          refine kx_if_ne_n 59 d_M_add_54 (by decide) (by decide) (fun h => absurd rfl h) (fun _ => ?_)
          refine kx_iconst (nI 0) d_M_add_57 (by decide) ?_
          refine kx_iret d_M_add_58 rfl (by decide) (by decide) ?_
          exact ⟨rfl, hM, hO⟩
      · intro h9
        refine kx_iload_n d_M_add_12 rfl ?_
        refine kx_if_lt 26 d_M_add_13 (by decide) ?_ ?_
        · intro h13
          refine kx_iconst (nI 0) d_M_add_26 (by decide) ?_
          refine kx_aload_n d_M_add_27 rfl (by first | rfl | exact kx_rf _) ?_
          refine kx_iload_n d_M_add_28 rfl ?_
          refine kx_callV (as := [.int id]) (rest := [.int (nI 0), .ref (ma 0)]) d_M_add_29 v_M_97 rfl hM.1 rfl rfl (by decide) (by decide) (Nat.le_of_ble_eq_true rfl) (by decide) (by decide) rfl (m_M_findN hM hR hX hD hn hB hc0) (fun X w1 h => by cases h.1) (fun v w1 hq9 => ?_)
          obtain ⟨hv, hw9⟩ := hq9
          cases hv
          subst hw9
          refine kx_stk (st1 := [.int (-1), .int (nI 0), .ref (ma 0)]) rfl ?_
          refine kx_iconst (-1) d_M_add_32 (by decide) ?_
          refine kx_icmp_ne 49 d_M_add_33 (by decide) (fun h => absurd rfl h) (fun _ => ?_)
          refine kx_aload_n d_M_add_36 rfl (by first | rfl | exact kx_rf _) ?_
          refine kx_get _ d_M_add_37 f_M_93 hM.1 (by rfl) ?_
          rw [hn]
          refine kx_bipush (nI 24) d_M_add_40 (by decide) ?_
          first | refine kx_icmp_ge_n 49 d_M_add_42 (by decide) (by omega) (by omega) ?_ ?_ | refine kx_icmp_ge 49 d_M_add_42 (by decide) ?_ ?_
          · intro h42
            refine kx_iconst (nI 0) d_M_add_49 (by decide) ?_
            refine kx_iconst (nI 1) d_M_add_50 (by decide) ?_
            refine kx_callV (as := [.int (nI _), .int (nI _), .int (nI _)]) (rest := []) d_M_add_51 v_M_101 rfl hM.1 rfl rfl (by decide) (by decide) (Nat.le_of_ble_eq_true rfl) (by decide) (by decide) rfl (m_M_goes hM (by decide) (by decide) (by decide)) (fun X w1 h => by cases h.1) (fun v w hq9 => ?_)
            obtain ⟨hv, hM, hO9⟩ := hq9
            cases hv
            have hO := hO.tr hO9 (fun _ h => h) (fun _ h => h)
            refine kx_stk (st1 := [.int (nI 0)]) rfl ?_
            refine kx_if_ne_n 59 d_M_add_54 (by decide) (by decide) (fun h => absurd rfl h) (fun _ => ?_)
            refine kx_iconst (nI 0) d_M_add_57 (by decide) ?_
            refine kx_iret d_M_add_58 rfl (by decide) (by decide) ?_
            exact ⟨rfl, hM, hO⟩
          · intro h42
            refine kx_iconst (nI 1) d_M_add_45 (by decide) ?_
            refine kx_goto 50 d_M_add_46 (by decide) ?_
            refine kx_iconst (nI 1) d_M_add_50 (by decide) ?_
            refine kx_callV (as := [.int (nI _), .int (nI _), .int (nI _)]) (rest := []) d_M_add_51 v_M_101 rfl hM.1 rfl rfl (by decide) (by decide) (Nat.le_of_ble_eq_true rfl) (by decide) (by decide) rfl (m_M_goes hM (by decide) (by decide) (by decide)) (fun X w1 h => by cases h.1) (fun v w hq9 => ?_)
            obtain ⟨hv, hM, hO9⟩ := hq9
            cases hv
            have hO := hO.tr hO9 (fun _ h => h) (fun _ h => h)
            refine kx_stk (st1 := [.int (nI 0)]) rfl ?_
            refine kx_if_ne_n 59 d_M_add_54 (by decide) (by decide) (fun h => absurd rfl h) (fun _ => ?_)
            refine kx_iconst (nI 0) d_M_add_57 (by decide) ?_
            refine kx_iret d_M_add_58 rfl (by decide) (by decide) ?_
            exact ⟨rfl, hM, hO⟩
        · intro h13
          refine kx_iload_n d_M_add_16 rfl ?_
          refine kx_ldci (nI 65536) d_M_add_17 c_M_96 ?_
          refine kx_icmp_ge 26 d_M_add_19 (by decide) ?_ ?_
          · intro h19
            refine kx_iconst (nI 0) d_M_add_26 (by decide) ?_
            refine kx_aload_n d_M_add_27 rfl (by first | rfl | exact kx_rf _) ?_
            refine kx_iload_n d_M_add_28 rfl ?_
            refine kx_callV (as := [.int id]) (rest := [.int (nI 0), .ref (ma 0)]) d_M_add_29 v_M_97 rfl hM.1 rfl rfl (by decide) (by decide) (Nat.le_of_ble_eq_true rfl) (by decide) (by decide) rfl (m_M_findN hM hR hX hD hn hB hc0) (fun X w1 h => by cases h.1) (fun v w1 hq9 => ?_)
            obtain ⟨hv, hw9⟩ := hq9
            cases hv
            subst hw9
            refine kx_stk (st1 := [.int (-1), .int (nI 0), .ref (ma 0)]) rfl ?_
            refine kx_iconst (-1) d_M_add_32 (by decide) ?_
            refine kx_icmp_ne 49 d_M_add_33 (by decide) (fun h => absurd rfl h) (fun _ => ?_)
            refine kx_aload_n d_M_add_36 rfl (by first | rfl | exact kx_rf _) ?_
            refine kx_get _ d_M_add_37 f_M_93 hM.1 (by rfl) ?_
            rw [hn]
            refine kx_bipush (nI 24) d_M_add_40 (by decide) ?_
            first | refine kx_icmp_ge_n 49 d_M_add_42 (by decide) (by omega) (by omega) ?_ ?_ | refine kx_icmp_ge 49 d_M_add_42 (by decide) ?_ ?_
            · intro h42
              refine kx_iconst (nI 0) d_M_add_49 (by decide) ?_
              refine kx_iconst (nI 1) d_M_add_50 (by decide) ?_
              refine kx_callV (as := [.int (nI _), .int (nI _), .int (nI _)]) (rest := []) d_M_add_51 v_M_101 rfl hM.1 rfl rfl (by decide) (by decide) (Nat.le_of_ble_eq_true rfl) (by decide) (by decide) rfl (m_M_goes hM (by decide) (by decide) (by decide)) (fun X w1 h => by cases h.1) (fun v w hq9 => ?_)
              obtain ⟨hv, hM, hO9⟩ := hq9
              cases hv
              have hO := hO.tr hO9 (fun _ h => h) (fun _ h => h)
              refine kx_stk (st1 := [.int (nI 0)]) rfl ?_
              refine kx_if_ne_n 59 d_M_add_54 (by decide) (by decide) (fun h => absurd rfl h) (fun _ => ?_)
              refine kx_iconst (nI 0) d_M_add_57 (by decide) ?_
              refine kx_iret d_M_add_58 rfl (by decide) (by decide) ?_
              exact ⟨rfl, hM, hO⟩
            · intro h42
              refine kx_iconst (nI 1) d_M_add_45 (by decide) ?_
              refine kx_goto 50 d_M_add_46 (by decide) ?_
              refine kx_iconst (nI 1) d_M_add_50 (by decide) ?_
              refine kx_callV (as := [.int (nI _), .int (nI _), .int (nI _)]) (rest := []) d_M_add_51 v_M_101 rfl hM.1 rfl rfl (by decide) (by decide) (Nat.le_of_ble_eq_true rfl) (by decide) (by decide) rfl (m_M_goes hM (by decide) (by decide) (by decide)) (fun X w1 h => by cases h.1) (fun v w hq9 => ?_)
              obtain ⟨hv, hM, hO9⟩ := hq9
              cases hv
              have hO := hO.tr hO9 (fun _ h => h) (fun _ h => h)
              refine kx_stk (st1 := [.int (nI 0)]) rfl ?_
              refine kx_if_ne_n 59 d_M_add_54 (by decide) (by decide) (fun h => absurd rfl h) (fun _ => ?_)
              refine kx_iconst (nI 0) d_M_add_57 (by decide) ?_
              refine kx_iret d_M_add_58 rfl (by decide) (by decide) ?_
              exact ⟨rfl, hM, hO⟩
          · intro h19
            exact absurd hv (by rintro (h | h | h | h); exact h2 (i32_0.mpr h); exact h9 ((i32_s (by omega)).mp h); exact h13 h; exact h19 ((i32_s (by omega)).mp h))
  | some c =>
    have hc := hB.c hc0
    refine kx_aload_n d_M_add_0 rfl (by first | rfl | exact kx_rf _) ?_
    refine kx_iload_n d_M_add_1 rfl ?_
    refine kx_if_le 26 d_M_add_2 (by decide) ?_ ?_
    · intro h2
      refine kx_iconst (nI 0) d_M_add_26 (by decide) ?_
      refine kx_aload_n d_M_add_27 rfl (by first | rfl | exact kx_rf _) ?_
      refine kx_iload_n d_M_add_28 rfl ?_
      refine kx_callV (as := [.int id]) (rest := [.int (nI 0), .ref (ma 0)]) d_M_add_29 v_M_97 rfl hM.1 rfl rfl (by decide) (by decide) (Nat.le_of_ble_eq_true rfl) (by decide) (by decide) rfl (m_M_findC hM hR hX hD hn hB hc0) (fun X w1 h => by cases h.1) (fun v w1 hq9 => ?_)
      obtain ⟨hv, hw9⟩ := hq9
      cases hv
      subst hw9
      refine kx_stk (st1 := [.int (nI c), .int (nI 0), .ref (ma 0)]) rfl ?_
      refine kx_iconst (-1) d_M_add_32 (by decide) ?_
      refine kx_icmp_ne 49 d_M_add_33 (by decide) (fun _ => ?_) (fun h => absurd h (nI_m1 (by omega)))
      refine kx_iconst (nI 0) d_M_add_49 (by decide) ?_
      refine kx_iconst (nI 1) d_M_add_50 (by decide) ?_
      refine kx_callV (as := [.int (nI _), .int (nI _), .int (nI _)]) (rest := []) d_M_add_51 v_M_101 rfl hM.1 rfl rfl (by decide) (by decide) (Nat.le_of_ble_eq_true rfl) (by decide) (by decide) rfl (m_M_goes hM (by decide) (by decide) (by decide)) (fun X w1 h => by cases h.1) (fun v w hq9 => ?_)
      obtain ⟨hv, hM, hO9⟩ := hq9
      cases hv
      have hO := hO.tr hO9 (fun _ h => h) (fun _ h => h)
      refine kx_stk (st1 := [.int (nI 0)]) rfl ?_
      refine kx_if_ne_n 59 d_M_add_54 (by decide) (by decide) (fun h => absurd rfl h) (fun _ => ?_)
      refine kx_iconst (nI 0) d_M_add_57 (by decide) ?_
      refine kx_iret d_M_add_58 rfl (by decide) (by decide) ?_
      exact ⟨rfl, hM, hO⟩
    · intro h2
      refine kx_iload_n d_M_add_5 rfl ?_
      refine kx_sipush (nI 256) d_M_add_6 (by decide) ?_
      refine kx_icmp_ge 26 d_M_add_9 (by decide) ?_ ?_
      · intro h9
        refine kx_iconst (nI 0) d_M_add_26 (by decide) ?_
        refine kx_aload_n d_M_add_27 rfl (by first | rfl | exact kx_rf _) ?_
        refine kx_iload_n d_M_add_28 rfl ?_
        refine kx_callV (as := [.int id]) (rest := [.int (nI 0), .ref (ma 0)]) d_M_add_29 v_M_97 rfl hM.1 rfl rfl (by decide) (by decide) (Nat.le_of_ble_eq_true rfl) (by decide) (by decide) rfl (m_M_findC hM hR hX hD hn hB hc0) (fun X w1 h => by cases h.1) (fun v w1 hq9 => ?_)
        obtain ⟨hv, hw9⟩ := hq9
        cases hv
        subst hw9
        refine kx_stk (st1 := [.int (nI c), .int (nI 0), .ref (ma 0)]) rfl ?_
        refine kx_iconst (-1) d_M_add_32 (by decide) ?_
        refine kx_icmp_ne 49 d_M_add_33 (by decide) (fun _ => ?_) (fun h => absurd h (nI_m1 (by omega)))
        refine kx_iconst (nI 0) d_M_add_49 (by decide) ?_
        refine kx_iconst (nI 1) d_M_add_50 (by decide) ?_
        refine kx_callV (as := [.int (nI _), .int (nI _), .int (nI _)]) (rest := []) d_M_add_51 v_M_101 rfl hM.1 rfl rfl (by decide) (by decide) (Nat.le_of_ble_eq_true rfl) (by decide) (by decide) rfl (m_M_goes hM (by decide) (by decide) (by decide)) (fun X w1 h => by cases h.1) (fun v w hq9 => ?_)
        obtain ⟨hv, hM, hO9⟩ := hq9
        cases hv
        have hO := hO.tr hO9 (fun _ h => h) (fun _ h => h)
        refine kx_stk (st1 := [.int (nI 0)]) rfl ?_
        refine kx_if_ne_n 59 d_M_add_54 (by decide) (by decide) (fun h => absurd rfl h) (fun _ => ?_)
        refine kx_iconst (nI 0) d_M_add_57 (by decide) ?_
        refine kx_iret d_M_add_58 rfl (by decide) (by decide) ?_
        exact ⟨rfl, hM, hO⟩
      · intro h9
        refine kx_iload_n d_M_add_12 rfl ?_
        refine kx_if_lt 26 d_M_add_13 (by decide) ?_ ?_
        · intro h13
          refine kx_iconst (nI 0) d_M_add_26 (by decide) ?_
          refine kx_aload_n d_M_add_27 rfl (by first | rfl | exact kx_rf _) ?_
          refine kx_iload_n d_M_add_28 rfl ?_
          refine kx_callV (as := [.int id]) (rest := [.int (nI 0), .ref (ma 0)]) d_M_add_29 v_M_97 rfl hM.1 rfl rfl (by decide) (by decide) (Nat.le_of_ble_eq_true rfl) (by decide) (by decide) rfl (m_M_findC hM hR hX hD hn hB hc0) (fun X w1 h => by cases h.1) (fun v w1 hq9 => ?_)
          obtain ⟨hv, hw9⟩ := hq9
          cases hv
          subst hw9
          refine kx_stk (st1 := [.int (nI c), .int (nI 0), .ref (ma 0)]) rfl ?_
          refine kx_iconst (-1) d_M_add_32 (by decide) ?_
          refine kx_icmp_ne 49 d_M_add_33 (by decide) (fun _ => ?_) (fun h => absurd h (nI_m1 (by omega)))
          refine kx_iconst (nI 0) d_M_add_49 (by decide) ?_
          refine kx_iconst (nI 1) d_M_add_50 (by decide) ?_
          refine kx_callV (as := [.int (nI _), .int (nI _), .int (nI _)]) (rest := []) d_M_add_51 v_M_101 rfl hM.1 rfl rfl (by decide) (by decide) (Nat.le_of_ble_eq_true rfl) (by decide) (by decide) rfl (m_M_goes hM (by decide) (by decide) (by decide)) (fun X w1 h => by cases h.1) (fun v w hq9 => ?_)
          obtain ⟨hv, hM, hO9⟩ := hq9
          cases hv
          have hO := hO.tr hO9 (fun _ h => h) (fun _ h => h)
          refine kx_stk (st1 := [.int (nI 0)]) rfl ?_
          refine kx_if_ne_n 59 d_M_add_54 (by decide) (by decide) (fun h => absurd rfl h) (fun _ => ?_)
          refine kx_iconst (nI 0) d_M_add_57 (by decide) ?_
          refine kx_iret d_M_add_58 rfl (by decide) (by decide) ?_
          exact ⟨rfl, hM, hO⟩
        · intro h13
          refine kx_iload_n d_M_add_16 rfl ?_
          refine kx_ldci (nI 65536) d_M_add_17 c_M_96 ?_
          refine kx_icmp_ge 26 d_M_add_19 (by decide) ?_ ?_
          · intro h19
            refine kx_iconst (nI 0) d_M_add_26 (by decide) ?_
            refine kx_aload_n d_M_add_27 rfl (by first | rfl | exact kx_rf _) ?_
            refine kx_iload_n d_M_add_28 rfl ?_
            refine kx_callV (as := [.int id]) (rest := [.int (nI 0), .ref (ma 0)]) d_M_add_29 v_M_97 rfl hM.1 rfl rfl (by decide) (by decide) (Nat.le_of_ble_eq_true rfl) (by decide) (by decide) rfl (m_M_findC hM hR hX hD hn hB hc0) (fun X w1 h => by cases h.1) (fun v w1 hq9 => ?_)
            obtain ⟨hv, hw9⟩ := hq9
            cases hv
            subst hw9
            refine kx_stk (st1 := [.int (nI c), .int (nI 0), .ref (ma 0)]) rfl ?_
            refine kx_iconst (-1) d_M_add_32 (by decide) ?_
            refine kx_icmp_ne 49 d_M_add_33 (by decide) (fun _ => ?_) (fun h => absurd h (nI_m1 (by omega)))
            refine kx_iconst (nI 0) d_M_add_49 (by decide) ?_
            refine kx_iconst (nI 1) d_M_add_50 (by decide) ?_
            refine kx_callV (as := [.int (nI _), .int (nI _), .int (nI _)]) (rest := []) d_M_add_51 v_M_101 rfl hM.1 rfl rfl (by decide) (by decide) (Nat.le_of_ble_eq_true rfl) (by decide) (by decide) rfl (m_M_goes hM (by decide) (by decide) (by decide)) (fun X w1 h => by cases h.1) (fun v w hq9 => ?_)
            obtain ⟨hv, hM, hO9⟩ := hq9
            cases hv
            have hO := hO.tr hO9 (fun _ h => h) (fun _ h => h)
            refine kx_stk (st1 := [.int (nI 0)]) rfl ?_
            refine kx_if_ne_n 59 d_M_add_54 (by decide) (by decide) (fun h => absurd rfl h) (fun _ => ?_)
            refine kx_iconst (nI 0) d_M_add_57 (by decide) ?_
            refine kx_iret d_M_add_58 rfl (by decide) (by decide) ?_
            exact ⟨rfl, hM, hO⟩
          · intro h19
            exact absurd hv (by rintro (h | h | h | h); exact h2 (i32_0.mpr h); exact h9 ((i32_s (by omega)).mp h); exact h13 h; exact h19 ((i32_s (by omega)).mp h))
set_option maxRecDepth 20000 in
set_option maxHeartbeats 4000000 in
theorem m_M_add_full {E : kx_E} {w : va_W} {ma : Nat → Nat} {F : Nat → Int32} {A : Nat → Nat → Int32} (hM : Mdl E w ma F A) {n : Nat} {X : Fx} {D : Dy} (hR : ModR n X D A) (hX : WfX n X) (hD : WfD n D) (hn : F 1 = nI n) {bi : Nat → Option Nat} (hB : BiR n X bi) {id mask : Nat} (h1 : 1 ≤ id) (h2 : id ≤ 255) (h3 : mask ≤ 65535) (hb : bi id ≠ none ∨ 24 ≤ n) : kx_S E Y_M_add [.ref (ma 0), .int (nI id), .int (nI mask)] w (MX E w ma (up1 F 0 (nI 2)) A (some (.int (nI 0)))) := by
  refine kx_go (by decide) rfl rfl (Nat.le_of_ble_eq_true rfl) (kx_cc rfl (kx_cc rfl (kx_cc rfl kx_c0))) (fun z => ?_)
  have hO : kx_off w w mdlN := kx_off.rf
  have h24 := hX.1
  cases hc0 : carI bi (nI id) with
  | none =>
    have hb : 24 ≤ n := by
      rw [carI_j bi h1 h2] at hc0
      rcases hb with hb | hb
      · exact absurd hc0 hb
      · exact hb
    refine kx_aload_n d_M_add_0 rfl (by first | rfl | exact kx_rf _) ?_
    refine kx_iload_n d_M_add_1 rfl ?_
    first | refine kx_if_le_n 26 d_M_add_2 (by decide) (by omega) ?_ ?_ | refine kx_if_le 26 d_M_add_2 (by decide) ?_ ?_
    · intro h2
      exfalso; omega
    · intro h2
      refine kx_iload_n d_M_add_5 rfl ?_
      refine kx_sipush (nI 256) d_M_add_6 (by decide) ?_
      first | refine kx_icmp_ge_n 26 d_M_add_9 (by decide) (by omega) (by omega) ?_ ?_ | refine kx_icmp_ge 26 d_M_add_9 (by decide) ?_ ?_
      · intro h9
        exfalso; omega
      · intro h9
        refine kx_iload_n d_M_add_12 rfl ?_
        refine kx_if_lt_n 26 d_M_add_13 (by decide) (by omega) ?_
        refine kx_iload_n d_M_add_16 rfl ?_
        refine kx_ldci (nI 65536) d_M_add_17 c_M_96 ?_
        first | refine kx_icmp_ge_n 26 d_M_add_19 (by decide) (by omega) (by omega) ?_ ?_ | refine kx_icmp_ge 26 d_M_add_19 (by decide) ?_ ?_
        · intro h19
          exfalso; omega
        · intro h19
          refine kx_iconst (nI 1) d_M_add_22 (by decide) ?_
          refine kx_goto 27 d_M_add_23 (by decide) ?_
          refine kx_aload_n d_M_add_27 rfl (by first | rfl | exact kx_rf _) ?_
          refine kx_iload_n d_M_add_28 rfl ?_
          refine kx_callV (as := [.int (nI id)]) (rest := [.int (nI 1), .ref (ma 0)]) d_M_add_29 v_M_97 rfl hM.1 rfl rfl (by decide) (by decide) (Nat.le_of_ble_eq_true rfl) (by decide) (by decide) rfl (m_M_findN hM hR hX hD hn hB hc0) (fun X w1 h => by cases h.1) (fun v w1 hq9 => ?_)
          obtain ⟨hv, hw9⟩ := hq9
          cases hv
          subst hw9
          refine kx_stk (st1 := [.int (-1), .int (nI 1), .ref (ma 0)]) rfl ?_
          refine kx_iconst (-1) d_M_add_32 (by decide) ?_
          refine kx_icmp_ne 49 d_M_add_33 (by decide) (fun h => absurd rfl h) (fun _ => ?_)
          refine kx_aload_n d_M_add_36 rfl (by first | rfl | exact kx_rf _) ?_
          refine kx_get _ d_M_add_37 f_M_93 hM.1 (by rfl) ?_
          rw [hn]
          refine kx_bipush (nI 24) d_M_add_40 (by decide) ?_
          first | refine kx_icmp_ge_n 49 d_M_add_42 (by decide) (by omega) (by omega) ?_ ?_ | refine kx_icmp_ge 49 d_M_add_42 (by decide) ?_ ?_
          · intro h42
            refine kx_iconst (nI 0) d_M_add_49 (by decide) ?_
            refine kx_iconst (nI 1) d_M_add_50 (by decide) ?_
            refine kx_callV (as := [.int (nI _), .int (nI _), .int (nI _)]) (rest := []) d_M_add_51 v_M_101 rfl hM.1 rfl rfl (by decide) (by decide) (Nat.le_of_ble_eq_true rfl) (by decide) (by decide) rfl (m_M_goes hM (by decide) (by decide) (by decide)) (fun X w1 h => by cases h.1) (fun v w hq9 => ?_)
            obtain ⟨hv, hM, hO9⟩ := hq9
            cases hv
            have hO := hO.tr hO9 (fun _ h => h) (fun _ h => h)
            refine kx_stk (st1 := [.int (nI 0)]) rfl ?_
            refine kx_if_ne_n 59 d_M_add_54 (by decide) (by decide) (fun h => absurd rfl h) (fun _ => ?_)
            refine kx_iconst (nI 0) d_M_add_57 (by decide) ?_
            refine kx_iret d_M_add_58 rfl (by decide) (by decide) ?_
            exact ⟨rfl, hM, hO⟩
          · intro h42
            exfalso; omega
  | some c =>
    have hc := hB.c hc0
    refine kx_aload_n d_M_add_0 rfl (by first | rfl | exact kx_rf _) ?_
    refine kx_iload_n d_M_add_1 rfl ?_
    first | refine kx_if_le_n 26 d_M_add_2 (by decide) (by omega) ?_ ?_ | refine kx_if_le 26 d_M_add_2 (by decide) ?_ ?_
    · intro h2
      exfalso; omega
    · intro h2
      refine kx_iload_n d_M_add_5 rfl ?_
      refine kx_sipush (nI 256) d_M_add_6 (by decide) ?_
      first | refine kx_icmp_ge_n 26 d_M_add_9 (by decide) (by omega) (by omega) ?_ ?_ | refine kx_icmp_ge 26 d_M_add_9 (by decide) ?_ ?_
      · intro h9
        exfalso; omega
      · intro h9
        refine kx_iload_n d_M_add_12 rfl ?_
        refine kx_if_lt_n 26 d_M_add_13 (by decide) (by omega) ?_
        refine kx_iload_n d_M_add_16 rfl ?_
        refine kx_ldci (nI 65536) d_M_add_17 c_M_96 ?_
        first | refine kx_icmp_ge_n 26 d_M_add_19 (by decide) (by omega) (by omega) ?_ ?_ | refine kx_icmp_ge 26 d_M_add_19 (by decide) ?_ ?_
        · intro h19
          exfalso; omega
        · intro h19
          refine kx_iconst (nI 1) d_M_add_22 (by decide) ?_
          refine kx_goto 27 d_M_add_23 (by decide) ?_
          refine kx_aload_n d_M_add_27 rfl (by first | rfl | exact kx_rf _) ?_
          refine kx_iload_n d_M_add_28 rfl ?_
          refine kx_callV (as := [.int (nI id)]) (rest := [.int (nI 1), .ref (ma 0)]) d_M_add_29 v_M_97 rfl hM.1 rfl rfl (by decide) (by decide) (Nat.le_of_ble_eq_true rfl) (by decide) (by decide) rfl (m_M_findC hM hR hX hD hn hB hc0) (fun X w1 h => by cases h.1) (fun v w1 hq9 => ?_)
          obtain ⟨hv, hw9⟩ := hq9
          cases hv
          subst hw9
          refine kx_stk (st1 := [.int (nI c), .int (nI 1), .ref (ma 0)]) rfl ?_
          refine kx_iconst (-1) d_M_add_32 (by decide) ?_
          refine kx_icmp_ne 49 d_M_add_33 (by decide) (fun _ => ?_) (fun h => absurd h (nI_m1 (by omega)))
          refine kx_iconst (nI 0) d_M_add_49 (by decide) ?_
          refine kx_iconst (nI 1) d_M_add_50 (by decide) ?_
          refine kx_callV (as := [.int (nI _), .int (nI _), .int (nI _)]) (rest := []) d_M_add_51 v_M_101 rfl hM.1 rfl rfl (by decide) (by decide) (Nat.le_of_ble_eq_true rfl) (by decide) (by decide) rfl (m_M_goes hM (by decide) (by decide) (by decide)) (fun X w1 h => by cases h.1) (fun v w hq9 => ?_)
          obtain ⟨hv, hM, hO9⟩ := hq9
          cases hv
          have hO := hO.tr hO9 (fun _ h => h) (fun _ h => h)
          refine kx_stk (st1 := [.int (nI 0)]) rfl ?_
          refine kx_if_ne_n 59 d_M_add_54 (by decide) (by decide) (fun h => absurd rfl h) (fun _ => ?_)
          refine kx_iconst (nI 0) d_M_add_57 (by decide) ?_
          refine kx_iret d_M_add_58 rfl (by decide) (by decide) ?_
          exact ⟨rfl, hM, hO⟩
set_option maxRecDepth 20000 in
set_option maxHeartbeats 4000000 in
theorem l_M_add {E : kx_E} {w0 : va_W} {ma : Nat → Nat} {F : Nat → Int32} {A : Nat → Nat → Int32} {f : Nat → Int32} {n : Nat} (hn : n < 24) {z : kx_Z} {Q : kx_O → va_W → Prop} (hQ : ∀ w, Mdl E w ma F (up1 A 14 (byZ n 96 f)) → kx_off w0 w mdlN → kx_R E Y_M_add z 127 [(0, .ref (ma 0)), (3, .int (nI n))] [] w 0 0 Q) :
    ∀ (m k : Nat) (w : va_W), m + k = 96 → Mdl E w ma F (up1 A 14 (byZ n k f)) → kx_off w0 w mdlN → kx_R E Y_M_add z 101 [(0, .ref (ma 0)), (3, .int (nI n)), (4, .int (nI k))] [] w 0 0 Q := by
  intro m
  induction m with
  | zero =>
    intro k w hk hM hO
    have hk : k = 96 := by omega
    subst hk
    refine kx_iload d_M_add_101 rfl ?_
    refine kx_bipush (nI 96) d_M_add_103 (by decide) ?_
    refine kx_icmp_ge_n 127 d_M_add_105 (by decide) (by omega) (by omega) (fun _ => ?_) (fun h => absurd h (by omega))
    refine kx_loc (L1 := [(0, .ref (ma 0)), (3, .int (nI n))]) ⟨rfl, rfl, trivial⟩ ?_
    exact hQ w hM hO
  | succ m ih =>
    intro k w hk hM hO
    refine kx_iload d_M_add_101 rfl ?_
    refine kx_bipush (nI 96) d_M_add_103 (by decide) ?_
    refine kx_icmp_ge_n 127 d_M_add_105 (by decide) (by omega) (by omega) (fun h => absurd h (by omega)) (fun _ => ?_)
    refine kx_aload_n d_M_add_108 rfl (by first | rfl | exact kx_rf _) ?_
    refine kx_get _ d_M_add_109 f_M_53 hM.1 (by rfl) ?_
    refine kx_bipush (nI 96) d_M_add_112 (by decide) ?_
    refine kx_iload_n d_M_add_114 rfl ?_
    first | refine kx_imul _ d_M_add_115 (pk_mul _ _) ?_ | refine kx_imul _ d_M_add_115 rfl ?_
    refine kx_iload d_M_add_116 rfl ?_
    first | refine kx_iadd _ d_M_add_118 (nI_add _ _) ?_ | refine kx_iadd _ d_M_add_118 rfl ?_
    refine kx_iconst (nI 0) d_M_add_119 (by decide) ?_
    refine mA_put (j := 14) d_M_add_120 hM hO (by decide) (len := 2304) rfl (by decide) (by omega) (fun w hM hO => ?_)
    rw [up1_s, up1_up1, byZ_s] at hM
    refine kx_iinc _ d_M_add_121 rfl (by decide) (nI_1 _) ?_
    refine kx_goto 101 d_M_add_124 (by decide) ?_
    refine kx_loc (L1 := [(0, .ref (ma 0)), (3, .int (nI n)), (4, .int (nI (k + 1)))]) ⟨rfl, rfl, rfl, trivial⟩ ?_
    exact ih (k + 1) _ (by omega) hM hO
set_option maxRecDepth 20000 in
set_option maxHeartbeats 4000000 in
theorem m_M_add {E : kx_E} {w : va_W} {ma : Nat → Nat} {F : Nat → Int32} {A : Nat → Nat → Int32} (hM : Mdl E w ma F A) {n : Nat} {X : Fx} {D : Dy} (hR : ModR n X D A) (hX : WfX n X) (hD : WfD n D) (hn : F 1 = nI n) {bi : Nat → Option Nat} (hB : BiR n X bi) {id mask : Nat} (h1 : 1 ≤ id) (h2 : id ≤ 255) (h3 : mask ≤ 65535) (hn24 : n < 24) (hb : bi id = none) : kx_S E Y_M_add [.ref (ma 0), .int (nI id), .int (nI mask)] w (MX E w ma (up1 (up1 F 0 (nI 0)) 1 (nI (n + 1))) (mFor n (adA n id mask A)) (some (.int (nI (n + 1))))) := by
  refine kx_go (by decide) rfl rfl (Nat.le_of_ble_eq_true rfl) (kx_cc rfl (kx_cc rfl (kx_cc rfl kx_c0))) (fun z => ?_)
  have hO : kx_off w w mdlN := kx_off.rf
  have h24 := hX.1
  have hc0 : carI bi (nI id) = none := by rw [carI_j bi h1 h2]; exact hb
  refine kx_aload_n d_M_add_0 rfl (by first | rfl | exact kx_rf _) ?_
  refine kx_iload_n d_M_add_1 rfl ?_
  first | refine kx_if_le_n 26 d_M_add_2 (by decide) (by omega) ?_ ?_ | refine kx_if_le 26 d_M_add_2 (by decide) ?_ ?_
  · intro h2
    exfalso; omega
  · intro h2
    refine kx_iload_n d_M_add_5 rfl ?_
    refine kx_sipush (nI 256) d_M_add_6 (by decide) ?_
    first | refine kx_icmp_ge_n 26 d_M_add_9 (by decide) (by omega) (by omega) ?_ ?_ | refine kx_icmp_ge 26 d_M_add_9 (by decide) ?_ ?_
    · intro h9
      exfalso; omega
    · intro h9
      refine kx_iload_n d_M_add_12 rfl ?_
      refine kx_if_lt_n 26 d_M_add_13 (by decide) (by omega) ?_
      refine kx_iload_n d_M_add_16 rfl ?_
      refine kx_ldci (nI 65536) d_M_add_17 c_M_96 ?_
      first | refine kx_icmp_ge_n 26 d_M_add_19 (by decide) (by omega) (by omega) ?_ ?_ | refine kx_icmp_ge 26 d_M_add_19 (by decide) ?_ ?_
      · intro h19
        exfalso; omega
      · intro h19
        refine kx_iconst (nI 1) d_M_add_22 (by decide) ?_
        refine kx_goto 27 d_M_add_23 (by decide) ?_
        refine kx_aload_n d_M_add_27 rfl (by first | rfl | exact kx_rf _) ?_
        refine kx_iload_n d_M_add_28 rfl ?_
        refine kx_callV (as := [.int (nI id)]) (rest := [.int (nI 1), .ref (ma 0)]) d_M_add_29 v_M_97 rfl hM.1 rfl rfl (by decide) (by decide) (Nat.le_of_ble_eq_true rfl) (by decide) (by decide) rfl (m_M_findN hM hR hX hD hn hB hc0) (fun X w1 h => by cases h.1) (fun v w1 hq9 => ?_)
        obtain ⟨hv, hw9⟩ := hq9
        cases hv
        subst hw9
        refine kx_stk (st1 := [.int (-1), .int (nI 1), .ref (ma 0)]) rfl ?_
        refine kx_iconst (-1) d_M_add_32 (by decide) ?_
        refine kx_icmp_ne 49 d_M_add_33 (by decide) (fun h => absurd rfl h) (fun _ => ?_)
        refine kx_aload_n d_M_add_36 rfl (by first | rfl | exact kx_rf _) ?_
        refine kx_get _ d_M_add_37 f_M_93 hM.1 (by rfl) ?_
        rw [hn]
        refine kx_bipush (nI 24) d_M_add_40 (by decide) ?_
        first | refine kx_icmp_ge_n 49 d_M_add_42 (by decide) (by omega) (by omega) ?_ ?_ | refine kx_icmp_ge 49 d_M_add_42 (by decide) ?_ ?_
        · intro h42
          exfalso; omega
        · intro h42
          refine kx_iconst (nI 1) d_M_add_45 (by decide) ?_
          refine kx_goto 50 d_M_add_46 (by decide) ?_
          refine kx_iconst (nI 1) d_M_add_50 (by decide) ?_
          refine kx_callV (as := [.int (nI _), .int (nI _), .int (nI _)]) (rest := []) d_M_add_51 v_M_101 rfl hM.1 rfl rfl (by decide) (by decide) (Nat.le_of_ble_eq_true rfl) (by decide) (by decide) rfl (m_M_goes hM (by decide) (by decide) (by decide)) (fun X w1 h => by cases h.1) (fun v w hq9 => ?_)
          obtain ⟨hv, hM, hO9⟩ := hq9
          cases hv
          have hO := hO.tr hO9 (fun _ h => h) (fun _ h => h)
          refine kx_stk (st1 := [.int (nI 1)]) rfl ?_
          refine kx_if_ne_n 59 d_M_add_54 (by decide) (by decide) (fun _ => ?_) (fun h => absurd h (by decide))
          refine kx_aload_n d_M_add_59 rfl (by first | rfl | exact kx_rf _) ?_
          refine kx_get _ d_M_add_60 f_M_93 hM.1 (by rfl) ?_
          rw [up1_n (by decide), hn]
          refine kx_istore_n d_M_add_63 (by decide) ?_
          refine kx_aload_n d_M_add_64 rfl (by first | rfl | exact kx_rf _) ?_
          refine kx_get _ d_M_add_65 f_M_7 hM.1 (by rfl) ?_
          refine kx_iload_n d_M_add_68 rfl ?_
          refine kx_iload_n d_M_add_69 rfl ?_
          refine mA_put (j := 0) d_M_add_70 hM hO (by decide) (len := 24) rfl (by decide) (by omega) (fun w hM hO => ?_)
          refine kx_aload_n d_M_add_71 rfl (by first | rfl | exact kx_rf _) ?_
          refine kx_get _ d_M_add_72 f_M_13 hM.1 (by rfl) ?_
          refine kx_iload_n d_M_add_75 rfl ?_
          refine kx_iload_n d_M_add_76 rfl ?_
          refine mA_put (j := 1) d_M_add_77 hM hO (by decide) (len := 24) rfl (by decide) (by omega) (fun w hM hO => ?_)
          rw [up1_n (show 1 ≠ 0 by decide)] at hM
          refine kx_aload_n d_M_add_78 rfl (by first | rfl | exact kx_rf _) ?_
          refine kx_get _ d_M_add_79 f_M_16 hM.1 (by rfl) ?_
          refine kx_iconst (nI 2) d_M_add_82 (by decide) ?_
          refine kx_iload_n d_M_add_83 rfl ?_
          first | refine kx_imul _ d_M_add_84 (pk_mul _ _) ?_ | refine kx_imul _ d_M_add_84 rfl ?_
          refine kx_iconst (-1) d_M_add_85 (by decide) ?_
          refine mA_put (j := 2) d_M_add_86 hM hO (by decide) (len := 48) rfl (by decide) (by omega) (fun w hM hO => ?_)
          rw [up1_n (show 2 ≠ 1 by decide), up1_n (show 2 ≠ 0 by decide)] at hM
          refine kx_aload_n d_M_add_87 rfl (by first | rfl | exact kx_rf _) ?_
          refine kx_get _ d_M_add_88 f_M_16 hM.1 (by rfl) ?_
          refine kx_iconst (nI 2) d_M_add_91 (by decide) ?_
          refine kx_iload_n d_M_add_92 rfl ?_
          first | refine kx_imul _ d_M_add_93 (pk_mul _ _) ?_ | refine kx_imul _ d_M_add_93 rfl ?_
          refine kx_iconst (nI 1) d_M_add_94 (by decide) ?_
          first | refine kx_iadd _ d_M_add_95 (nI_add _ _) ?_ | refine kx_iadd _ d_M_add_95 rfl ?_
          refine kx_iconst (-1) d_M_add_96 (by decide) ?_
          refine mA_put (j := 2) d_M_add_97 hM hO (by decide) (len := 48) rfl (by decide) (by omega) (fun w hM hO => ?_)
          rw [up1_s, up1_up1] at hM
          refine kx_iconst (nI 0) d_M_add_98 (by decide) ?_
          refine kx_istore d_M_add_99 (by decide) ?_
          refine kx_loc (L1 := [(0, .ref (ma 0)), (3, .int (nI n)), (4, .int (nI 0))]) ⟨rfl, rfl, rfl, trivial⟩ ?_
          have e : (up1 (up1 (up1 A 0 (upd (A 0) n (nI id))) 1 (upd (A 1) n (nI mask))) 2 (upd (upd (A 2) (2 * n) (-1)) (2 * n + 1) (-1))) = up1 (up1 (up1 (up1 A 0 (upd (A 0) n (nI id))) 1 (upd (A 1) n (nI mask))) 2 (upd (upd (A 2) (2 * n) (-1)) (2 * n + 1) (-1))) 14 (byZ n 0 (A 14)) := by rw [byZ_0]; exact up1_id.symm
          refine l_M_add hn24 (fun w hM hO => ?_) 96 0 _ rfl (hM.cg e) hO
          have hM : Mdl E w ma (up1 F 0 (nI 0)) (adA n id mask A) := hM
          refine kx_aload_n d_M_add_127 rfl (by first | rfl | exact kx_rf _) ?_
          refine kx_iload_n d_M_add_128 rfl ?_
          refine kx_callV (as := [.int (nI n)]) (rest := []) d_M_add_129 v_M_105 rfl hM.1 rfl rfl (by decide) (by decide) (Nat.le_of_ble_eq_true rfl) (by decide) (by decide) rfl (m_M_forget hM (by omega)) (fun X w1 h => by cases h.1) (fun v w hq9 => ?_)
          obtain ⟨hv, A1, hM, hP9, hO9⟩ := hq9
          cases hv
          have hO := hO.tr hO9 (fun _ h => h) (fun _ h => h)
          refine kx_stk (st1 := []) rfl ?_
          subst hP9
          refine kx_aload_n d_M_add_132 rfl (by first | rfl | exact kx_rf _) ?_
          refine kx_dup d_M_add_133 (by first | rfl | exact kx_rfc _) ?_
          refine kx_get _ d_M_add_134 f_M_93 hM.1 (by rfl) ?_
          rw [up1_n (by decide), hn]
          refine kx_iconst (nI 1) d_M_add_137 (by decide) ?_
          first | refine kx_iadd _ d_M_add_138 (nI_add _ _) ?_ | refine kx_iadd _ d_M_add_138 rfl ?_
          refine mF_put1 d_M_add_139 f_M_93 hM hO (fun w hM hO => ?_)
          refine kx_aload_n d_M_add_142 rfl (by first | rfl | exact kx_rf _) ?_
          refine kx_get _ d_M_add_143 f_M_93 hM.1 (by rfl) ?_
          rw [up1_s]
          refine kx_iret d_M_add_146 rfl (by decide) (by decide) ?_
          exact ⟨rfl, hM, hO⟩
theorem d_M_init_0 : decode c_M_init 0 = .ok (.aload_n 0, 1) := by decide +kernel
theorem d_M_init_1 : decode c_M_init 1 = .ok (.invokespecial 1, 3) := by decide +kernel
theorem d_M_init_4 : decode c_M_init 4 = .ok (.aload_n 0, 1) := by decide +kernel
theorem d_M_init_5 : decode c_M_init 5 = .ok (.bipush 24, 2) := by decide +kernel
theorem d_M_init_7 : decode c_M_init 7 = .ok (.newarray .int, 2) := by decide +kernel
theorem d_M_init_9 : decode c_M_init 9 = .ok (.putfield 7, 3) := by decide +kernel
theorem d_M_init_12 : decode c_M_init 12 = .ok (.aload_n 0, 1) := by decide +kernel
theorem d_M_init_13 : decode c_M_init 13 = .ok (.bipush 24, 2) := by decide +kernel
theorem d_M_init_15 : decode c_M_init 15 = .ok (.newarray .int, 2) := by decide +kernel
theorem d_M_init_17 : decode c_M_init 17 = .ok (.putfield 13, 3) := by decide +kernel
theorem d_M_init_20 : decode c_M_init 20 = .ok (.aload_n 0, 1) := by decide +kernel
theorem d_M_init_21 : decode c_M_init 21 = .ok (.bipush 48, 2) := by decide +kernel
theorem d_M_init_23 : decode c_M_init 23 = .ok (.newarray .int, 2) := by decide +kernel
theorem d_M_init_25 : decode c_M_init 25 = .ok (.putfield 16, 3) := by decide +kernel
theorem d_M_init_28 : decode c_M_init 28 = .ok (.aload_n 0, 1) := by decide +kernel
theorem d_M_init_29 : decode c_M_init 29 = .ok (.bipush 48, 2) := by decide +kernel
theorem d_M_init_31 : decode c_M_init 31 = .ok (.newarray .int, 2) := by decide +kernel
theorem d_M_init_33 : decode c_M_init 33 = .ok (.putfield 19, 3) := by decide +kernel
theorem d_M_init_36 : decode c_M_init 36 = .ok (.aload_n 0, 1) := by decide +kernel
theorem d_M_init_37 : decode c_M_init 37 = .ok (.bipush 32, 2) := by decide +kernel
theorem d_M_init_39 : decode c_M_init 39 = .ok (.newarray .boolean, 2) := by decide +kernel
theorem d_M_init_41 : decode c_M_init 41 = .ok (.putfield 22, 3) := by decide +kernel
theorem d_M_init_44 : decode c_M_init 44 = .ok (.aload_n 0, 1) := by decide +kernel
theorem d_M_init_45 : decode c_M_init 45 = .ok (.sipush 1152, 3) := by decide +kernel
theorem d_M_init_48 : decode c_M_init 48 = .ok (.newarray .int, 2) := by decide +kernel
theorem d_M_init_50 : decode c_M_init 50 = .ok (.putfield 26, 3) := by decide +kernel
theorem d_M_init_53 : decode c_M_init 53 = .ok (.aload_n 0, 1) := by decide +kernel
theorem d_M_init_54 : decode c_M_init 54 = .ok (.bipush 48, 2) := by decide +kernel
theorem d_M_init_56 : decode c_M_init 56 = .ok (.newarray .int, 2) := by decide +kernel
theorem d_M_init_58 : decode c_M_init 58 = .ok (.putfield 29, 3) := by decide +kernel
theorem d_M_init_61 : decode c_M_init 61 = .ok (.aload_n 0, 1) := by decide +kernel
theorem d_M_init_62 : decode c_M_init 62 = .ok (.bipush 48, 2) := by decide +kernel
theorem d_M_init_64 : decode c_M_init 64 = .ok (.newarray .boolean, 2) := by decide +kernel
theorem d_M_init_66 : decode c_M_init 66 = .ok (.putfield 32, 3) := by decide +kernel
theorem d_M_init_69 : decode c_M_init 69 = .ok (.aload_n 0, 1) := by decide +kernel
theorem d_M_init_70 : decode c_M_init 70 = .ok (.bipush 48, 2) := by decide +kernel
theorem d_M_init_72 : decode c_M_init 72 = .ok (.newarray .int, 2) := by decide +kernel
theorem d_M_init_74 : decode c_M_init 74 = .ok (.putfield 35, 3) := by decide +kernel
theorem d_M_init_77 : decode c_M_init 77 = .ok (.aload_n 0, 1) := by decide +kernel
theorem d_M_init_78 : decode c_M_init 78 = .ok (.sipush 576, 3) := by decide +kernel
theorem d_M_init_81 : decode c_M_init 81 = .ok (.newarray .int, 2) := by decide +kernel
theorem d_M_init_83 : decode c_M_init 83 = .ok (.putfield 38, 3) := by decide +kernel
theorem d_M_init_86 : decode c_M_init 86 = .ok (.aload_n 0, 1) := by decide +kernel
theorem d_M_init_87 : decode c_M_init 87 = .ok (.bipush 24, 2) := by decide +kernel
theorem d_M_init_89 : decode c_M_init 89 = .ok (.newarray .int, 2) := by decide +kernel
theorem d_M_init_91 : decode c_M_init 91 = .ok (.putfield 41, 3) := by decide +kernel
theorem d_M_init_94 : decode c_M_init 94 = .ok (.aload_n 0, 1) := by decide +kernel
theorem d_M_init_95 : decode c_M_init 95 = .ok (.sipush 1152, 3) := by decide +kernel
theorem d_M_init_98 : decode c_M_init 98 = .ok (.newarray .int, 2) := by decide +kernel
theorem d_M_init_100 : decode c_M_init 100 = .ok (.putfield 44, 3) := by decide +kernel
theorem d_M_init_103 : decode c_M_init 103 = .ok (.aload_n 0, 1) := by decide +kernel
theorem d_M_init_104 : decode c_M_init 104 = .ok (.bipush 48, 2) := by decide +kernel
theorem d_M_init_106 : decode c_M_init 106 = .ok (.newarray .int, 2) := by decide +kernel
theorem d_M_init_108 : decode c_M_init 108 = .ok (.putfield 47, 3) := by decide +kernel
theorem d_M_init_111 : decode c_M_init 111 = .ok (.aload_n 0, 1) := by decide +kernel
theorem d_M_init_112 : decode c_M_init 112 = .ok (.sipush 576, 3) := by decide +kernel
theorem d_M_init_115 : decode c_M_init 115 = .ok (.newarray .int, 2) := by decide +kernel
theorem d_M_init_117 : decode c_M_init 117 = .ok (.putfield 50, 3) := by decide +kernel
theorem d_M_init_120 : decode c_M_init 120 = .ok (.aload_n 0, 1) := by decide +kernel
theorem d_M_init_121 : decode c_M_init 121 = .ok (.sipush 2304, 3) := by decide +kernel
theorem d_M_init_124 : decode c_M_init 124 = .ok (.newarray .int, 2) := by decide +kernel
theorem d_M_init_126 : decode c_M_init 126 = .ok (.putfield 53, 3) := by decide +kernel
theorem d_M_init_129 : decode c_M_init 129 = .ok (.aload_n 0, 1) := by decide +kernel
theorem d_M_init_130 : decode c_M_init 130 = .ok (.bipush 24, 2) := by decide +kernel
theorem d_M_init_132 : decode c_M_init 132 = .ok (.newarray .int, 2) := by decide +kernel
theorem d_M_init_134 : decode c_M_init 134 = .ok (.putfield 56, 3) := by decide +kernel
theorem d_M_init_137 : decode c_M_init 137 = .ok (.aload_n 0, 1) := by decide +kernel
theorem d_M_init_138 : decode c_M_init 138 = .ok (.bipush 24, 2) := by decide +kernel
theorem d_M_init_140 : decode c_M_init 140 = .ok (.newarray .int, 2) := by decide +kernel
theorem d_M_init_142 : decode c_M_init 142 = .ok (.putfield 59, 3) := by decide +kernel
theorem d_M_init_145 : decode c_M_init 145 = .ok (.aload_n 0, 1) := by decide +kernel
theorem d_M_init_146 : decode c_M_init 146 = .ok (.sipush 1152, 3) := by decide +kernel
theorem d_M_init_149 : decode c_M_init 149 = .ok (.newarray .int, 2) := by decide +kernel
theorem d_M_init_151 : decode c_M_init 151 = .ok (.putfield 62, 3) := by decide +kernel
theorem d_M_init_154 : decode c_M_init 154 = .ok (.aload_n 0, 1) := by decide +kernel
theorem d_M_init_155 : decode c_M_init 155 = .ok (.bipush 48, 2) := by decide +kernel
theorem d_M_init_157 : decode c_M_init 157 = .ok (.newarray .int, 2) := by decide +kernel
theorem d_M_init_159 : decode c_M_init 159 = .ok (.putfield 65, 3) := by decide +kernel
theorem d_M_init_162 : decode c_M_init 162 = .ok (.aload_n 0, 1) := by decide +kernel
theorem d_M_init_163 : decode c_M_init 163 = .ok (.bipush 48, 2) := by decide +kernel
theorem d_M_init_165 : decode c_M_init 165 = .ok (.newarray .boolean, 2) := by decide +kernel
theorem d_M_init_167 : decode c_M_init 167 = .ok (.putfield 68, 3) := by decide +kernel
theorem d_M_init_170 : decode c_M_init 170 = .ok (.aload_n 0, 1) := by decide +kernel
theorem d_M_init_171 : decode c_M_init 171 = .ok (.sipush 576, 3) := by decide +kernel
theorem d_M_init_174 : decode c_M_init 174 = .ok (.newarray .int, 2) := by decide +kernel
theorem d_M_init_176 : decode c_M_init 176 = .ok (.putfield 71, 3) := by decide +kernel
theorem d_M_init_179 : decode c_M_init 179 = .ok (.aload_n 0, 1) := by decide +kernel
theorem d_M_init_180 : decode c_M_init 180 = .ok (.bipush 24, 2) := by decide +kernel
theorem d_M_init_182 : decode c_M_init 182 = .ok (.newarray .int, 2) := by decide +kernel
theorem d_M_init_184 : decode c_M_init 184 = .ok (.putfield 74, 3) := by decide +kernel
theorem d_M_init_187 : decode c_M_init 187 = .ok (.aload_n 0, 1) := by decide +kernel
theorem d_M_init_188 : decode c_M_init 188 = .ok (.sipush 576, 3) := by decide +kernel
theorem d_M_init_191 : decode c_M_init 191 = .ok (.newarray .int, 2) := by decide +kernel
theorem d_M_init_193 : decode c_M_init 193 = .ok (.putfield 77, 3) := by decide +kernel
theorem d_M_init_196 : decode c_M_init 196 = .ok (.aload_n 0, 1) := by decide +kernel
theorem d_M_init_197 : decode c_M_init 197 = .ok (.sipush 2304, 3) := by decide +kernel
theorem d_M_init_200 : decode c_M_init 200 = .ok (.newarray .int, 2) := by decide +kernel
theorem d_M_init_202 : decode c_M_init 202 = .ok (.putfield 80, 3) := by decide +kernel
theorem d_M_init_205 : decode c_M_init 205 = .ok (.aload_n 0, 1) := by decide +kernel
theorem d_M_init_206 : decode c_M_init 206 = .ok (.bipush 64, 2) := by decide +kernel
theorem d_M_init_208 : decode c_M_init 208 = .ok (.newarray .int, 2) := by decide +kernel
theorem d_M_init_210 : decode c_M_init 210 = .ok (.putfield 83, 3) := by decide +kernel
theorem d_M_init_213 : decode c_M_init 213 = .ok (.aload_n 0, 1) := by decide +kernel
theorem d_M_init_214 : decode c_M_init 214 = .ok (.bipush 24, 2) := by decide +kernel
theorem d_M_init_216 : decode c_M_init 216 = .ok (.newarray .int, 2) := by decide +kernel
theorem d_M_init_218 : decode c_M_init 218 = .ok (.putfield 86, 3) := by decide +kernel
theorem d_M_init_221 : decode c_M_init 221 = .ok (.return_, 1) := by decide +kernel
def mdlK (E : kx_E) (h : Nat) (a : Nat → Nat) : va_W := [(h, .inr (5, [.int 0, .int 0, .ref (a 1), .ref (a 2), .ref (a 3), .ref (a 4), .ref (a 5), .int 0, .int 0, .int 0, .ref (a 6), .ref (a 7), .ref (a 8), .ref (a 9), .ref (a 10), .ref (a 11), .ref (a 12), .ref (a 13), .ref (a 14), .ref (a 15), .ref (a 16), .ref (a 17), .ref (a 18), .ref (a 19), .ref (a 20), .ref (a 21), .ref (a 22), .ref (a 23), .ref (a 24), .ref (a 25), .ref (a 26)])), ((a 1), kx_ai E 24 (fun _ => 0)), ((a 2), kx_ai E 24 (fun _ => 0)), ((a 3), kx_ai E 48 (fun _ => 0)), ((a 4), kx_ai E 48 (fun _ => 0)), ((a 5), kx_az E 32 (fun _ => 0)), ((a 6), kx_ai E 1152 (fun _ => 0)), ((a 7), kx_ai E 48 (fun _ => 0)), ((a 8), kx_az E 48 (fun _ => 0)), ((a 9), kx_ai E 48 (fun _ => 0)), ((a 10), kx_ai E 576 (fun _ => 0)), ((a 11), kx_ai E 24 (fun _ => 0)), ((a 12), kx_ai E 1152 (fun _ => 0)), ((a 13), kx_ai E 48 (fun _ => 0)), ((a 14), kx_ai E 576 (fun _ => 0)), ((a 15), kx_ai E 2304 (fun _ => 0)), ((a 16), kx_ai E 24 (fun _ => 0)), ((a 17), kx_ai E 24 (fun _ => 0)), ((a 18), kx_ai E 1152 (fun _ => 0)), ((a 19), kx_ai E 48 (fun _ => 0)), ((a 20), kx_az E 48 (fun _ => 0)), ((a 21), kx_ai E 576 (fun _ => 0)), ((a 22), kx_ai E 24 (fun _ => 0)), ((a 23), kx_ai E 576 (fun _ => 0)), ((a 24), kx_ai E 2304 (fun _ => 0)), ((a 25), kx_ai E 64 (fun _ => 0)), ((a 26), kx_ai E 24 (fun _ => 0))]
set_option maxRecDepth 20000 in
set_option maxHeartbeats 4000000 in
theorem m_M_ini {E : kx_E} {w : va_W} {h : Nat} : kx_S E Y_M_init [.ref h] (w ++ [(h, .inr (5, [.int 0, .int 0, .null, .null, .null, .null, .null, .int 0, .int 0, .int 0, .null, .null, .null, .null, .null, .null, .null, .null, .null, .null, .null, .null, .null, .null, .null, .null, .null, .null, .null, .null, .null]))]) (fun o w1 => o = .inl none ∧ ∃ a : Nat → Nat, w1 = w ++ mdlK E h a) := by
  refine kx_go (by decide) rfl rfl (Nat.le_of_ble_eq_true rfl) (kx_cc rfl kx_c0) (fun z => ?_)
  refine kx_aload_n d_M_init_0 rfl (by first | rfl | exact kx_rf _) ?_
  refine kx_obj d_M_init_1 o_M_1 o_im o_cd (by decide) ?_
  refine kx_aload_n d_M_init_4 rfl (by first | rfl | exact kx_rf _) ?_
  refine kx_bipush (nI 24) d_M_init_5 (by decide) ?_
  refine kx_newa (t := 0) (n := 24) (24, .inl (fun _ => 0)) d_M_init_7 ac_int rfl rfl (fun cA => rfl) (by decide) (by decide) (by decide) (by decide) (fun q1 => ?_)
  refine kx_w (w1 := w ++ [(h, .inr (5, [.int 0, .int 0, .null, .null, .null, .null, .null, .int 0, .int 0, .int 0, .null, .null, .null, .null, .null, .null, .null, .null, .null, .null, .null, .null, .null, .null, .null, .null, .null, .null, .null, .null, .null])), (q1, kx_ai E 24 (fun _ => 0))]) (kx_aA w _ _) ?_
  refine kx_putF d_M_init_9 f_M_7 (p_M_2 _) rfl rfl rfl (by exact kx_gA w _ 0) (Nat.le_of_ble_eq_true rfl) ?_
  refine kx_w (w1 := w ++ [(h, .inr (5, [.int 0, .int 0, .ref q1, .null, .null, .null, .null, .int 0, .int 0, .int 0, .null, .null, .null, .null, .null, .null, .null, .null, .null, .null, .null, .null, .null, .null, .null, .null, .null, .null, .null, .null, .null])), (q1, kx_ai E 24 (fun _ => 0))]) (kx_sA w _ 0 _) ?_
  refine kx_aload_n d_M_init_12 rfl (by first | rfl | exact kx_rf _) ?_
  refine kx_bipush (nI 24) d_M_init_13 (by decide) ?_
  refine kx_newa (t := 0) (n := 24) (24, .inl (fun _ => 0)) d_M_init_15 ac_int rfl rfl (fun cA => rfl) (by decide) (by decide) (by decide) (by decide) (fun q2 => ?_)
  refine kx_w (w1 := w ++ [(h, .inr (5, [.int 0, .int 0, .ref q1, .null, .null, .null, .null, .int 0, .int 0, .int 0, .null, .null, .null, .null, .null, .null, .null, .null, .null, .null, .null, .null, .null, .null, .null, .null, .null, .null, .null, .null, .null])), (q1, kx_ai E 24 (fun _ => 0)), (q2, kx_ai E 24 (fun _ => 0))]) (kx_aA w _ _) ?_
  refine kx_putF d_M_init_17 f_M_13 (p_M_3 _) rfl rfl rfl (by exact kx_gA w _ 0) (Nat.le_of_ble_eq_true rfl) ?_
  refine kx_w (w1 := w ++ [(h, .inr (5, [.int 0, .int 0, .ref q1, .ref q2, .null, .null, .null, .int 0, .int 0, .int 0, .null, .null, .null, .null, .null, .null, .null, .null, .null, .null, .null, .null, .null, .null, .null, .null, .null, .null, .null, .null, .null])), (q1, kx_ai E 24 (fun _ => 0)), (q2, kx_ai E 24 (fun _ => 0))]) (kx_sA w _ 0 _) ?_
  refine kx_aload_n d_M_init_20 rfl (by first | rfl | exact kx_rf _) ?_
  refine kx_bipush (nI 48) d_M_init_21 (by decide) ?_
  refine kx_newa (t := 0) (n := 48) (48, .inl (fun _ => 0)) d_M_init_23 ac_int rfl rfl (fun cA => rfl) (by decide) (by decide) (by decide) (by decide) (fun q3 => ?_)
  refine kx_w (w1 := w ++ [(h, .inr (5, [.int 0, .int 0, .ref q1, .ref q2, .null, .null, .null, .int 0, .int 0, .int 0, .null, .null, .null, .null, .null, .null, .null, .null, .null, .null, .null, .null, .null, .null, .null, .null, .null, .null, .null, .null, .null])), (q1, kx_ai E 24 (fun _ => 0)), (q2, kx_ai E 24 (fun _ => 0)), (q3, kx_ai E 48 (fun _ => 0))]) (kx_aA w _ _) ?_
  refine kx_putF d_M_init_25 f_M_16 (p_M_4 _) rfl rfl rfl (by exact kx_gA w _ 0) (Nat.le_of_ble_eq_true rfl) ?_
  refine kx_w (w1 := w ++ [(h, .inr (5, [.int 0, .int 0, .ref q1, .ref q2, .ref q3, .null, .null, .int 0, .int 0, .int 0, .null, .null, .null, .null, .null, .null, .null, .null, .null, .null, .null, .null, .null, .null, .null, .null, .null, .null, .null, .null, .null])), (q1, kx_ai E 24 (fun _ => 0)), (q2, kx_ai E 24 (fun _ => 0)), (q3, kx_ai E 48 (fun _ => 0))]) (kx_sA w _ 0 _) ?_
  refine kx_aload_n d_M_init_28 rfl (by first | rfl | exact kx_rf _) ?_
  refine kx_bipush (nI 48) d_M_init_29 (by decide) ?_
  refine kx_newa (t := 0) (n := 48) (48, .inl (fun _ => 0)) d_M_init_31 ac_int rfl rfl (fun cA => rfl) (by decide) (by decide) (by decide) (by decide) (fun q4 => ?_)
  refine kx_w (w1 := w ++ [(h, .inr (5, [.int 0, .int 0, .ref q1, .ref q2, .ref q3, .null, .null, .int 0, .int 0, .int 0, .null, .null, .null, .null, .null, .null, .null, .null, .null, .null, .null, .null, .null, .null, .null, .null, .null, .null, .null, .null, .null])), (q1, kx_ai E 24 (fun _ => 0)), (q2, kx_ai E 24 (fun _ => 0)), (q3, kx_ai E 48 (fun _ => 0)), (q4, kx_ai E 48 (fun _ => 0))]) (kx_aA w _ _) ?_
  refine kx_putF d_M_init_33 f_M_19 (p_M_5 _) rfl rfl rfl (by exact kx_gA w _ 0) (Nat.le_of_ble_eq_true rfl) ?_
  refine kx_w (w1 := w ++ [(h, .inr (5, [.int 0, .int 0, .ref q1, .ref q2, .ref q3, .ref q4, .null, .int 0, .int 0, .int 0, .null, .null, .null, .null, .null, .null, .null, .null, .null, .null, .null, .null, .null, .null, .null, .null, .null, .null, .null, .null, .null])), (q1, kx_ai E 24 (fun _ => 0)), (q2, kx_ai E 24 (fun _ => 0)), (q3, kx_ai E 48 (fun _ => 0)), (q4, kx_ai E 48 (fun _ => 0))]) (kx_sA w _ 0 _) ?_
  refine kx_aload_n d_M_init_36 rfl (by first | rfl | exact kx_rf _) ?_
  refine kx_bipush (nI 32) d_M_init_37 (by decide) ?_
  refine kx_newa (t := 1) (n := 32) (32, .inl (fun _ => 0)) d_M_init_39 ac_boolean rfl rfl (fun cA => rfl) (by decide) (by decide) (by decide) (by decide) (fun q5 => ?_)
  refine kx_w (w1 := w ++ [(h, .inr (5, [.int 0, .int 0, .ref q1, .ref q2, .ref q3, .ref q4, .null, .int 0, .int 0, .int 0, .null, .null, .null, .null, .null, .null, .null, .null, .null, .null, .null, .null, .null, .null, .null, .null, .null, .null, .null, .null, .null])), (q1, kx_ai E 24 (fun _ => 0)), (q2, kx_ai E 24 (fun _ => 0)), (q3, kx_ai E 48 (fun _ => 0)), (q4, kx_ai E 48 (fun _ => 0)), (q5, kx_az E 32 (fun _ => 0))]) (kx_aA w _ _) ?_
  refine kx_putF d_M_init_41 f_M_22 (p_M_6 _) rfl rfl rfl (by exact kx_gA w _ 0) (Nat.le_of_ble_eq_true rfl) ?_
  refine kx_w (w1 := w ++ [(h, .inr (5, [.int 0, .int 0, .ref q1, .ref q2, .ref q3, .ref q4, .ref q5, .int 0, .int 0, .int 0, .null, .null, .null, .null, .null, .null, .null, .null, .null, .null, .null, .null, .null, .null, .null, .null, .null, .null, .null, .null, .null])), (q1, kx_ai E 24 (fun _ => 0)), (q2, kx_ai E 24 (fun _ => 0)), (q3, kx_ai E 48 (fun _ => 0)), (q4, kx_ai E 48 (fun _ => 0)), (q5, kx_az E 32 (fun _ => 0))]) (kx_sA w _ 0 _) ?_
  refine kx_aload_n d_M_init_44 rfl (by first | rfl | exact kx_rf _) ?_
  refine kx_sipush (nI 1152) d_M_init_45 (by decide) ?_
  refine kx_newa (t := 0) (n := 1152) (1152, .inl (fun _ => 0)) d_M_init_48 ac_int rfl rfl (fun cA => rfl) (by decide) (by decide) (by decide) (by decide) (fun q6 => ?_)
  refine kx_w (w1 := w ++ [(h, .inr (5, [.int 0, .int 0, .ref q1, .ref q2, .ref q3, .ref q4, .ref q5, .int 0, .int 0, .int 0, .null, .null, .null, .null, .null, .null, .null, .null, .null, .null, .null, .null, .null, .null, .null, .null, .null, .null, .null, .null, .null])), (q1, kx_ai E 24 (fun _ => 0)), (q2, kx_ai E 24 (fun _ => 0)), (q3, kx_ai E 48 (fun _ => 0)), (q4, kx_ai E 48 (fun _ => 0)), (q5, kx_az E 32 (fun _ => 0)), (q6, kx_ai E 1152 (fun _ => 0))]) (kx_aA w _ _) ?_
  refine kx_putF d_M_init_50 f_M_26 (p_M_10 _) rfl rfl rfl (by exact kx_gA w _ 0) (Nat.le_of_ble_eq_true rfl) ?_
  refine kx_w (w1 := w ++ [(h, .inr (5, [.int 0, .int 0, .ref q1, .ref q2, .ref q3, .ref q4, .ref q5, .int 0, .int 0, .int 0, .ref q6, .null, .null, .null, .null, .null, .null, .null, .null, .null, .null, .null, .null, .null, .null, .null, .null, .null, .null, .null, .null])), (q1, kx_ai E 24 (fun _ => 0)), (q2, kx_ai E 24 (fun _ => 0)), (q3, kx_ai E 48 (fun _ => 0)), (q4, kx_ai E 48 (fun _ => 0)), (q5, kx_az E 32 (fun _ => 0)), (q6, kx_ai E 1152 (fun _ => 0))]) (kx_sA w _ 0 _) ?_
  refine kx_aload_n d_M_init_53 rfl (by first | rfl | exact kx_rf _) ?_
  refine kx_bipush (nI 48) d_M_init_54 (by decide) ?_
  refine kx_newa (t := 0) (n := 48) (48, .inl (fun _ => 0)) d_M_init_56 ac_int rfl rfl (fun cA => rfl) (by decide) (by decide) (by decide) (by decide) (fun q7 => ?_)
  refine kx_w (w1 := w ++ [(h, .inr (5, [.int 0, .int 0, .ref q1, .ref q2, .ref q3, .ref q4, .ref q5, .int 0, .int 0, .int 0, .ref q6, .null, .null, .null, .null, .null, .null, .null, .null, .null, .null, .null, .null, .null, .null, .null, .null, .null, .null, .null, .null])), (q1, kx_ai E 24 (fun _ => 0)), (q2, kx_ai E 24 (fun _ => 0)), (q3, kx_ai E 48 (fun _ => 0)), (q4, kx_ai E 48 (fun _ => 0)), (q5, kx_az E 32 (fun _ => 0)), (q6, kx_ai E 1152 (fun _ => 0)), (q7, kx_ai E 48 (fun _ => 0))]) (kx_aA w _ _) ?_
  refine kx_putF d_M_init_58 f_M_29 (p_M_11 _) rfl rfl rfl (by exact kx_gA w _ 0) (Nat.le_of_ble_eq_true rfl) ?_
  refine kx_w (w1 := w ++ [(h, .inr (5, [.int 0, .int 0, .ref q1, .ref q2, .ref q3, .ref q4, .ref q5, .int 0, .int 0, .int 0, .ref q6, .ref q7, .null, .null, .null, .null, .null, .null, .null, .null, .null, .null, .null, .null, .null, .null, .null, .null, .null, .null, .null])), (q1, kx_ai E 24 (fun _ => 0)), (q2, kx_ai E 24 (fun _ => 0)), (q3, kx_ai E 48 (fun _ => 0)), (q4, kx_ai E 48 (fun _ => 0)), (q5, kx_az E 32 (fun _ => 0)), (q6, kx_ai E 1152 (fun _ => 0)), (q7, kx_ai E 48 (fun _ => 0))]) (kx_sA w _ 0 _) ?_
  refine kx_aload_n d_M_init_61 rfl (by first | rfl | exact kx_rf _) ?_
  refine kx_bipush (nI 48) d_M_init_62 (by decide) ?_
  refine kx_newa (t := 1) (n := 48) (48, .inl (fun _ => 0)) d_M_init_64 ac_boolean rfl rfl (fun cA => rfl) (by decide) (by decide) (by decide) (by decide) (fun q8 => ?_)
  refine kx_w (w1 := w ++ [(h, .inr (5, [.int 0, .int 0, .ref q1, .ref q2, .ref q3, .ref q4, .ref q5, .int 0, .int 0, .int 0, .ref q6, .ref q7, .null, .null, .null, .null, .null, .null, .null, .null, .null, .null, .null, .null, .null, .null, .null, .null, .null, .null, .null])), (q1, kx_ai E 24 (fun _ => 0)), (q2, kx_ai E 24 (fun _ => 0)), (q3, kx_ai E 48 (fun _ => 0)), (q4, kx_ai E 48 (fun _ => 0)), (q5, kx_az E 32 (fun _ => 0)), (q6, kx_ai E 1152 (fun _ => 0)), (q7, kx_ai E 48 (fun _ => 0)), (q8, kx_az E 48 (fun _ => 0))]) (kx_aA w _ _) ?_
  refine kx_putF d_M_init_66 f_M_32 (p_M_12 _) rfl rfl rfl (by exact kx_gA w _ 0) (Nat.le_of_ble_eq_true rfl) ?_
  refine kx_w (w1 := w ++ [(h, .inr (5, [.int 0, .int 0, .ref q1, .ref q2, .ref q3, .ref q4, .ref q5, .int 0, .int 0, .int 0, .ref q6, .ref q7, .ref q8, .null, .null, .null, .null, .null, .null, .null, .null, .null, .null, .null, .null, .null, .null, .null, .null, .null, .null])), (q1, kx_ai E 24 (fun _ => 0)), (q2, kx_ai E 24 (fun _ => 0)), (q3, kx_ai E 48 (fun _ => 0)), (q4, kx_ai E 48 (fun _ => 0)), (q5, kx_az E 32 (fun _ => 0)), (q6, kx_ai E 1152 (fun _ => 0)), (q7, kx_ai E 48 (fun _ => 0)), (q8, kx_az E 48 (fun _ => 0))]) (kx_sA w _ 0 _) ?_
  refine kx_aload_n d_M_init_69 rfl (by first | rfl | exact kx_rf _) ?_
  refine kx_bipush (nI 48) d_M_init_70 (by decide) ?_
  refine kx_newa (t := 0) (n := 48) (48, .inl (fun _ => 0)) d_M_init_72 ac_int rfl rfl (fun cA => rfl) (by decide) (by decide) (by decide) (by decide) (fun q9 => ?_)
  refine kx_w (w1 := w ++ [(h, .inr (5, [.int 0, .int 0, .ref q1, .ref q2, .ref q3, .ref q4, .ref q5, .int 0, .int 0, .int 0, .ref q6, .ref q7, .ref q8, .null, .null, .null, .null, .null, .null, .null, .null, .null, .null, .null, .null, .null, .null, .null, .null, .null, .null])), (q1, kx_ai E 24 (fun _ => 0)), (q2, kx_ai E 24 (fun _ => 0)), (q3, kx_ai E 48 (fun _ => 0)), (q4, kx_ai E 48 (fun _ => 0)), (q5, kx_az E 32 (fun _ => 0)), (q6, kx_ai E 1152 (fun _ => 0)), (q7, kx_ai E 48 (fun _ => 0)), (q8, kx_az E 48 (fun _ => 0)), (q9, kx_ai E 48 (fun _ => 0))]) (kx_aA w _ _) ?_
  refine kx_putF d_M_init_74 f_M_35 (p_M_13 _) rfl rfl rfl (by exact kx_gA w _ 0) (Nat.le_of_ble_eq_true rfl) ?_
  refine kx_w (w1 := w ++ [(h, .inr (5, [.int 0, .int 0, .ref q1, .ref q2, .ref q3, .ref q4, .ref q5, .int 0, .int 0, .int 0, .ref q6, .ref q7, .ref q8, .ref q9, .null, .null, .null, .null, .null, .null, .null, .null, .null, .null, .null, .null, .null, .null, .null, .null, .null])), (q1, kx_ai E 24 (fun _ => 0)), (q2, kx_ai E 24 (fun _ => 0)), (q3, kx_ai E 48 (fun _ => 0)), (q4, kx_ai E 48 (fun _ => 0)), (q5, kx_az E 32 (fun _ => 0)), (q6, kx_ai E 1152 (fun _ => 0)), (q7, kx_ai E 48 (fun _ => 0)), (q8, kx_az E 48 (fun _ => 0)), (q9, kx_ai E 48 (fun _ => 0))]) (kx_sA w _ 0 _) ?_
  refine kx_aload_n d_M_init_77 rfl (by first | rfl | exact kx_rf _) ?_
  refine kx_sipush (nI 576) d_M_init_78 (by decide) ?_
  refine kx_newa (t := 0) (n := 576) (576, .inl (fun _ => 0)) d_M_init_81 ac_int rfl rfl (fun cA => rfl) (by decide) (by decide) (by decide) (by decide) (fun q10 => ?_)
  refine kx_w (w1 := w ++ [(h, .inr (5, [.int 0, .int 0, .ref q1, .ref q2, .ref q3, .ref q4, .ref q5, .int 0, .int 0, .int 0, .ref q6, .ref q7, .ref q8, .ref q9, .null, .null, .null, .null, .null, .null, .null, .null, .null, .null, .null, .null, .null, .null, .null, .null, .null])), (q1, kx_ai E 24 (fun _ => 0)), (q2, kx_ai E 24 (fun _ => 0)), (q3, kx_ai E 48 (fun _ => 0)), (q4, kx_ai E 48 (fun _ => 0)), (q5, kx_az E 32 (fun _ => 0)), (q6, kx_ai E 1152 (fun _ => 0)), (q7, kx_ai E 48 (fun _ => 0)), (q8, kx_az E 48 (fun _ => 0)), (q9, kx_ai E 48 (fun _ => 0)), (q10, kx_ai E 576 (fun _ => 0))]) (kx_aA w _ _) ?_
  refine kx_putF d_M_init_83 f_M_38 (p_M_14 _) rfl rfl rfl (by exact kx_gA w _ 0) (Nat.le_of_ble_eq_true rfl) ?_
  refine kx_w (w1 := w ++ [(h, .inr (5, [.int 0, .int 0, .ref q1, .ref q2, .ref q3, .ref q4, .ref q5, .int 0, .int 0, .int 0, .ref q6, .ref q7, .ref q8, .ref q9, .ref q10, .null, .null, .null, .null, .null, .null, .null, .null, .null, .null, .null, .null, .null, .null, .null, .null])), (q1, kx_ai E 24 (fun _ => 0)), (q2, kx_ai E 24 (fun _ => 0)), (q3, kx_ai E 48 (fun _ => 0)), (q4, kx_ai E 48 (fun _ => 0)), (q5, kx_az E 32 (fun _ => 0)), (q6, kx_ai E 1152 (fun _ => 0)), (q7, kx_ai E 48 (fun _ => 0)), (q8, kx_az E 48 (fun _ => 0)), (q9, kx_ai E 48 (fun _ => 0)), (q10, kx_ai E 576 (fun _ => 0))]) (kx_sA w _ 0 _) ?_
  refine kx_aload_n d_M_init_86 rfl (by first | rfl | exact kx_rf _) ?_
  refine kx_bipush (nI 24) d_M_init_87 (by decide) ?_
  refine kx_newa (t := 0) (n := 24) (24, .inl (fun _ => 0)) d_M_init_89 ac_int rfl rfl (fun cA => rfl) (by decide) (by decide) (by decide) (by decide) (fun q11 => ?_)
  refine kx_w (w1 := w ++ [(h, .inr (5, [.int 0, .int 0, .ref q1, .ref q2, .ref q3, .ref q4, .ref q5, .int 0, .int 0, .int 0, .ref q6, .ref q7, .ref q8, .ref q9, .ref q10, .null, .null, .null, .null, .null, .null, .null, .null, .null, .null, .null, .null, .null, .null, .null, .null])), (q1, kx_ai E 24 (fun _ => 0)), (q2, kx_ai E 24 (fun _ => 0)), (q3, kx_ai E 48 (fun _ => 0)), (q4, kx_ai E 48 (fun _ => 0)), (q5, kx_az E 32 (fun _ => 0)), (q6, kx_ai E 1152 (fun _ => 0)), (q7, kx_ai E 48 (fun _ => 0)), (q8, kx_az E 48 (fun _ => 0)), (q9, kx_ai E 48 (fun _ => 0)), (q10, kx_ai E 576 (fun _ => 0)), (q11, kx_ai E 24 (fun _ => 0))]) (kx_aA w _ _) ?_
  refine kx_putF d_M_init_91 f_M_41 (p_M_15 _) rfl rfl rfl (by exact kx_gA w _ 0) (Nat.le_of_ble_eq_true rfl) ?_
  refine kx_w (w1 := w ++ [(h, .inr (5, [.int 0, .int 0, .ref q1, .ref q2, .ref q3, .ref q4, .ref q5, .int 0, .int 0, .int 0, .ref q6, .ref q7, .ref q8, .ref q9, .ref q10, .ref q11, .null, .null, .null, .null, .null, .null, .null, .null, .null, .null, .null, .null, .null, .null, .null])), (q1, kx_ai E 24 (fun _ => 0)), (q2, kx_ai E 24 (fun _ => 0)), (q3, kx_ai E 48 (fun _ => 0)), (q4, kx_ai E 48 (fun _ => 0)), (q5, kx_az E 32 (fun _ => 0)), (q6, kx_ai E 1152 (fun _ => 0)), (q7, kx_ai E 48 (fun _ => 0)), (q8, kx_az E 48 (fun _ => 0)), (q9, kx_ai E 48 (fun _ => 0)), (q10, kx_ai E 576 (fun _ => 0)), (q11, kx_ai E 24 (fun _ => 0))]) (kx_sA w _ 0 _) ?_
  refine kx_aload_n d_M_init_94 rfl (by first | rfl | exact kx_rf _) ?_
  refine kx_sipush (nI 1152) d_M_init_95 (by decide) ?_
  refine kx_newa (t := 0) (n := 1152) (1152, .inl (fun _ => 0)) d_M_init_98 ac_int rfl rfl (fun cA => rfl) (by decide) (by decide) (by decide) (by decide) (fun q12 => ?_)
  refine kx_w (w1 := w ++ [(h, .inr (5, [.int 0, .int 0, .ref q1, .ref q2, .ref q3, .ref q4, .ref q5, .int 0, .int 0, .int 0, .ref q6, .ref q7, .ref q8, .ref q9, .ref q10, .ref q11, .null, .null, .null, .null, .null, .null, .null, .null, .null, .null, .null, .null, .null, .null, .null])), (q1, kx_ai E 24 (fun _ => 0)), (q2, kx_ai E 24 (fun _ => 0)), (q3, kx_ai E 48 (fun _ => 0)), (q4, kx_ai E 48 (fun _ => 0)), (q5, kx_az E 32 (fun _ => 0)), (q6, kx_ai E 1152 (fun _ => 0)), (q7, kx_ai E 48 (fun _ => 0)), (q8, kx_az E 48 (fun _ => 0)), (q9, kx_ai E 48 (fun _ => 0)), (q10, kx_ai E 576 (fun _ => 0)), (q11, kx_ai E 24 (fun _ => 0)), (q12, kx_ai E 1152 (fun _ => 0))]) (kx_aA w _ _) ?_
  refine kx_putF d_M_init_100 f_M_44 (p_M_16 _) rfl rfl rfl (by exact kx_gA w _ 0) (Nat.le_of_ble_eq_true rfl) ?_
  refine kx_w (w1 := w ++ [(h, .inr (5, [.int 0, .int 0, .ref q1, .ref q2, .ref q3, .ref q4, .ref q5, .int 0, .int 0, .int 0, .ref q6, .ref q7, .ref q8, .ref q9, .ref q10, .ref q11, .ref q12, .null, .null, .null, .null, .null, .null, .null, .null, .null, .null, .null, .null, .null, .null])), (q1, kx_ai E 24 (fun _ => 0)), (q2, kx_ai E 24 (fun _ => 0)), (q3, kx_ai E 48 (fun _ => 0)), (q4, kx_ai E 48 (fun _ => 0)), (q5, kx_az E 32 (fun _ => 0)), (q6, kx_ai E 1152 (fun _ => 0)), (q7, kx_ai E 48 (fun _ => 0)), (q8, kx_az E 48 (fun _ => 0)), (q9, kx_ai E 48 (fun _ => 0)), (q10, kx_ai E 576 (fun _ => 0)), (q11, kx_ai E 24 (fun _ => 0)), (q12, kx_ai E 1152 (fun _ => 0))]) (kx_sA w _ 0 _) ?_
  refine kx_aload_n d_M_init_103 rfl (by first | rfl | exact kx_rf _) ?_
  refine kx_bipush (nI 48) d_M_init_104 (by decide) ?_
  refine kx_newa (t := 0) (n := 48) (48, .inl (fun _ => 0)) d_M_init_106 ac_int rfl rfl (fun cA => rfl) (by decide) (by decide) (by decide) (by decide) (fun q13 => ?_)
  refine kx_w (w1 := w ++ [(h, .inr (5, [.int 0, .int 0, .ref q1, .ref q2, .ref q3, .ref q4, .ref q5, .int 0, .int 0, .int 0, .ref q6, .ref q7, .ref q8, .ref q9, .ref q10, .ref q11, .ref q12, .null, .null, .null, .null, .null, .null, .null, .null, .null, .null, .null, .null, .null, .null])), (q1, kx_ai E 24 (fun _ => 0)), (q2, kx_ai E 24 (fun _ => 0)), (q3, kx_ai E 48 (fun _ => 0)), (q4, kx_ai E 48 (fun _ => 0)), (q5, kx_az E 32 (fun _ => 0)), (q6, kx_ai E 1152 (fun _ => 0)), (q7, kx_ai E 48 (fun _ => 0)), (q8, kx_az E 48 (fun _ => 0)), (q9, kx_ai E 48 (fun _ => 0)), (q10, kx_ai E 576 (fun _ => 0)), (q11, kx_ai E 24 (fun _ => 0)), (q12, kx_ai E 1152 (fun _ => 0)), (q13, kx_ai E 48 (fun _ => 0))]) (kx_aA w _ _) ?_
  refine kx_putF d_M_init_108 f_M_47 (p_M_17 _) rfl rfl rfl (by exact kx_gA w _ 0) (Nat.le_of_ble_eq_true rfl) ?_
  refine kx_w (w1 := w ++ [(h, .inr (5, [.int 0, .int 0, .ref q1, .ref q2, .ref q3, .ref q4, .ref q5, .int 0, .int 0, .int 0, .ref q6, .ref q7, .ref q8, .ref q9, .ref q10, .ref q11, .ref q12, .ref q13, .null, .null, .null, .null, .null, .null, .null, .null, .null, .null, .null, .null, .null])), (q1, kx_ai E 24 (fun _ => 0)), (q2, kx_ai E 24 (fun _ => 0)), (q3, kx_ai E 48 (fun _ => 0)), (q4, kx_ai E 48 (fun _ => 0)), (q5, kx_az E 32 (fun _ => 0)), (q6, kx_ai E 1152 (fun _ => 0)), (q7, kx_ai E 48 (fun _ => 0)), (q8, kx_az E 48 (fun _ => 0)), (q9, kx_ai E 48 (fun _ => 0)), (q10, kx_ai E 576 (fun _ => 0)), (q11, kx_ai E 24 (fun _ => 0)), (q12, kx_ai E 1152 (fun _ => 0)), (q13, kx_ai E 48 (fun _ => 0))]) (kx_sA w _ 0 _) ?_
  refine kx_aload_n d_M_init_111 rfl (by first | rfl | exact kx_rf _) ?_
  refine kx_sipush (nI 576) d_M_init_112 (by decide) ?_
  refine kx_newa (t := 0) (n := 576) (576, .inl (fun _ => 0)) d_M_init_115 ac_int rfl rfl (fun cA => rfl) (by decide) (by decide) (by decide) (by decide) (fun q14 => ?_)
  refine kx_w (w1 := w ++ [(h, .inr (5, [.int 0, .int 0, .ref q1, .ref q2, .ref q3, .ref q4, .ref q5, .int 0, .int 0, .int 0, .ref q6, .ref q7, .ref q8, .ref q9, .ref q10, .ref q11, .ref q12, .ref q13, .null, .null, .null, .null, .null, .null, .null, .null, .null, .null, .null, .null, .null])), (q1, kx_ai E 24 (fun _ => 0)), (q2, kx_ai E 24 (fun _ => 0)), (q3, kx_ai E 48 (fun _ => 0)), (q4, kx_ai E 48 (fun _ => 0)), (q5, kx_az E 32 (fun _ => 0)), (q6, kx_ai E 1152 (fun _ => 0)), (q7, kx_ai E 48 (fun _ => 0)), (q8, kx_az E 48 (fun _ => 0)), (q9, kx_ai E 48 (fun _ => 0)), (q10, kx_ai E 576 (fun _ => 0)), (q11, kx_ai E 24 (fun _ => 0)), (q12, kx_ai E 1152 (fun _ => 0)), (q13, kx_ai E 48 (fun _ => 0)), (q14, kx_ai E 576 (fun _ => 0))]) (kx_aA w _ _) ?_
  refine kx_putF d_M_init_117 f_M_50 (p_M_18 _) rfl rfl rfl (by exact kx_gA w _ 0) (Nat.le_of_ble_eq_true rfl) ?_
  refine kx_w (w1 := w ++ [(h, .inr (5, [.int 0, .int 0, .ref q1, .ref q2, .ref q3, .ref q4, .ref q5, .int 0, .int 0, .int 0, .ref q6, .ref q7, .ref q8, .ref q9, .ref q10, .ref q11, .ref q12, .ref q13, .ref q14, .null, .null, .null, .null, .null, .null, .null, .null, .null, .null, .null, .null])), (q1, kx_ai E 24 (fun _ => 0)), (q2, kx_ai E 24 (fun _ => 0)), (q3, kx_ai E 48 (fun _ => 0)), (q4, kx_ai E 48 (fun _ => 0)), (q5, kx_az E 32 (fun _ => 0)), (q6, kx_ai E 1152 (fun _ => 0)), (q7, kx_ai E 48 (fun _ => 0)), (q8, kx_az E 48 (fun _ => 0)), (q9, kx_ai E 48 (fun _ => 0)), (q10, kx_ai E 576 (fun _ => 0)), (q11, kx_ai E 24 (fun _ => 0)), (q12, kx_ai E 1152 (fun _ => 0)), (q13, kx_ai E 48 (fun _ => 0)), (q14, kx_ai E 576 (fun _ => 0))]) (kx_sA w _ 0 _) ?_
  refine kx_aload_n d_M_init_120 rfl (by first | rfl | exact kx_rf _) ?_
  refine kx_sipush (nI 2304) d_M_init_121 (by decide) ?_
  refine kx_newa (t := 0) (n := 2304) (2304, .inl (fun _ => 0)) d_M_init_124 ac_int rfl rfl (fun cA => rfl) (by decide) (by decide) (by decide) (by decide) (fun q15 => ?_)
  refine kx_w (w1 := w ++ [(h, .inr (5, [.int 0, .int 0, .ref q1, .ref q2, .ref q3, .ref q4, .ref q5, .int 0, .int 0, .int 0, .ref q6, .ref q7, .ref q8, .ref q9, .ref q10, .ref q11, .ref q12, .ref q13, .ref q14, .null, .null, .null, .null, .null, .null, .null, .null, .null, .null, .null, .null])), (q1, kx_ai E 24 (fun _ => 0)), (q2, kx_ai E 24 (fun _ => 0)), (q3, kx_ai E 48 (fun _ => 0)), (q4, kx_ai E 48 (fun _ => 0)), (q5, kx_az E 32 (fun _ => 0)), (q6, kx_ai E 1152 (fun _ => 0)), (q7, kx_ai E 48 (fun _ => 0)), (q8, kx_az E 48 (fun _ => 0)), (q9, kx_ai E 48 (fun _ => 0)), (q10, kx_ai E 576 (fun _ => 0)), (q11, kx_ai E 24 (fun _ => 0)), (q12, kx_ai E 1152 (fun _ => 0)), (q13, kx_ai E 48 (fun _ => 0)), (q14, kx_ai E 576 (fun _ => 0)), (q15, kx_ai E 2304 (fun _ => 0))]) (kx_aA w _ _) ?_
  refine kx_putF d_M_init_126 f_M_53 (p_M_19 _) rfl rfl rfl (by exact kx_gA w _ 0) (Nat.le_of_ble_eq_true rfl) ?_
  refine kx_w (w1 := w ++ [(h, .inr (5, [.int 0, .int 0, .ref q1, .ref q2, .ref q3, .ref q4, .ref q5, .int 0, .int 0, .int 0, .ref q6, .ref q7, .ref q8, .ref q9, .ref q10, .ref q11, .ref q12, .ref q13, .ref q14, .ref q15, .null, .null, .null, .null, .null, .null, .null, .null, .null, .null, .null])), (q1, kx_ai E 24 (fun _ => 0)), (q2, kx_ai E 24 (fun _ => 0)), (q3, kx_ai E 48 (fun _ => 0)), (q4, kx_ai E 48 (fun _ => 0)), (q5, kx_az E 32 (fun _ => 0)), (q6, kx_ai E 1152 (fun _ => 0)), (q7, kx_ai E 48 (fun _ => 0)), (q8, kx_az E 48 (fun _ => 0)), (q9, kx_ai E 48 (fun _ => 0)), (q10, kx_ai E 576 (fun _ => 0)), (q11, kx_ai E 24 (fun _ => 0)), (q12, kx_ai E 1152 (fun _ => 0)), (q13, kx_ai E 48 (fun _ => 0)), (q14, kx_ai E 576 (fun _ => 0)), (q15, kx_ai E 2304 (fun _ => 0))]) (kx_sA w _ 0 _) ?_
  refine kx_aload_n d_M_init_129 rfl (by first | rfl | exact kx_rf _) ?_
  refine kx_bipush (nI 24) d_M_init_130 (by decide) ?_
  refine kx_newa (t := 0) (n := 24) (24, .inl (fun _ => 0)) d_M_init_132 ac_int rfl rfl (fun cA => rfl) (by decide) (by decide) (by decide) (by decide) (fun q16 => ?_)
  refine kx_w (w1 := w ++ [(h, .inr (5, [.int 0, .int 0, .ref q1, .ref q2, .ref q3, .ref q4, .ref q5, .int 0, .int 0, .int 0, .ref q6, .ref q7, .ref q8, .ref q9, .ref q10, .ref q11, .ref q12, .ref q13, .ref q14, .ref q15, .null, .null, .null, .null, .null, .null, .null, .null, .null, .null, .null])), (q1, kx_ai E 24 (fun _ => 0)), (q2, kx_ai E 24 (fun _ => 0)), (q3, kx_ai E 48 (fun _ => 0)), (q4, kx_ai E 48 (fun _ => 0)), (q5, kx_az E 32 (fun _ => 0)), (q6, kx_ai E 1152 (fun _ => 0)), (q7, kx_ai E 48 (fun _ => 0)), (q8, kx_az E 48 (fun _ => 0)), (q9, kx_ai E 48 (fun _ => 0)), (q10, kx_ai E 576 (fun _ => 0)), (q11, kx_ai E 24 (fun _ => 0)), (q12, kx_ai E 1152 (fun _ => 0)), (q13, kx_ai E 48 (fun _ => 0)), (q14, kx_ai E 576 (fun _ => 0)), (q15, kx_ai E 2304 (fun _ => 0)), (q16, kx_ai E 24 (fun _ => 0))]) (kx_aA w _ _) ?_
  refine kx_putF d_M_init_134 f_M_56 (p_M_20 _) rfl rfl rfl (by exact kx_gA w _ 0) (Nat.le_of_ble_eq_true rfl) ?_
  refine kx_w (w1 := w ++ [(h, .inr (5, [.int 0, .int 0, .ref q1, .ref q2, .ref q3, .ref q4, .ref q5, .int 0, .int 0, .int 0, .ref q6, .ref q7, .ref q8, .ref q9, .ref q10, .ref q11, .ref q12, .ref q13, .ref q14, .ref q15, .ref q16, .null, .null, .null, .null, .null, .null, .null, .null, .null, .null])), (q1, kx_ai E 24 (fun _ => 0)), (q2, kx_ai E 24 (fun _ => 0)), (q3, kx_ai E 48 (fun _ => 0)), (q4, kx_ai E 48 (fun _ => 0)), (q5, kx_az E 32 (fun _ => 0)), (q6, kx_ai E 1152 (fun _ => 0)), (q7, kx_ai E 48 (fun _ => 0)), (q8, kx_az E 48 (fun _ => 0)), (q9, kx_ai E 48 (fun _ => 0)), (q10, kx_ai E 576 (fun _ => 0)), (q11, kx_ai E 24 (fun _ => 0)), (q12, kx_ai E 1152 (fun _ => 0)), (q13, kx_ai E 48 (fun _ => 0)), (q14, kx_ai E 576 (fun _ => 0)), (q15, kx_ai E 2304 (fun _ => 0)), (q16, kx_ai E 24 (fun _ => 0))]) (kx_sA w _ 0 _) ?_
  refine kx_aload_n d_M_init_137 rfl (by first | rfl | exact kx_rf _) ?_
  refine kx_bipush (nI 24) d_M_init_138 (by decide) ?_
  refine kx_newa (t := 0) (n := 24) (24, .inl (fun _ => 0)) d_M_init_140 ac_int rfl rfl (fun cA => rfl) (by decide) (by decide) (by decide) (by decide) (fun q17 => ?_)
  refine kx_w (w1 := w ++ [(h, .inr (5, [.int 0, .int 0, .ref q1, .ref q2, .ref q3, .ref q4, .ref q5, .int 0, .int 0, .int 0, .ref q6, .ref q7, .ref q8, .ref q9, .ref q10, .ref q11, .ref q12, .ref q13, .ref q14, .ref q15, .ref q16, .null, .null, .null, .null, .null, .null, .null, .null, .null, .null])), (q1, kx_ai E 24 (fun _ => 0)), (q2, kx_ai E 24 (fun _ => 0)), (q3, kx_ai E 48 (fun _ => 0)), (q4, kx_ai E 48 (fun _ => 0)), (q5, kx_az E 32 (fun _ => 0)), (q6, kx_ai E 1152 (fun _ => 0)), (q7, kx_ai E 48 (fun _ => 0)), (q8, kx_az E 48 (fun _ => 0)), (q9, kx_ai E 48 (fun _ => 0)), (q10, kx_ai E 576 (fun _ => 0)), (q11, kx_ai E 24 (fun _ => 0)), (q12, kx_ai E 1152 (fun _ => 0)), (q13, kx_ai E 48 (fun _ => 0)), (q14, kx_ai E 576 (fun _ => 0)), (q15, kx_ai E 2304 (fun _ => 0)), (q16, kx_ai E 24 (fun _ => 0)), (q17, kx_ai E 24 (fun _ => 0))]) (kx_aA w _ _) ?_
  refine kx_putF d_M_init_142 f_M_59 (p_M_21 _) rfl rfl rfl (by exact kx_gA w _ 0) (Nat.le_of_ble_eq_true rfl) ?_
  refine kx_w (w1 := w ++ [(h, .inr (5, [.int 0, .int 0, .ref q1, .ref q2, .ref q3, .ref q4, .ref q5, .int 0, .int 0, .int 0, .ref q6, .ref q7, .ref q8, .ref q9, .ref q10, .ref q11, .ref q12, .ref q13, .ref q14, .ref q15, .ref q16, .ref q17, .null, .null, .null, .null, .null, .null, .null, .null, .null])), (q1, kx_ai E 24 (fun _ => 0)), (q2, kx_ai E 24 (fun _ => 0)), (q3, kx_ai E 48 (fun _ => 0)), (q4, kx_ai E 48 (fun _ => 0)), (q5, kx_az E 32 (fun _ => 0)), (q6, kx_ai E 1152 (fun _ => 0)), (q7, kx_ai E 48 (fun _ => 0)), (q8, kx_az E 48 (fun _ => 0)), (q9, kx_ai E 48 (fun _ => 0)), (q10, kx_ai E 576 (fun _ => 0)), (q11, kx_ai E 24 (fun _ => 0)), (q12, kx_ai E 1152 (fun _ => 0)), (q13, kx_ai E 48 (fun _ => 0)), (q14, kx_ai E 576 (fun _ => 0)), (q15, kx_ai E 2304 (fun _ => 0)), (q16, kx_ai E 24 (fun _ => 0)), (q17, kx_ai E 24 (fun _ => 0))]) (kx_sA w _ 0 _) ?_
  refine kx_aload_n d_M_init_145 rfl (by first | rfl | exact kx_rf _) ?_
  refine kx_sipush (nI 1152) d_M_init_146 (by decide) ?_
  refine kx_newa (t := 0) (n := 1152) (1152, .inl (fun _ => 0)) d_M_init_149 ac_int rfl rfl (fun cA => rfl) (by decide) (by decide) (by decide) (by decide) (fun q18 => ?_)
  refine kx_w (w1 := w ++ [(h, .inr (5, [.int 0, .int 0, .ref q1, .ref q2, .ref q3, .ref q4, .ref q5, .int 0, .int 0, .int 0, .ref q6, .ref q7, .ref q8, .ref q9, .ref q10, .ref q11, .ref q12, .ref q13, .ref q14, .ref q15, .ref q16, .ref q17, .null, .null, .null, .null, .null, .null, .null, .null, .null])), (q1, kx_ai E 24 (fun _ => 0)), (q2, kx_ai E 24 (fun _ => 0)), (q3, kx_ai E 48 (fun _ => 0)), (q4, kx_ai E 48 (fun _ => 0)), (q5, kx_az E 32 (fun _ => 0)), (q6, kx_ai E 1152 (fun _ => 0)), (q7, kx_ai E 48 (fun _ => 0)), (q8, kx_az E 48 (fun _ => 0)), (q9, kx_ai E 48 (fun _ => 0)), (q10, kx_ai E 576 (fun _ => 0)), (q11, kx_ai E 24 (fun _ => 0)), (q12, kx_ai E 1152 (fun _ => 0)), (q13, kx_ai E 48 (fun _ => 0)), (q14, kx_ai E 576 (fun _ => 0)), (q15, kx_ai E 2304 (fun _ => 0)), (q16, kx_ai E 24 (fun _ => 0)), (q17, kx_ai E 24 (fun _ => 0)), (q18, kx_ai E 1152 (fun _ => 0))]) (kx_aA w _ _) ?_
  refine kx_putF d_M_init_151 f_M_62 (p_M_22 _) rfl rfl rfl (by exact kx_gA w _ 0) (Nat.le_of_ble_eq_true rfl) ?_
  refine kx_w (w1 := w ++ [(h, .inr (5, [.int 0, .int 0, .ref q1, .ref q2, .ref q3, .ref q4, .ref q5, .int 0, .int 0, .int 0, .ref q6, .ref q7, .ref q8, .ref q9, .ref q10, .ref q11, .ref q12, .ref q13, .ref q14, .ref q15, .ref q16, .ref q17, .ref q18, .null, .null, .null, .null, .null, .null, .null, .null])), (q1, kx_ai E 24 (fun _ => 0)), (q2, kx_ai E 24 (fun _ => 0)), (q3, kx_ai E 48 (fun _ => 0)), (q4, kx_ai E 48 (fun _ => 0)), (q5, kx_az E 32 (fun _ => 0)), (q6, kx_ai E 1152 (fun _ => 0)), (q7, kx_ai E 48 (fun _ => 0)), (q8, kx_az E 48 (fun _ => 0)), (q9, kx_ai E 48 (fun _ => 0)), (q10, kx_ai E 576 (fun _ => 0)), (q11, kx_ai E 24 (fun _ => 0)), (q12, kx_ai E 1152 (fun _ => 0)), (q13, kx_ai E 48 (fun _ => 0)), (q14, kx_ai E 576 (fun _ => 0)), (q15, kx_ai E 2304 (fun _ => 0)), (q16, kx_ai E 24 (fun _ => 0)), (q17, kx_ai E 24 (fun _ => 0)), (q18, kx_ai E 1152 (fun _ => 0))]) (kx_sA w _ 0 _) ?_
  refine kx_aload_n d_M_init_154 rfl (by first | rfl | exact kx_rf _) ?_
  refine kx_bipush (nI 48) d_M_init_155 (by decide) ?_
  refine kx_newa (t := 0) (n := 48) (48, .inl (fun _ => 0)) d_M_init_157 ac_int rfl rfl (fun cA => rfl) (by decide) (by decide) (by decide) (by decide) (fun q19 => ?_)
  refine kx_w (w1 := w ++ [(h, .inr (5, [.int 0, .int 0, .ref q1, .ref q2, .ref q3, .ref q4, .ref q5, .int 0, .int 0, .int 0, .ref q6, .ref q7, .ref q8, .ref q9, .ref q10, .ref q11, .ref q12, .ref q13, .ref q14, .ref q15, .ref q16, .ref q17, .ref q18, .null, .null, .null, .null, .null, .null, .null, .null])), (q1, kx_ai E 24 (fun _ => 0)), (q2, kx_ai E 24 (fun _ => 0)), (q3, kx_ai E 48 (fun _ => 0)), (q4, kx_ai E 48 (fun _ => 0)), (q5, kx_az E 32 (fun _ => 0)), (q6, kx_ai E 1152 (fun _ => 0)), (q7, kx_ai E 48 (fun _ => 0)), (q8, kx_az E 48 (fun _ => 0)), (q9, kx_ai E 48 (fun _ => 0)), (q10, kx_ai E 576 (fun _ => 0)), (q11, kx_ai E 24 (fun _ => 0)), (q12, kx_ai E 1152 (fun _ => 0)), (q13, kx_ai E 48 (fun _ => 0)), (q14, kx_ai E 576 (fun _ => 0)), (q15, kx_ai E 2304 (fun _ => 0)), (q16, kx_ai E 24 (fun _ => 0)), (q17, kx_ai E 24 (fun _ => 0)), (q18, kx_ai E 1152 (fun _ => 0)), (q19, kx_ai E 48 (fun _ => 0))]) (kx_aA w _ _) ?_
  refine kx_putF d_M_init_159 f_M_65 (p_M_23 _) rfl rfl rfl (by exact kx_gA w _ 0) (Nat.le_of_ble_eq_true rfl) ?_
  refine kx_w (w1 := w ++ [(h, .inr (5, [.int 0, .int 0, .ref q1, .ref q2, .ref q3, .ref q4, .ref q5, .int 0, .int 0, .int 0, .ref q6, .ref q7, .ref q8, .ref q9, .ref q10, .ref q11, .ref q12, .ref q13, .ref q14, .ref q15, .ref q16, .ref q17, .ref q18, .ref q19, .null, .null, .null, .null, .null, .null, .null])), (q1, kx_ai E 24 (fun _ => 0)), (q2, kx_ai E 24 (fun _ => 0)), (q3, kx_ai E 48 (fun _ => 0)), (q4, kx_ai E 48 (fun _ => 0)), (q5, kx_az E 32 (fun _ => 0)), (q6, kx_ai E 1152 (fun _ => 0)), (q7, kx_ai E 48 (fun _ => 0)), (q8, kx_az E 48 (fun _ => 0)), (q9, kx_ai E 48 (fun _ => 0)), (q10, kx_ai E 576 (fun _ => 0)), (q11, kx_ai E 24 (fun _ => 0)), (q12, kx_ai E 1152 (fun _ => 0)), (q13, kx_ai E 48 (fun _ => 0)), (q14, kx_ai E 576 (fun _ => 0)), (q15, kx_ai E 2304 (fun _ => 0)), (q16, kx_ai E 24 (fun _ => 0)), (q17, kx_ai E 24 (fun _ => 0)), (q18, kx_ai E 1152 (fun _ => 0)), (q19, kx_ai E 48 (fun _ => 0))]) (kx_sA w _ 0 _) ?_
  refine kx_aload_n d_M_init_162 rfl (by first | rfl | exact kx_rf _) ?_
  refine kx_bipush (nI 48) d_M_init_163 (by decide) ?_
  refine kx_newa (t := 1) (n := 48) (48, .inl (fun _ => 0)) d_M_init_165 ac_boolean rfl rfl (fun cA => rfl) (by decide) (by decide) (by decide) (by decide) (fun q20 => ?_)
  refine kx_w (w1 := w ++ [(h, .inr (5, [.int 0, .int 0, .ref q1, .ref q2, .ref q3, .ref q4, .ref q5, .int 0, .int 0, .int 0, .ref q6, .ref q7, .ref q8, .ref q9, .ref q10, .ref q11, .ref q12, .ref q13, .ref q14, .ref q15, .ref q16, .ref q17, .ref q18, .ref q19, .null, .null, .null, .null, .null, .null, .null])), (q1, kx_ai E 24 (fun _ => 0)), (q2, kx_ai E 24 (fun _ => 0)), (q3, kx_ai E 48 (fun _ => 0)), (q4, kx_ai E 48 (fun _ => 0)), (q5, kx_az E 32 (fun _ => 0)), (q6, kx_ai E 1152 (fun _ => 0)), (q7, kx_ai E 48 (fun _ => 0)), (q8, kx_az E 48 (fun _ => 0)), (q9, kx_ai E 48 (fun _ => 0)), (q10, kx_ai E 576 (fun _ => 0)), (q11, kx_ai E 24 (fun _ => 0)), (q12, kx_ai E 1152 (fun _ => 0)), (q13, kx_ai E 48 (fun _ => 0)), (q14, kx_ai E 576 (fun _ => 0)), (q15, kx_ai E 2304 (fun _ => 0)), (q16, kx_ai E 24 (fun _ => 0)), (q17, kx_ai E 24 (fun _ => 0)), (q18, kx_ai E 1152 (fun _ => 0)), (q19, kx_ai E 48 (fun _ => 0)), (q20, kx_az E 48 (fun _ => 0))]) (kx_aA w _ _) ?_
  refine kx_putF d_M_init_167 f_M_68 (p_M_24 _) rfl rfl rfl (by exact kx_gA w _ 0) (Nat.le_of_ble_eq_true rfl) ?_
  refine kx_w (w1 := w ++ [(h, .inr (5, [.int 0, .int 0, .ref q1, .ref q2, .ref q3, .ref q4, .ref q5, .int 0, .int 0, .int 0, .ref q6, .ref q7, .ref q8, .ref q9, .ref q10, .ref q11, .ref q12, .ref q13, .ref q14, .ref q15, .ref q16, .ref q17, .ref q18, .ref q19, .ref q20, .null, .null, .null, .null, .null, .null])), (q1, kx_ai E 24 (fun _ => 0)), (q2, kx_ai E 24 (fun _ => 0)), (q3, kx_ai E 48 (fun _ => 0)), (q4, kx_ai E 48 (fun _ => 0)), (q5, kx_az E 32 (fun _ => 0)), (q6, kx_ai E 1152 (fun _ => 0)), (q7, kx_ai E 48 (fun _ => 0)), (q8, kx_az E 48 (fun _ => 0)), (q9, kx_ai E 48 (fun _ => 0)), (q10, kx_ai E 576 (fun _ => 0)), (q11, kx_ai E 24 (fun _ => 0)), (q12, kx_ai E 1152 (fun _ => 0)), (q13, kx_ai E 48 (fun _ => 0)), (q14, kx_ai E 576 (fun _ => 0)), (q15, kx_ai E 2304 (fun _ => 0)), (q16, kx_ai E 24 (fun _ => 0)), (q17, kx_ai E 24 (fun _ => 0)), (q18, kx_ai E 1152 (fun _ => 0)), (q19, kx_ai E 48 (fun _ => 0)), (q20, kx_az E 48 (fun _ => 0))]) (kx_sA w _ 0 _) ?_
  refine kx_aload_n d_M_init_170 rfl (by first | rfl | exact kx_rf _) ?_
  refine kx_sipush (nI 576) d_M_init_171 (by decide) ?_
  refine kx_newa (t := 0) (n := 576) (576, .inl (fun _ => 0)) d_M_init_174 ac_int rfl rfl (fun cA => rfl) (by decide) (by decide) (by decide) (by decide) (fun q21 => ?_)
  refine kx_w (w1 := w ++ [(h, .inr (5, [.int 0, .int 0, .ref q1, .ref q2, .ref q3, .ref q4, .ref q5, .int 0, .int 0, .int 0, .ref q6, .ref q7, .ref q8, .ref q9, .ref q10, .ref q11, .ref q12, .ref q13, .ref q14, .ref q15, .ref q16, .ref q17, .ref q18, .ref q19, .ref q20, .null, .null, .null, .null, .null, .null])), (q1, kx_ai E 24 (fun _ => 0)), (q2, kx_ai E 24 (fun _ => 0)), (q3, kx_ai E 48 (fun _ => 0)), (q4, kx_ai E 48 (fun _ => 0)), (q5, kx_az E 32 (fun _ => 0)), (q6, kx_ai E 1152 (fun _ => 0)), (q7, kx_ai E 48 (fun _ => 0)), (q8, kx_az E 48 (fun _ => 0)), (q9, kx_ai E 48 (fun _ => 0)), (q10, kx_ai E 576 (fun _ => 0)), (q11, kx_ai E 24 (fun _ => 0)), (q12, kx_ai E 1152 (fun _ => 0)), (q13, kx_ai E 48 (fun _ => 0)), (q14, kx_ai E 576 (fun _ => 0)), (q15, kx_ai E 2304 (fun _ => 0)), (q16, kx_ai E 24 (fun _ => 0)), (q17, kx_ai E 24 (fun _ => 0)), (q18, kx_ai E 1152 (fun _ => 0)), (q19, kx_ai E 48 (fun _ => 0)), (q20, kx_az E 48 (fun _ => 0)), (q21, kx_ai E 576 (fun _ => 0))]) (kx_aA w _ _) ?_
  refine kx_putF d_M_init_176 f_M_71 (p_M_25 _) rfl rfl rfl (by exact kx_gA w _ 0) (Nat.le_of_ble_eq_true rfl) ?_
  refine kx_w (w1 := w ++ [(h, .inr (5, [.int 0, .int 0, .ref q1, .ref q2, .ref q3, .ref q4, .ref q5, .int 0, .int 0, .int 0, .ref q6, .ref q7, .ref q8, .ref q9, .ref q10, .ref q11, .ref q12, .ref q13, .ref q14, .ref q15, .ref q16, .ref q17, .ref q18, .ref q19, .ref q20, .ref q21, .null, .null, .null, .null, .null])), (q1, kx_ai E 24 (fun _ => 0)), (q2, kx_ai E 24 (fun _ => 0)), (q3, kx_ai E 48 (fun _ => 0)), (q4, kx_ai E 48 (fun _ => 0)), (q5, kx_az E 32 (fun _ => 0)), (q6, kx_ai E 1152 (fun _ => 0)), (q7, kx_ai E 48 (fun _ => 0)), (q8, kx_az E 48 (fun _ => 0)), (q9, kx_ai E 48 (fun _ => 0)), (q10, kx_ai E 576 (fun _ => 0)), (q11, kx_ai E 24 (fun _ => 0)), (q12, kx_ai E 1152 (fun _ => 0)), (q13, kx_ai E 48 (fun _ => 0)), (q14, kx_ai E 576 (fun _ => 0)), (q15, kx_ai E 2304 (fun _ => 0)), (q16, kx_ai E 24 (fun _ => 0)), (q17, kx_ai E 24 (fun _ => 0)), (q18, kx_ai E 1152 (fun _ => 0)), (q19, kx_ai E 48 (fun _ => 0)), (q20, kx_az E 48 (fun _ => 0)), (q21, kx_ai E 576 (fun _ => 0))]) (kx_sA w _ 0 _) ?_
  refine kx_aload_n d_M_init_179 rfl (by first | rfl | exact kx_rf _) ?_
  refine kx_bipush (nI 24) d_M_init_180 (by decide) ?_
  refine kx_newa (t := 0) (n := 24) (24, .inl (fun _ => 0)) d_M_init_182 ac_int rfl rfl (fun cA => rfl) (by decide) (by decide) (by decide) (by decide) (fun q22 => ?_)
  refine kx_w (w1 := w ++ [(h, .inr (5, [.int 0, .int 0, .ref q1, .ref q2, .ref q3, .ref q4, .ref q5, .int 0, .int 0, .int 0, .ref q6, .ref q7, .ref q8, .ref q9, .ref q10, .ref q11, .ref q12, .ref q13, .ref q14, .ref q15, .ref q16, .ref q17, .ref q18, .ref q19, .ref q20, .ref q21, .null, .null, .null, .null, .null])), (q1, kx_ai E 24 (fun _ => 0)), (q2, kx_ai E 24 (fun _ => 0)), (q3, kx_ai E 48 (fun _ => 0)), (q4, kx_ai E 48 (fun _ => 0)), (q5, kx_az E 32 (fun _ => 0)), (q6, kx_ai E 1152 (fun _ => 0)), (q7, kx_ai E 48 (fun _ => 0)), (q8, kx_az E 48 (fun _ => 0)), (q9, kx_ai E 48 (fun _ => 0)), (q10, kx_ai E 576 (fun _ => 0)), (q11, kx_ai E 24 (fun _ => 0)), (q12, kx_ai E 1152 (fun _ => 0)), (q13, kx_ai E 48 (fun _ => 0)), (q14, kx_ai E 576 (fun _ => 0)), (q15, kx_ai E 2304 (fun _ => 0)), (q16, kx_ai E 24 (fun _ => 0)), (q17, kx_ai E 24 (fun _ => 0)), (q18, kx_ai E 1152 (fun _ => 0)), (q19, kx_ai E 48 (fun _ => 0)), (q20, kx_az E 48 (fun _ => 0)), (q21, kx_ai E 576 (fun _ => 0)), (q22, kx_ai E 24 (fun _ => 0))]) (kx_aA w _ _) ?_
  refine kx_putF d_M_init_184 f_M_74 (p_M_26 _) rfl rfl rfl (by exact kx_gA w _ 0) (Nat.le_of_ble_eq_true rfl) ?_
  refine kx_w (w1 := w ++ [(h, .inr (5, [.int 0, .int 0, .ref q1, .ref q2, .ref q3, .ref q4, .ref q5, .int 0, .int 0, .int 0, .ref q6, .ref q7, .ref q8, .ref q9, .ref q10, .ref q11, .ref q12, .ref q13, .ref q14, .ref q15, .ref q16, .ref q17, .ref q18, .ref q19, .ref q20, .ref q21, .ref q22, .null, .null, .null, .null])), (q1, kx_ai E 24 (fun _ => 0)), (q2, kx_ai E 24 (fun _ => 0)), (q3, kx_ai E 48 (fun _ => 0)), (q4, kx_ai E 48 (fun _ => 0)), (q5, kx_az E 32 (fun _ => 0)), (q6, kx_ai E 1152 (fun _ => 0)), (q7, kx_ai E 48 (fun _ => 0)), (q8, kx_az E 48 (fun _ => 0)), (q9, kx_ai E 48 (fun _ => 0)), (q10, kx_ai E 576 (fun _ => 0)), (q11, kx_ai E 24 (fun _ => 0)), (q12, kx_ai E 1152 (fun _ => 0)), (q13, kx_ai E 48 (fun _ => 0)), (q14, kx_ai E 576 (fun _ => 0)), (q15, kx_ai E 2304 (fun _ => 0)), (q16, kx_ai E 24 (fun _ => 0)), (q17, kx_ai E 24 (fun _ => 0)), (q18, kx_ai E 1152 (fun _ => 0)), (q19, kx_ai E 48 (fun _ => 0)), (q20, kx_az E 48 (fun _ => 0)), (q21, kx_ai E 576 (fun _ => 0)), (q22, kx_ai E 24 (fun _ => 0))]) (kx_sA w _ 0 _) ?_
  refine kx_aload_n d_M_init_187 rfl (by first | rfl | exact kx_rf _) ?_
  refine kx_sipush (nI 576) d_M_init_188 (by decide) ?_
  refine kx_newa (t := 0) (n := 576) (576, .inl (fun _ => 0)) d_M_init_191 ac_int rfl rfl (fun cA => rfl) (by decide) (by decide) (by decide) (by decide) (fun q23 => ?_)
  refine kx_w (w1 := w ++ [(h, .inr (5, [.int 0, .int 0, .ref q1, .ref q2, .ref q3, .ref q4, .ref q5, .int 0, .int 0, .int 0, .ref q6, .ref q7, .ref q8, .ref q9, .ref q10, .ref q11, .ref q12, .ref q13, .ref q14, .ref q15, .ref q16, .ref q17, .ref q18, .ref q19, .ref q20, .ref q21, .ref q22, .null, .null, .null, .null])), (q1, kx_ai E 24 (fun _ => 0)), (q2, kx_ai E 24 (fun _ => 0)), (q3, kx_ai E 48 (fun _ => 0)), (q4, kx_ai E 48 (fun _ => 0)), (q5, kx_az E 32 (fun _ => 0)), (q6, kx_ai E 1152 (fun _ => 0)), (q7, kx_ai E 48 (fun _ => 0)), (q8, kx_az E 48 (fun _ => 0)), (q9, kx_ai E 48 (fun _ => 0)), (q10, kx_ai E 576 (fun _ => 0)), (q11, kx_ai E 24 (fun _ => 0)), (q12, kx_ai E 1152 (fun _ => 0)), (q13, kx_ai E 48 (fun _ => 0)), (q14, kx_ai E 576 (fun _ => 0)), (q15, kx_ai E 2304 (fun _ => 0)), (q16, kx_ai E 24 (fun _ => 0)), (q17, kx_ai E 24 (fun _ => 0)), (q18, kx_ai E 1152 (fun _ => 0)), (q19, kx_ai E 48 (fun _ => 0)), (q20, kx_az E 48 (fun _ => 0)), (q21, kx_ai E 576 (fun _ => 0)), (q22, kx_ai E 24 (fun _ => 0)), (q23, kx_ai E 576 (fun _ => 0))]) (kx_aA w _ _) ?_
  refine kx_putF d_M_init_193 f_M_77 (p_M_27 _) rfl rfl rfl (by exact kx_gA w _ 0) (Nat.le_of_ble_eq_true rfl) ?_
  refine kx_w (w1 := w ++ [(h, .inr (5, [.int 0, .int 0, .ref q1, .ref q2, .ref q3, .ref q4, .ref q5, .int 0, .int 0, .int 0, .ref q6, .ref q7, .ref q8, .ref q9, .ref q10, .ref q11, .ref q12, .ref q13, .ref q14, .ref q15, .ref q16, .ref q17, .ref q18, .ref q19, .ref q20, .ref q21, .ref q22, .ref q23, .null, .null, .null])), (q1, kx_ai E 24 (fun _ => 0)), (q2, kx_ai E 24 (fun _ => 0)), (q3, kx_ai E 48 (fun _ => 0)), (q4, kx_ai E 48 (fun _ => 0)), (q5, kx_az E 32 (fun _ => 0)), (q6, kx_ai E 1152 (fun _ => 0)), (q7, kx_ai E 48 (fun _ => 0)), (q8, kx_az E 48 (fun _ => 0)), (q9, kx_ai E 48 (fun _ => 0)), (q10, kx_ai E 576 (fun _ => 0)), (q11, kx_ai E 24 (fun _ => 0)), (q12, kx_ai E 1152 (fun _ => 0)), (q13, kx_ai E 48 (fun _ => 0)), (q14, kx_ai E 576 (fun _ => 0)), (q15, kx_ai E 2304 (fun _ => 0)), (q16, kx_ai E 24 (fun _ => 0)), (q17, kx_ai E 24 (fun _ => 0)), (q18, kx_ai E 1152 (fun _ => 0)), (q19, kx_ai E 48 (fun _ => 0)), (q20, kx_az E 48 (fun _ => 0)), (q21, kx_ai E 576 (fun _ => 0)), (q22, kx_ai E 24 (fun _ => 0)), (q23, kx_ai E 576 (fun _ => 0))]) (kx_sA w _ 0 _) ?_
  refine kx_aload_n d_M_init_196 rfl (by first | rfl | exact kx_rf _) ?_
  refine kx_sipush (nI 2304) d_M_init_197 (by decide) ?_
  refine kx_newa (t := 0) (n := 2304) (2304, .inl (fun _ => 0)) d_M_init_200 ac_int rfl rfl (fun cA => rfl) (by decide) (by decide) (by decide) (by decide) (fun q24 => ?_)
  refine kx_w (w1 := w ++ [(h, .inr (5, [.int 0, .int 0, .ref q1, .ref q2, .ref q3, .ref q4, .ref q5, .int 0, .int 0, .int 0, .ref q6, .ref q7, .ref q8, .ref q9, .ref q10, .ref q11, .ref q12, .ref q13, .ref q14, .ref q15, .ref q16, .ref q17, .ref q18, .ref q19, .ref q20, .ref q21, .ref q22, .ref q23, .null, .null, .null])), (q1, kx_ai E 24 (fun _ => 0)), (q2, kx_ai E 24 (fun _ => 0)), (q3, kx_ai E 48 (fun _ => 0)), (q4, kx_ai E 48 (fun _ => 0)), (q5, kx_az E 32 (fun _ => 0)), (q6, kx_ai E 1152 (fun _ => 0)), (q7, kx_ai E 48 (fun _ => 0)), (q8, kx_az E 48 (fun _ => 0)), (q9, kx_ai E 48 (fun _ => 0)), (q10, kx_ai E 576 (fun _ => 0)), (q11, kx_ai E 24 (fun _ => 0)), (q12, kx_ai E 1152 (fun _ => 0)), (q13, kx_ai E 48 (fun _ => 0)), (q14, kx_ai E 576 (fun _ => 0)), (q15, kx_ai E 2304 (fun _ => 0)), (q16, kx_ai E 24 (fun _ => 0)), (q17, kx_ai E 24 (fun _ => 0)), (q18, kx_ai E 1152 (fun _ => 0)), (q19, kx_ai E 48 (fun _ => 0)), (q20, kx_az E 48 (fun _ => 0)), (q21, kx_ai E 576 (fun _ => 0)), (q22, kx_ai E 24 (fun _ => 0)), (q23, kx_ai E 576 (fun _ => 0)), (q24, kx_ai E 2304 (fun _ => 0))]) (kx_aA w _ _) ?_
  refine kx_putF d_M_init_202 f_M_80 (p_M_28 _) rfl rfl rfl (by exact kx_gA w _ 0) (Nat.le_of_ble_eq_true rfl) ?_
  refine kx_w (w1 := w ++ [(h, .inr (5, [.int 0, .int 0, .ref q1, .ref q2, .ref q3, .ref q4, .ref q5, .int 0, .int 0, .int 0, .ref q6, .ref q7, .ref q8, .ref q9, .ref q10, .ref q11, .ref q12, .ref q13, .ref q14, .ref q15, .ref q16, .ref q17, .ref q18, .ref q19, .ref q20, .ref q21, .ref q22, .ref q23, .ref q24, .null, .null])), (q1, kx_ai E 24 (fun _ => 0)), (q2, kx_ai E 24 (fun _ => 0)), (q3, kx_ai E 48 (fun _ => 0)), (q4, kx_ai E 48 (fun _ => 0)), (q5, kx_az E 32 (fun _ => 0)), (q6, kx_ai E 1152 (fun _ => 0)), (q7, kx_ai E 48 (fun _ => 0)), (q8, kx_az E 48 (fun _ => 0)), (q9, kx_ai E 48 (fun _ => 0)), (q10, kx_ai E 576 (fun _ => 0)), (q11, kx_ai E 24 (fun _ => 0)), (q12, kx_ai E 1152 (fun _ => 0)), (q13, kx_ai E 48 (fun _ => 0)), (q14, kx_ai E 576 (fun _ => 0)), (q15, kx_ai E 2304 (fun _ => 0)), (q16, kx_ai E 24 (fun _ => 0)), (q17, kx_ai E 24 (fun _ => 0)), (q18, kx_ai E 1152 (fun _ => 0)), (q19, kx_ai E 48 (fun _ => 0)), (q20, kx_az E 48 (fun _ => 0)), (q21, kx_ai E 576 (fun _ => 0)), (q22, kx_ai E 24 (fun _ => 0)), (q23, kx_ai E 576 (fun _ => 0)), (q24, kx_ai E 2304 (fun _ => 0))]) (kx_sA w _ 0 _) ?_
  refine kx_aload_n d_M_init_205 rfl (by first | rfl | exact kx_rf _) ?_
  refine kx_bipush (nI 64) d_M_init_206 (by decide) ?_
  refine kx_newa (t := 0) (n := 64) (64, .inl (fun _ => 0)) d_M_init_208 ac_int rfl rfl (fun cA => rfl) (by decide) (by decide) (by decide) (by decide) (fun q25 => ?_)
  refine kx_w (w1 := w ++ [(h, .inr (5, [.int 0, .int 0, .ref q1, .ref q2, .ref q3, .ref q4, .ref q5, .int 0, .int 0, .int 0, .ref q6, .ref q7, .ref q8, .ref q9, .ref q10, .ref q11, .ref q12, .ref q13, .ref q14, .ref q15, .ref q16, .ref q17, .ref q18, .ref q19, .ref q20, .ref q21, .ref q22, .ref q23, .ref q24, .null, .null])), (q1, kx_ai E 24 (fun _ => 0)), (q2, kx_ai E 24 (fun _ => 0)), (q3, kx_ai E 48 (fun _ => 0)), (q4, kx_ai E 48 (fun _ => 0)), (q5, kx_az E 32 (fun _ => 0)), (q6, kx_ai E 1152 (fun _ => 0)), (q7, kx_ai E 48 (fun _ => 0)), (q8, kx_az E 48 (fun _ => 0)), (q9, kx_ai E 48 (fun _ => 0)), (q10, kx_ai E 576 (fun _ => 0)), (q11, kx_ai E 24 (fun _ => 0)), (q12, kx_ai E 1152 (fun _ => 0)), (q13, kx_ai E 48 (fun _ => 0)), (q14, kx_ai E 576 (fun _ => 0)), (q15, kx_ai E 2304 (fun _ => 0)), (q16, kx_ai E 24 (fun _ => 0)), (q17, kx_ai E 24 (fun _ => 0)), (q18, kx_ai E 1152 (fun _ => 0)), (q19, kx_ai E 48 (fun _ => 0)), (q20, kx_az E 48 (fun _ => 0)), (q21, kx_ai E 576 (fun _ => 0)), (q22, kx_ai E 24 (fun _ => 0)), (q23, kx_ai E 576 (fun _ => 0)), (q24, kx_ai E 2304 (fun _ => 0)), (q25, kx_ai E 64 (fun _ => 0))]) (kx_aA w _ _) ?_
  refine kx_putF d_M_init_210 f_M_83 (p_M_29 _) rfl rfl rfl (by exact kx_gA w _ 0) (Nat.le_of_ble_eq_true rfl) ?_
  refine kx_w (w1 := w ++ [(h, .inr (5, [.int 0, .int 0, .ref q1, .ref q2, .ref q3, .ref q4, .ref q5, .int 0, .int 0, .int 0, .ref q6, .ref q7, .ref q8, .ref q9, .ref q10, .ref q11, .ref q12, .ref q13, .ref q14, .ref q15, .ref q16, .ref q17, .ref q18, .ref q19, .ref q20, .ref q21, .ref q22, .ref q23, .ref q24, .ref q25, .null])), (q1, kx_ai E 24 (fun _ => 0)), (q2, kx_ai E 24 (fun _ => 0)), (q3, kx_ai E 48 (fun _ => 0)), (q4, kx_ai E 48 (fun _ => 0)), (q5, kx_az E 32 (fun _ => 0)), (q6, kx_ai E 1152 (fun _ => 0)), (q7, kx_ai E 48 (fun _ => 0)), (q8, kx_az E 48 (fun _ => 0)), (q9, kx_ai E 48 (fun _ => 0)), (q10, kx_ai E 576 (fun _ => 0)), (q11, kx_ai E 24 (fun _ => 0)), (q12, kx_ai E 1152 (fun _ => 0)), (q13, kx_ai E 48 (fun _ => 0)), (q14, kx_ai E 576 (fun _ => 0)), (q15, kx_ai E 2304 (fun _ => 0)), (q16, kx_ai E 24 (fun _ => 0)), (q17, kx_ai E 24 (fun _ => 0)), (q18, kx_ai E 1152 (fun _ => 0)), (q19, kx_ai E 48 (fun _ => 0)), (q20, kx_az E 48 (fun _ => 0)), (q21, kx_ai E 576 (fun _ => 0)), (q22, kx_ai E 24 (fun _ => 0)), (q23, kx_ai E 576 (fun _ => 0)), (q24, kx_ai E 2304 (fun _ => 0)), (q25, kx_ai E 64 (fun _ => 0))]) (kx_sA w _ 0 _) ?_
  refine kx_aload_n d_M_init_213 rfl (by first | rfl | exact kx_rf _) ?_
  refine kx_bipush (nI 24) d_M_init_214 (by decide) ?_
  refine kx_newa (t := 0) (n := 24) (24, .inl (fun _ => 0)) d_M_init_216 ac_int rfl rfl (fun cA => rfl) (by decide) (by decide) (by decide) (by decide) (fun q26 => ?_)
  refine kx_w (w1 := w ++ [(h, .inr (5, [.int 0, .int 0, .ref q1, .ref q2, .ref q3, .ref q4, .ref q5, .int 0, .int 0, .int 0, .ref q6, .ref q7, .ref q8, .ref q9, .ref q10, .ref q11, .ref q12, .ref q13, .ref q14, .ref q15, .ref q16, .ref q17, .ref q18, .ref q19, .ref q20, .ref q21, .ref q22, .ref q23, .ref q24, .ref q25, .null])), (q1, kx_ai E 24 (fun _ => 0)), (q2, kx_ai E 24 (fun _ => 0)), (q3, kx_ai E 48 (fun _ => 0)), (q4, kx_ai E 48 (fun _ => 0)), (q5, kx_az E 32 (fun _ => 0)), (q6, kx_ai E 1152 (fun _ => 0)), (q7, kx_ai E 48 (fun _ => 0)), (q8, kx_az E 48 (fun _ => 0)), (q9, kx_ai E 48 (fun _ => 0)), (q10, kx_ai E 576 (fun _ => 0)), (q11, kx_ai E 24 (fun _ => 0)), (q12, kx_ai E 1152 (fun _ => 0)), (q13, kx_ai E 48 (fun _ => 0)), (q14, kx_ai E 576 (fun _ => 0)), (q15, kx_ai E 2304 (fun _ => 0)), (q16, kx_ai E 24 (fun _ => 0)), (q17, kx_ai E 24 (fun _ => 0)), (q18, kx_ai E 1152 (fun _ => 0)), (q19, kx_ai E 48 (fun _ => 0)), (q20, kx_az E 48 (fun _ => 0)), (q21, kx_ai E 576 (fun _ => 0)), (q22, kx_ai E 24 (fun _ => 0)), (q23, kx_ai E 576 (fun _ => 0)), (q24, kx_ai E 2304 (fun _ => 0)), (q25, kx_ai E 64 (fun _ => 0)), (q26, kx_ai E 24 (fun _ => 0))]) (kx_aA w _ _) ?_
  refine kx_putF d_M_init_218 f_M_86 (p_M_30 _) rfl rfl rfl (by exact kx_gA w _ 0) (Nat.le_of_ble_eq_true rfl) ?_
  refine kx_w (w1 := w ++ [(h, .inr (5, [.int 0, .int 0, .ref q1, .ref q2, .ref q3, .ref q4, .ref q5, .int 0, .int 0, .int 0, .ref q6, .ref q7, .ref q8, .ref q9, .ref q10, .ref q11, .ref q12, .ref q13, .ref q14, .ref q15, .ref q16, .ref q17, .ref q18, .ref q19, .ref q20, .ref q21, .ref q22, .ref q23, .ref q24, .ref q25, .ref q26])), (q1, kx_ai E 24 (fun _ => 0)), (q2, kx_ai E 24 (fun _ => 0)), (q3, kx_ai E 48 (fun _ => 0)), (q4, kx_ai E 48 (fun _ => 0)), (q5, kx_az E 32 (fun _ => 0)), (q6, kx_ai E 1152 (fun _ => 0)), (q7, kx_ai E 48 (fun _ => 0)), (q8, kx_az E 48 (fun _ => 0)), (q9, kx_ai E 48 (fun _ => 0)), (q10, kx_ai E 576 (fun _ => 0)), (q11, kx_ai E 24 (fun _ => 0)), (q12, kx_ai E 1152 (fun _ => 0)), (q13, kx_ai E 48 (fun _ => 0)), (q14, kx_ai E 576 (fun _ => 0)), (q15, kx_ai E 2304 (fun _ => 0)), (q16, kx_ai E 24 (fun _ => 0)), (q17, kx_ai E 24 (fun _ => 0)), (q18, kx_ai E 1152 (fun _ => 0)), (q19, kx_ai E 48 (fun _ => 0)), (q20, kx_az E 48 (fun _ => 0)), (q21, kx_ai E 576 (fun _ => 0)), (q22, kx_ai E 24 (fun _ => 0)), (q23, kx_ai E 576 (fun _ => 0)), (q24, kx_ai E 2304 (fun _ => 0)), (q25, kx_ai E 64 (fun _ => 0)), (q26, kx_ai E 24 (fun _ => 0))]) (kx_sA w _ 0 _) ?_
  refine kx_vret d_M_init_221 rfl (by decide) (by decide) ?_
  exact ⟨rfl, fun j => [h, q1, q2, q3, q4, q5, q6, q7, q8, q9, q10, q11, q12, q13, q14, q15, q16, q17, q18, q19, q20, q21, q22, q23, q24, q25, q26].getD j 0, rfl⟩
