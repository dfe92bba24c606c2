/-! Car: the draft and the directory -/
/-- the run as a car sees it, out of its two views: empty if it has none -/
def draftI (l0 l1 : List Nat) (it : Nat) (b0 b1 : Int32) : List Nat :=
  if b0 = nI 0 ∨ b1 = nI 0 ∨ 24 < l0.length + 1 + l1.length then []
  else if rowTw (rowTurn l0 ++ [it] ++ l1) = 1 then []
  else if (rowTurn l0 ++ [it] ++ l1).getD (l0.length + l1.length) 0 / 2 < (rowTurn l0 ++ [it] ++ l1).getD 0 0 / 2 then rowTurn (rowTurn l0 ++ [it] ++ l1) else rowTurn l0 ++ [it] ++ l1
def draL (L : Nat → List Nat) (S : Nat → Nat → Int32) (c : Nat) : Nat → List Nat := up1 L (carB c + 28) (draftI (L (carE c 0 + 1)) (L (carE c 1 + 1)) (clN (S (carE c 0) 0)) (S (carE c 0) 7) (S (carE c 1) 7))
theorem d_C_draftDirectory_0 : decode c_C_draftDirectory 0 = .ok (.aload_n 0, 1) := by decide +kernel
theorem d_C_draftDirectory_1 : decode c_C_draftDirectory 1 = .ok (.getfield 20, 3) := by decide +kernel
theorem d_C_draftDirectory_4 : decode c_C_draftDirectory 4 = .ok (.iconst 0, 1) := by decide +kernel
theorem d_C_draftDirectory_5 : decode c_C_draftDirectory 5 = .ok (.aaload, 1) := by decide +kernel
theorem d_C_draftDirectory_6 : decode c_C_draftDirectory 6 = .ok (.getfield 90, 3) := by decide +kernel
theorem d_C_draftDirectory_9 : decode c_C_draftDirectory 9 = .ok (.astore_n 2, 1) := by decide +kernel
theorem d_C_draftDirectory_10 : decode c_C_draftDirectory 10 = .ok (.aload_n 0, 1) := by decide +kernel
theorem d_C_draftDirectory_11 : decode c_C_draftDirectory 11 = .ok (.getfield 20, 3) := by decide +kernel
theorem d_C_draftDirectory_14 : decode c_C_draftDirectory 14 = .ok (.iconst 1, 1) := by decide +kernel
theorem d_C_draftDirectory_15 : decode c_C_draftDirectory 15 = .ok (.aaload, 1) := by decide +kernel
theorem d_C_draftDirectory_16 : decode c_C_draftDirectory 16 = .ok (.getfield 90, 3) := by decide +kernel
theorem d_C_draftDirectory_19 : decode c_C_draftDirectory 19 = .ok (.astore_n 3, 1) := by decide +kernel
theorem d_C_draftDirectory_20 : decode c_C_draftDirectory 20 = .ok (.aload_n 2, 1) := by decide +kernel
theorem d_C_draftDirectory_21 : decode c_C_draftDirectory 21 = .ok (.getfield 76, 3) := by decide +kernel
theorem d_C_draftDirectory_24 : decode c_C_draftDirectory 24 = .ok (.iconst 1, 1) := by decide +kernel
theorem d_C_draftDirectory_25 : decode c_C_draftDirectory 25 = .ok (.iadd, 1) := by decide +kernel
theorem d_C_draftDirectory_26 : decode c_C_draftDirectory 26 = .ok (.aload_n 3, 1) := by decide +kernel
theorem d_C_draftDirectory_27 : decode c_C_draftDirectory 27 = .ok (.getfield 76, 3) := by decide +kernel
theorem d_C_draftDirectory_30 : decode c_C_draftDirectory 30 = .ok (.iadd, 1) := by decide +kernel
theorem d_C_draftDirectory_31 : decode c_C_draftDirectory 31 = .ok (.bipush 24, 2) := by decide +kernel
theorem d_C_draftDirectory_33 : decode c_C_draftDirectory 33 = .ok (.if_icmp .le 7, 3) := by decide +kernel
theorem d_C_draftDirectory_36 : decode c_C_draftDirectory 36 = .ok (.iconst 1, 1) := by decide +kernel
theorem d_C_draftDirectory_37 : decode c_C_draftDirectory 37 = .ok (.goto 4, 3) := by decide +kernel
theorem d_C_draftDirectory_40 : decode c_C_draftDirectory 40 = .ok (.iconst 0, 1) := by decide +kernel
theorem d_C_draftDirectory_41 : decode c_C_draftDirectory 41 = .ok (.istore 4, 2) := by decide +kernel
theorem d_C_draftDirectory_43 : decode c_C_draftDirectory 43 = .ok (.aload_n 0, 1) := by decide +kernel
theorem d_C_draftDirectory_44 : decode c_C_draftDirectory 44 = .ok (.getfield 20, 3) := by decide +kernel
theorem d_C_draftDirectory_47 : decode c_C_draftDirectory 47 = .ok (.iconst 0, 1) := by decide +kernel
theorem d_C_draftDirectory_48 : decode c_C_draftDirectory 48 = .ok (.aaload, 1) := by decide +kernel
theorem d_C_draftDirectory_49 : decode c_C_draftDirectory 49 = .ok (.getfield 93, 3) := by decide +kernel
theorem d_C_draftDirectory_52 : decode c_C_draftDirectory 52 = .ok (.ifCond .eq 20, 3) := by decide +kernel
theorem d_C_draftDirectory_55 : decode c_C_draftDirectory 55 = .ok (.aload_n 0, 1) := by decide +kernel
theorem d_C_draftDirectory_56 : decode c_C_draftDirectory 56 = .ok (.getfield 20, 3) := by decide +kernel
theorem d_C_draftDirectory_59 : decode c_C_draftDirectory 59 = .ok (.iconst 1, 1) := by decide +kernel
theorem d_C_draftDirectory_60 : decode c_C_draftDirectory 60 = .ok (.aaload, 1) := by decide +kernel
theorem d_C_draftDirectory_61 : decode c_C_draftDirectory 61 = .ok (.getfield 93, 3) := by decide +kernel
theorem d_C_draftDirectory_64 : decode c_C_draftDirectory 64 = .ok (.ifCond .eq 8, 3) := by decide +kernel
theorem d_C_draftDirectory_67 : decode c_C_draftDirectory 67 = .ok (.iload 4, 2) := by decide +kernel
theorem d_C_draftDirectory_69 : decode c_C_draftDirectory 69 = .ok (.ifCond .eq 11, 3) := by decide +kernel
theorem d_C_draftDirectory_72 : decode c_C_draftDirectory 72 = .ok (.aload_n 0, 1) := by decide +kernel
theorem d_C_draftDirectory_73 : decode c_C_draftDirectory 73 = .ok (.getfield 38, 3) := by decide +kernel
theorem d_C_draftDirectory_76 : decode c_C_draftDirectory 76 = .ok (.invokevirtual 57, 3) := by decide +kernel
theorem d_C_draftDirectory_79 : decode c_C_draftDirectory 79 = .ok (.return_, 1) := by decide +kernel
theorem d_C_draftDirectory_80 : decode c_C_draftDirectory 80 = .ok (.aload_n 0, 1) := by decide +kernel
theorem d_C_draftDirectory_81 : decode c_C_draftDirectory 81 = .ok (.getfield 38, 3) := by decide +kernel
theorem d_C_draftDirectory_84 : decode c_C_draftDirectory 84 = .ok (.aload_n 2, 1) := by decide +kernel
theorem d_C_draftDirectory_85 : decode c_C_draftDirectory 85 = .ok (.invokevirtual 128, 3) := by decide +kernel
theorem d_C_draftDirectory_88 : decode c_C_draftDirectory 88 = .ok (.aload_n 0, 1) := by decide +kernel
theorem d_C_draftDirectory_89 : decode c_C_draftDirectory 89 = .ok (.getfield 38, 3) := by decide +kernel
theorem d_C_draftDirectory_92 : decode c_C_draftDirectory 92 = .ok (.invokevirtual 167, 3) := by decide +kernel
theorem d_C_draftDirectory_95 : decode c_C_draftDirectory 95 = .ok (.aload_n 0, 1) := by decide +kernel
theorem d_C_draftDirectory_96 : decode c_C_draftDirectory 96 = .ok (.getfield 38, 3) := by decide +kernel
theorem d_C_draftDirectory_99 : decode c_C_draftDirectory 99 = .ok (.aload_n 0, 1) := by decide +kernel
theorem d_C_draftDirectory_100 : decode c_C_draftDirectory 100 = .ok (.getfield 20, 3) := by decide +kernel
theorem d_C_draftDirectory_103 : decode c_C_draftDirectory 103 = .ok (.iconst 0, 1) := by decide +kernel
theorem d_C_draftDirectory_104 : decode c_C_draftDirectory 104 = .ok (.aaload, 1) := by decide +kernel
theorem d_C_draftDirectory_105 : decode c_C_draftDirectory 105 = .ok (.getfield 119, 3) := by decide +kernel
theorem d_C_draftDirectory_108 : decode c_C_draftDirectory 108 = .ok (.invokevirtual 170, 3) := by decide +kernel
theorem d_C_draftDirectory_111 : decode c_C_draftDirectory 111 = .ok (.aload_n 0, 1) := by decide +kernel
theorem d_C_draftDirectory_112 : decode c_C_draftDirectory 112 = .ok (.getfield 38, 3) := by decide +kernel
theorem d_C_draftDirectory_115 : decode c_C_draftDirectory 115 = .ok (.aload_n 3, 1) := by decide +kernel
theorem d_C_draftDirectory_116 : decode c_C_draftDirectory 116 = .ok (.invokevirtual 173, 3) := by decide +kernel
theorem d_C_draftDirectory_119 : decode c_C_draftDirectory 119 = .ok (.aload_n 0, 1) := by decide +kernel
theorem d_C_draftDirectory_120 : decode c_C_draftDirectory 120 = .ok (.getfield 38, 3) := by decide +kernel
theorem d_C_draftDirectory_123 : decode c_C_draftDirectory 123 = .ok (.aload_n 1, 1) := by decide +kernel
theorem d_C_draftDirectory_124 : decode c_C_draftDirectory 124 = .ok (.invokevirtual 176, 3) := by decide +kernel
theorem d_C_draftDirectory_127 : decode c_C_draftDirectory 127 = .ok (.ifCond .eq 13, 3) := by decide +kernel
theorem d_C_draftDirectory_130 : decode c_C_draftDirectory 130 = .ok (.aload_n 0, 1) := by decide +kernel
theorem d_C_draftDirectory_131 : decode c_C_draftDirectory 131 = .ok (.getfield 38, 3) := by decide +kernel
theorem d_C_draftDirectory_134 : decode c_C_draftDirectory 134 = .ok (.invokevirtual 57, 3) := by decide +kernel
theorem d_C_draftDirectory_137 : decode c_C_draftDirectory 137 = .ok (.goto 35, 3) := by decide +kernel
theorem d_C_draftDirectory_140 : decode c_C_draftDirectory 140 = .ok (.aload_n 0, 1) := by decide +kernel
theorem d_C_draftDirectory_141 : decode c_C_draftDirectory 141 = .ok (.getfield 38, 3) := by decide +kernel
theorem d_C_draftDirectory_144 : decode c_C_draftDirectory 144 = .ok (.iconst 1, 1) := by decide +kernel
theorem d_C_draftDirectory_145 : decode c_C_draftDirectory 145 = .ok (.invokevirtual 180, 3) := by decide +kernel
theorem d_C_draftDirectory_148 : decode c_C_draftDirectory 148 = .ok (.aload_n 0, 1) := by decide +kernel
theorem d_C_draftDirectory_149 : decode c_C_draftDirectory 149 = .ok (.getfield 38, 3) := by decide +kernel
theorem d_C_draftDirectory_152 : decode c_C_draftDirectory 152 = .ok (.aload_n 0, 1) := by decide +kernel
theorem d_C_draftDirectory_153 : decode c_C_draftDirectory 153 = .ok (.getfield 38, 3) := by decide +kernel
theorem d_C_draftDirectory_156 : decode c_C_draftDirectory 156 = .ok (.getfield 76, 3) := by decide +kernel
theorem d_C_draftDirectory_159 : decode c_C_draftDirectory 159 = .ok (.invokevirtual 180, 3) := by decide +kernel
theorem d_C_draftDirectory_162 : decode c_C_draftDirectory 162 = .ok (.if_icmp .le 10, 3) := by decide +kernel
theorem d_C_draftDirectory_165 : decode c_C_draftDirectory 165 = .ok (.aload_n 0, 1) := by decide +kernel
theorem d_C_draftDirectory_166 : decode c_C_draftDirectory 166 = .ok (.getfield 38, 3) := by decide +kernel
theorem d_C_draftDirectory_169 : decode c_C_draftDirectory 169 = .ok (.invokevirtual 167, 3) := by decide +kernel
theorem d_C_draftDirectory_172 : decode c_C_draftDirectory 172 = .ok (.return_, 1) := by decide +kernel
set_option maxRecDepth 20000 in
set_option maxHeartbeats 4000000 in
theorem m_C_draftDirectory {E : kx_E} {w : va_W} {n : Nat} {ad : Nat → Nat} {L : Nat → List Nat} {V S : Nat → Nat → Int32} {pe bi : Nat → Option Nat} (hC : Cls E w n ad L V S pe bi) {c : Nat} (hc : c < n) (hI : InvS n S) : kx_S E Y_C_draftDirectory [.ref (ad (carB c)), .ref (ad 3)] w (CQ E w n ad (draL L S c) V S pe bi none) := by
  refine kx_go (by decide) rfl rfl (Nat.le_of_ble_eq_true rfl) (kx_cc rfl (kx_cc rfl kx_c0)) (fun z => ?_)
  have hO : kx_off w w clsN := kx_off.rf
  have he0 : endN n (carE c 0) := carE_N hc
  have he1 : endN n (carE c 1) := carE_N hc
  obtain ⟨it, hit, hit0⟩ := hI.item he0
  have hw0 := hI.whl he0
  have hw1 := hI.whl he1
  have hl0 := (hC.row _ (rowN_e1 he0)).2.2.1
  have hl1 := (hC.row _ (rowN_e1 he1)).2.2.1
  have r28 := rowN_28 hc
  have m0 : carB c + 28 ≠ carE c 0 + 1 := by unfold endN at he0; simp only [carB]; omega
  have m1 : carE c 1 + 1 ≠ carB c + 28 := by unfold endN at he1; simp only [carB]; omega
  have m2 : carB c + 28 ≠ carE c 1 + 1 := Ne.symm m1
  unfold draL
  rw [hit0, clN_nI (by omega)]
  generalize hG0 : L (carE c 0 + 1) = l0 at hl0 ⊢
  generalize hG1 : L (carE c 1 + 1) = l1 at hl1 ⊢
  have hv512 : ∀ v ∈ rowTurn l0 ++ [it] ++ l1, v < 512 := by
    intro v hv
    rcases List.mem_append.mp hv with hv | hv
    · rcases List.mem_append.mp hv with hv | hv
      · unfold rowTurn at hv
        obtain ⟨u, hu, rfl⟩ := List.mem_map.mp hv
        exact row_x1 ((hC.row _ (rowN_e1 he0)).2.2.2 u (by rw [hG0]; exact List.mem_reverse.mp hu))
      · rw [List.mem_singleton.mp hv]; exact hit
    · exact (hC.row _ (rowN_e1 he1)).2.2.2 v (by rw [hG1]; exact hv)
  have hno : ∀ w1 : va_W, (S (carE c 0) 7 = nI 0 ∨ S (carE c 1) 7 = nI 0 ∨ 24 < l0.length + 1 + l1.length) → Cls E w1 n ad (up1 L (carB c + 28) []) V S pe bi → kx_off w w1 clsN → CQ E w n ad (up1 L (carB c + 28) (draftI l0 l1 it (S (carE c 0) 7) (S (carE c 1) 7))) V S pe bi none (.inl none) w1 := by
    intro w1 h hC hO
    unfold draftI
    rw [if_pos h]
    exact ⟨rfl, hC, hO⟩
  have key : ∀ t : Nat, t = (if 24 < l0.length + 1 + l1.length then 1 else 0) → kx_R E Y_C_draftDirectory z 41 [(0, .ref (ad (carB c))), (1, .ref (ad 3)), (2, .ref (ad (carE c 0 + 1))), (3, .ref (ad (carE c 1 + 1)))] [.int (nI t)] w 0 0 (CQ E w n ad (up1 L (carB c + 28) (draftI l0 l1 it (S (carE c 0) 7) (S (carE c 1) 7))) V S pe bi none) := by
    intro t ht
    have ht2 : t < 2 := by rw [ht]; split <;> decide
    refine kx_istore d_C_draftDirectory_41 (by decide) ?_
    refine kx_aload_n d_C_draftDirectory_43 rfl (by first | rfl | exact kx_rf _) ?_
    refine kx_get _ d_C_draftDirectory_44 f_C_20 (hC.car c hc) (by rfl) ?_
    refine kx_iconst (nI 0) d_C_draftDirectory_47 (by decide) ?_
    refine cA_end d_C_draftDirectory_48 hC hc (by first | decide | omega) ?_
    refine kx_get _ d_C_draftDirectory_49 f_C_93 (hC.endAt (carE_N hc)) (by rfl) ?_
    refine kx_if_eq 72 d_C_draftDirectory_52 (by decide) ?_ ?_
    · intro h52
      refine kx_aload_n d_C_draftDirectory_72 rfl (by first | rfl | exact kx_rf _) ?_
      refine kx_get _ d_C_draftDirectory_73 f_C_38 (hC.car c hc) (by rfl) ?_
      refine cR_clear d_C_draftDirectory_76 v_C_57 hC hO r28 (by decide) (Nat.le_of_ble_eq_true rfl) (by decide) (by decide) (fun w hC hO => ?_)
      refine kx_vret d_C_draftDirectory_79 rfl (by decide) (by decide) (hno w ?_ hC hO)
      first
        | exact Or.inl h52
        | exact Or.inr (Or.inl h64)
        | exact Or.inr (Or.inr (Decidable.byContradiction (fun q => h69 (by rw [ht, if_neg q]))))
    · intro h52
      refine kx_aload_n d_C_draftDirectory_55 rfl (by first | rfl | exact kx_rf _) ?_
      refine kx_get _ d_C_draftDirectory_56 f_C_20 (hC.car c hc) (by rfl) ?_
      refine kx_iconst (nI 1) d_C_draftDirectory_59 (by decide) ?_
      refine cA_end d_C_draftDirectory_60 hC hc (by first | decide | omega) ?_
      refine kx_get _ d_C_draftDirectory_61 f_C_93 (hC.endAt (carE_N hc)) (by rfl) ?_
      refine kx_if_eq 72 d_C_draftDirectory_64 (by decide) ?_ ?_
      · intro h64
        refine kx_aload_n d_C_draftDirectory_72 rfl (by first | rfl | exact kx_rf _) ?_
        refine kx_get _ d_C_draftDirectory_73 f_C_38 (hC.car c hc) (by rfl) ?_
        refine cR_clear d_C_draftDirectory_76 v_C_57 hC hO r28 (by decide) (Nat.le_of_ble_eq_true rfl) (by decide) (by decide) (fun w hC hO => ?_)
        refine kx_vret d_C_draftDirectory_79 rfl (by decide) (by decide) (hno w ?_ hC hO)
        first
          | exact Or.inl h52
          | exact Or.inr (Or.inl h64)
          | exact Or.inr (Or.inr (Decidable.byContradiction (fun q => h69 (by rw [ht, if_neg q]))))
      · intro h64
        refine kx_iload d_C_draftDirectory_67 rfl ?_
        first | refine kx_if_eq_n 80 d_C_draftDirectory_69 (by decide) (by omega) ?_ ?_ | refine kx_if_eq 80 d_C_draftDirectory_69 (by decide) ?_ ?_
        · intro h69
          have hb0 : S (carE c 0) 7 = nI 1 := by rcases hw0 with h | h; exact absurd h (fun e => h52 e); exact h
          have hb1 : S (carE c 1) 7 = nI 1 := by rcases hw1 with h | h; exact absurd h (fun e => h64 e); exact h
          have hlen : l0.length + 1 + l1.length ≤ 24 := by rw [h69] at ht; split at ht; cases ht; omega
          have hd : ¬ (S (carE c 0) 7 = nI 0 ∨ S (carE c 1) 7 = nI 0 ∨ 24 < l0.length + 1 + l1.length) := fun q => by rcases q with q | q | q; exact h52 q; exact h64 q; omega
          unfold draftI
          rw [if_neg hd]
          generalize hR : rowTurn l0 ++ [it] ++ l1 = R
          have hRl : R.length = l0.length + 1 + l1.length := by rw [← hR, List.length_append, List.length_append, rowTurn_len]; rfl
          have hR512 : ∀ v ∈ R, v < 512 := by rw [← hR]; exact hv512
          refine kx_aload_n d_C_draftDirectory_80 rfl (by first | rfl | exact kx_rf _) ?_
          refine kx_get _ d_C_draftDirectory_81 f_C_38 (hC.car c hc) (by rfl) ?_
          refine kx_aload_n d_C_draftDirectory_84 rfl (by first | rfl | exact kx_rf _) ?_
          refine cR_copyFrom d_C_draftDirectory_85 v_C_128 hC hO r28 (rowN_e1 he0) m0 (by decide) (Nat.le_of_ble_eq_true rfl) (by decide) (by decide) (fun w hC hO => ?_)
          rw [hG0] at hC
          refine kx_aload_n d_C_draftDirectory_88 rfl (by first | rfl | exact kx_rf _) ?_
          refine kx_get _ d_C_draftDirectory_89 f_C_38 (hC.car c hc) (by rfl) ?_
          refine cR_turnRound d_C_draftDirectory_92 v_C_167 hC hO r28 (by decide) (Nat.le_of_ble_eq_true rfl) (by decide) (by decide) (fun w hC hO => ?_)
          rw [up1_s] at hC
          have hC := hC.cgL (show up1 (up1 L (carB c + 28) _) (carB c + 28) _ = up1 L (carB c + 28) (rowTurn l0) from up1_up1)
          refine kx_aload_n d_C_draftDirectory_95 rfl (by first | rfl | exact kx_rf _) ?_
          refine kx_get _ d_C_draftDirectory_96 f_C_38 (hC.car c hc) (by rfl) ?_
          refine kx_aload_n d_C_draftDirectory_99 rfl (by first | rfl | exact kx_rf _) ?_
          refine kx_get _ d_C_draftDirectory_100 f_C_20 (hC.car c hc) (by rfl) ?_
          refine kx_iconst (nI 0) d_C_draftDirectory_103 (by decide) ?_
          refine cA_end d_C_draftDirectory_104 hC hc (by first | decide | omega) ?_
          refine kx_get _ d_C_draftDirectory_105 f_C_119 (hC.endAt he0) (by rfl) ?_
          rw [hit0]
          refine cR_append d_C_draftDirectory_108 v_C_170 hC hO r28 hit (by decide) (Nat.le_of_ble_eq_true rfl) (by decide) (by decide) (fun w hC hO => ?_)
          rw [up1_s, rowTurn_len, if_pos (show l0.length < 24 by omega)] at hC
          have hC := hC.cgL (show up1 (up1 L (carB c + 28) _) (carB c + 28) _ = up1 L (carB c + 28) (rowTurn l0 ++ [it]) from up1_up1)
          refine kx_aload_n d_C_draftDirectory_111 rfl (by first | rfl | exact kx_rf _) ?_
          refine kx_get _ d_C_draftDirectory_112 f_C_38 (hC.car c hc) (by rfl) ?_
          refine kx_aload_n d_C_draftDirectory_115 rfl (by first | rfl | exact kx_rf _) ?_
          refine cR_appendAll d_C_draftDirectory_116 v_C_173 hC hO r28 (rowN_e1 he1) m2 (by decide) (Nat.le_of_ble_eq_true rfl) (by decide) (by decide) (fun w hC hO => ?_)
          rw [up1_s, up1_n m1, hG1, hR, List.take_of_length_le (by omega)] at hC
          have hC := hC.cgL (show up1 (up1 L (carB c + 28) _) (carB c + 28) _ = up1 L (carB c + 28) R from up1_up1)
          refine kx_aload_n d_C_draftDirectory_119 rfl (by first | rfl | exact kx_rf _) ?_
          refine kx_get _ d_C_draftDirectory_120 f_C_38 (hC.car c hc) (by rfl) ?_
          refine kx_aload_n d_C_draftDirectory_123 rfl (by first | rfl | exact kx_rf _) ?_
          refine cR_hasCarTwice d_C_draftDirectory_124 v_C_176 hC hO r28 (by decide) (Nat.le_of_ble_eq_true rfl) (by decide) (by decide) (fun w hC hO => ?_)
          rw [up1_s]
          have h01 := rowTw_01 R
          refine kx_if_eq_n 140 d_C_draftDirectory_127 (by decide) (by omega) ?_ ?_
          · intro h127
            refine kx_aload_n d_C_draftDirectory_140 rfl (by first | rfl | exact kx_rf _) ?_
            refine kx_get _ d_C_draftDirectory_141 f_C_38 (hC.car c hc) (by rfl) ?_
            refine kx_iconst (nI 1) d_C_draftDirectory_144 (by decide) ?_
            rw [if_neg (show ¬ rowTw R = 1 by omega)]
            refine cR_idAt (j := 0) d_C_draftDirectory_145 v_C_180 hC r28 (by rw [up1_s]; omega) (by decide) (Nat.le_of_ble_eq_true rfl) (by decide) (by decide) ?_
            rw [up1_s]
            refine kx_aload_n d_C_draftDirectory_148 rfl (by first | rfl | exact kx_rf _) ?_
            refine kx_get _ d_C_draftDirectory_149 f_C_38 (hC.car c hc) (by rfl) ?_
            refine kx_aload_n d_C_draftDirectory_152 rfl (by first | rfl | exact kx_rf _) ?_
            refine kx_get _ d_C_draftDirectory_153 f_C_38 (hC.car c hc) (by rfl) ?_
            refine kx_get _ d_C_draftDirectory_156 f_C_76 (hC.rowObj r28) (by rfl) ?_
            rw [up1_s, show R.length = (l0.length + l1.length) + 1 by omega]
            refine cR_idAt d_C_draftDirectory_159 v_C_180 hC r28 (by rw [up1_s]; omega) (by decide) (Nat.le_of_ble_eq_true rfl) (by decide) (by decide) ?_
            rw [up1_s]
            have hx0 := hR512 _ (row_get R (show 0 < R.length by omega))
            have hx1 := hR512 _ (row_get R (show l0.length + l1.length < R.length by omega))
            refine kx_icmp_le_n 172 d_C_draftDirectory_162 (by decide) (by omega) (by omega) ?_ ?_
            · intro h162
              rw [if_neg (by omega)]
              exact kx_vret d_C_draftDirectory_172 rfl (by decide) (by decide) ⟨rfl, hC, hO⟩
            · intro h162
              rw [if_pos h162]
              refine kx_aload_n d_C_draftDirectory_165 rfl (by first | rfl | exact kx_rf _) ?_
              refine kx_get _ d_C_draftDirectory_166 f_C_38 (hC.car c hc) (by rfl) ?_
              refine cR_turnRound d_C_draftDirectory_169 v_C_167 hC hO r28 (by decide) (Nat.le_of_ble_eq_true rfl) (by decide) (by decide) (fun w hC hO => ?_)
              rw [up1_s] at hC
              have hC := hC.cgL (show up1 (up1 L (carB c + 28) _) (carB c + 28) _ = up1 L (carB c + 28) (rowTurn R) from up1_up1)
              exact kx_vret d_C_draftDirectory_172 rfl (by decide) (by decide) ⟨rfl, hC, hO⟩
          · intro h127
            refine kx_aload_n d_C_draftDirectory_130 rfl (by first | rfl | exact kx_rf _) ?_
            refine kx_get _ d_C_draftDirectory_131 f_C_38 (hC.car c hc) (by rfl) ?_
            refine cR_clear d_C_draftDirectory_134 v_C_57 hC hO r28 (by decide) (Nat.le_of_ble_eq_true rfl) (by decide) (by decide) (fun w hC hO => ?_)
            rw [if_pos (show rowTw R = 1 by omega)]
            have hC := hC.cgL (show up1 (up1 L (carB c + 28) _) (carB c + 28) _ = up1 L (carB c + 28) [] from up1_up1)
            refine kx_goto 172 d_C_draftDirectory_137 (by decide) ?_
            exact kx_vret d_C_draftDirectory_172 rfl (by decide) (by decide) ⟨rfl, hC, hO⟩
        · intro h69
          refine kx_aload_n d_C_draftDirectory_72 rfl (by first | rfl | exact kx_rf _) ?_
          refine kx_get _ d_C_draftDirectory_73 f_C_38 (hC.car c hc) (by rfl) ?_
          refine cR_clear d_C_draftDirectory_76 v_C_57 hC hO r28 (by decide) (Nat.le_of_ble_eq_true rfl) (by decide) (by decide) (fun w hC hO => ?_)
          refine kx_vret d_C_draftDirectory_79 rfl (by decide) (by decide) (hno w ?_ hC hO)
          first
            | exact Or.inl h52
            | exact Or.inr (Or.inl h64)
            | exact Or.inr (Or.inr (Decidable.byContradiction (fun q => h69 (by rw [ht, if_neg q]))))
  refine kx_aload_n d_C_draftDirectory_0 rfl (by first | rfl | exact kx_rf _) ?_
  refine kx_get _ d_C_draftDirectory_1 f_C_20 (hC.car c hc) (by rfl) ?_
  refine kx_iconst (nI 0) d_C_draftDirectory_4 (by decide) ?_
  refine cA_end d_C_draftDirectory_5 hC hc (by first | decide | omega) ?_
  refine kx_get _ d_C_draftDirectory_6 f_C_90 (hC.endAt (carE_N hc)) (by rfl) ?_
  refine kx_astore_n d_C_draftDirectory_9 (by decide) (by first | rfl | exact kx_rf _) ?_
  refine kx_aload_n d_C_draftDirectory_10 rfl (by first | rfl | exact kx_rf _) ?_
  refine kx_get _ d_C_draftDirectory_11 f_C_20 (hC.car c hc) (by rfl) ?_
  refine kx_iconst (nI 1) d_C_draftDirectory_14 (by decide) ?_
  refine cA_end d_C_draftDirectory_15 hC hc (by first | decide | omega) ?_
  refine kx_get _ d_C_draftDirectory_16 f_C_90 (hC.endAt (carE_N hc)) (by rfl) ?_
  refine kx_astore_n d_C_draftDirectory_19 (by decide) (by first | rfl | exact kx_rf _) ?_
  refine kx_aload_n d_C_draftDirectory_20 rfl (by first | rfl | exact kx_rf _) ?_
  refine kx_get _ d_C_draftDirectory_21 f_C_76 (hC.rowObj (rowN_e1 he0)) (by rfl) ?_
  rw [hG0]
  refine kx_iconst (nI 1) d_C_draftDirectory_24 (by decide) ?_
  first | refine kx_iadd _ d_C_draftDirectory_25 (nI_add _ _) ?_ | refine kx_iadd _ d_C_draftDirectory_25 rfl ?_
  refine kx_aload_n d_C_draftDirectory_26 rfl (by first | rfl | exact kx_rf _) ?_
  refine kx_get _ d_C_draftDirectory_27 f_C_76 (hC.rowObj (rowN_e1 he1)) (by rfl) ?_
  rw [hG1]
  first | refine kx_iadd _ d_C_draftDirectory_30 (nI_add _ _) ?_ | refine kx_iadd _ d_C_draftDirectory_30 rfl ?_
  refine kx_bipush (nI 24) d_C_draftDirectory_31 (by decide) ?_
  first | refine kx_icmp_le_n 40 d_C_draftDirectory_33 (by decide) (by omega) (by omega) ?_ ?_ | refine kx_icmp_le 40 d_C_draftDirectory_33 (by decide) ?_ ?_
  · intro h33
    refine kx_iconst (nI 0) d_C_draftDirectory_40 (by decide) ?_
    refine kx_loc (L1 := [(0, .ref (ad (carB c))), (1, .ref (ad 3)), (2, .ref (ad (carE c 0 + 1))), (3, .ref (ad (carE c 1 + 1)))]) ⟨rfl, rfl, rfl, rfl, trivial⟩ ?_
    refine key _ ?_
    first
      | (rw [if_pos (by omega)]; done)
      | (rw [if_neg (by omega)])
  · intro h33
    refine kx_iconst (nI 1) d_C_draftDirectory_36 (by decide) ?_
    refine kx_goto 41 d_C_draftDirectory_37 (by decide) ?_
    refine kx_loc (L1 := [(0, .ref (ad (carB c))), (1, .ref (ad 3)), (2, .ref (ad (carE c 0 + 1))), (3, .ref (ad (carE c 1 + 1)))]) ⟨rfl, rfl, rfl, rfl, trivial⟩ ?_
    refine key _ ?_
    first
      | (rw [if_pos (by omega)]; done)
      | (rw [if_neg (by omega)])
