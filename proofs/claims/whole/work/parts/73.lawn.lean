/-! The law's own calls -/
abbrev Y_W : kx_Y := (code, 7, R_L, ret, x, 601024, 7293034, 10, [])
theorem i_W_62 : kx_LI R_L 62 0 Y_B_init := ⟨rfl, rfl, rfl, k_B_init, kx_in 18 (by decide +kernel) rfl, kx_in 19 (by decide +kernel) rfl, kx_in 1 (by decide +kernel) rfl, by decide, by decide, by decide +kernel⟩
theorem i_W_65 : kx_LI R_L 65 0 Y_M_init := ⟨rfl, rfl, rfl, k_M_init, kx_in 596 (by decide +kernel) rfl, kx_in 597 (by decide +kernel) rfl, kx_in 3 (by decide +kernel) rfl, by decide, by decide, by decide +kernel⟩
theorem s_W_66 : kx_LH R_L 66 4 Y_L_add := ⟨by decide, k_L_add, kx_in 104 (by decide +kernel) rfl, kx_in 105 (by decide +kernel) rfl, kx_in 0 (by decide +kernel) rfl, by decide, by decide, by decide +kernel⟩
theorem v_W_71 : kx_LV R_L 71 2 Y_M_add := ⟨rfl, k_M_add, kx_in 698 (by decide +kernel) rfl, kx_in 699 (by decide +kernel) rfl, kx_in 700 (by decide +kernel) rfl, kx_in 3 (by decide +kernel) rfl, rfl, by decide, by decide, by decide +kernel⟩
theorem v_W_72 : kx_LV R_L 72 0 Y_M_thrown := ⟨rfl, k_M_thrown, kx_in 694 (by decide +kernel) rfl, kx_in 695 (by decide +kernel) rfl, kx_in 696 (by decide +kernel) rfl, kx_in 3 (by decide +kernel) rfl, rfl, by decide, by decide, by decide +kernel⟩
theorem s_W_76 : kx_LH R_L 76 6 Y_L_couple := ⟨by decide, k_L_couple, kx_in 328 (by decide +kernel) rfl, kx_in 329 (by decide +kernel) rfl, kx_in 0 (by decide +kernel) rfl, by decide, by decide, by decide +kernel⟩
theorem v_W_79 : kx_LV R_L 79 4 Y_M_couple := ⟨rfl, k_M_couple, kx_in 715 (by decide +kernel) rfl, kx_in 716 (by decide +kernel) rfl, kx_in 717 (by decide +kernel) rfl, kx_in 3 (by decide +kernel) rfl, rfl, by decide, by decide, by decide +kernel⟩
theorem s_W_80 : kx_LH R_L 80 4 Y_L_uncouple := ⟨by decide, k_L_uncouple, kx_in 378 (by decide +kernel) rfl, kx_in 379 (by decide +kernel) rfl, kx_in 0 (by decide +kernel) rfl, by decide, by decide, by decide +kernel⟩
theorem v_W_82 : kx_LV R_L 82 2 Y_M_uncouple := ⟨rfl, k_M_uncouple, kx_in 734 (by decide +kernel) rfl, kx_in 735 (by decide +kernel) rfl, kx_in 736 (by decide +kernel) rfl, kx_in 3 (by decide +kernel) rfl, rfl, by decide, by decide, by decide +kernel⟩
theorem s_W_83 : kx_LH R_L 83 2 Y_L_reset := ⟨by decide, k_L_reset, kx_in 390 (by decide +kernel) rfl, kx_in 391 (by decide +kernel) rfl, kx_in 0 (by decide +kernel) rfl, by decide, by decide, by decide +kernel⟩
theorem v_W_86 : kx_LV R_L 86 1 Y_M_reset := ⟨rfl, k_M_reset, kx_in 738 (by decide +kernel) rfl, kx_in 739 (by decide +kernel) rfl, kx_in 740 (by decide +kernel) rfl, kx_in 3 (by decide +kernel) rfl, rfl, by decide, by decide, by decide +kernel⟩
theorem s_W_87 : kx_LH R_L 87 4 Y_L_rounds := ⟨by decide, k_L_rounds, kx_in 407 (by decide +kernel) rfl, kx_in 408 (by decide +kernel) rfl, kx_in 0 (by decide +kernel) rfl, by decide, by decide, by decide +kernel⟩
theorem v_W_89 : kx_LV R_L 89 2 Y_M_rounds := ⟨rfl, k_M_rounds, kx_in 742 (by decide +kernel) rfl, kx_in 743 (by decide +kernel) rfl, kx_in 744 (by decide +kernel) rfl, kx_in 3 (by decide +kernel) rfl, rfl, by decide, by decide, by decide +kernel⟩
theorem s_W_90 : kx_LH R_L 90 4 Y_L_coupling := ⟨by decide, k_L_coupling, kx_in 496 (by decide +kernel) rfl, kx_in 497 (by decide +kernel) rfl, kx_in 0 (by decide +kernel) rfl, by decide, by decide, by decide +kernel⟩
theorem v_W_92 : kx_LV R_L 92 2 Y_M_coupling := ⟨rfl, k_M_coupling, kx_in 782 (by decide +kernel) rfl, kx_in 783 (by decide +kernel) rfl, kx_in 784 (by decide +kernel) rfl, kx_in 3 (by decide +kernel) rfl, rfl, by decide, by decide, by decide +kernel⟩
theorem s_W_93 : kx_LH R_L 93 4 Y_L_about := ⟨by decide, k_L_about, kx_in 503 (by decide +kernel) rfl, kx_in 504 (by decide +kernel) rfl, kx_in 0 (by decide +kernel) rfl, by decide, by decide, by decide +kernel⟩
theorem v_W_95 : kx_LV R_L 95 2 Y_M_about := ⟨rfl, k_M_about, kx_in 786 (by decide +kernel) rfl, kx_in 787 (by decide +kernel) rfl, kx_in 788 (by decide +kernel) rfl, kx_in 3 (by decide +kernel) rfl, rfl, by decide, by decide, by decide +kernel⟩
theorem s_W_96 : kx_LH R_L 96 4 Y_L_directory := ⟨by decide, k_L_directory, kx_in 520 (by decide +kernel) rfl, kx_in 521 (by decide +kernel) rfl, kx_in 0 (by decide +kernel) rfl, by decide, by decide, by decide +kernel⟩
theorem v_W_98 : kx_LV R_L 98 2 Y_M_directory := ⟨rfl, k_M_directory, kx_in 794 (by decide +kernel) rfl, kx_in 795 (by decide +kernel) rfl, kx_in 796 (by decide +kernel) rfl, kx_in 3 (by decide +kernel) rfl, rfl, by decide, by decide, by decide +kernel⟩
theorem s_W_99 : kx_LH R_L 99 5 Y_L_view := ⟨by decide, k_L_view, kx_in 528 (by decide +kernel) rfl, kx_in 529 (by decide +kernel) rfl, kx_in 0 (by decide +kernel) rfl, by decide, by decide, by decide +kernel⟩
theorem v_W_102 : kx_LV R_L 102 3 Y_M_view := ⟨rfl, k_M_view, kx_in 798 (by decide +kernel) rfl, kx_in 799 (by decide +kernel) rfl, kx_in 800 (by decide +kernel) rfl, kx_in 3 (by decide +kernel) rfl, rfl, by decide, by decide, by decide +kernel⟩
theorem s_W_103 : kx_LH R_L 103 5 Y_L_put := ⟨by decide, k_L_put, kx_in 539 (by decide +kernel) rfl, kx_in 540 (by decide +kernel) rfl, kx_in 0 (by decide +kernel) rfl, by decide, by decide, by decide +kernel⟩
theorem v_W_105 : kx_LV R_L 105 3 Y_M_put := ⟨rfl, k_M_put, kx_in 802 (by decide +kernel) rfl, kx_in 803 (by decide +kernel) rfl, kx_in 804 (by decide +kernel) rfl, kx_in 3 (by decide +kernel) rfl, rfl, by decide, by decide, by decide +kernel⟩
theorem s_W_106 : kx_LH R_L 106 5 Y_L_get := ⟨by decide, k_L_get, kx_in 554 (by decide +kernel) rfl, kx_in 555 (by decide +kernel) rfl, kx_in 0 (by decide +kernel) rfl, by decide, by decide, by decide +kernel⟩
theorem v_W_108 : kx_LV R_L 108 3 Y_M_get := ⟨rfl, k_M_get, kx_in 806 (by decide +kernel) rfl, kx_in 807 (by decide +kernel) rfl, kx_in 808 (by decide +kernel) rfl, kx_in 3 (by decide +kernel) rfl, rfl, by decide, by decide, by decide +kernel⟩
theorem s_W_109 : kx_LH R_L 109 5 Y_L_side := ⟨by decide, k_L_side, kx_in 566 (by decide +kernel) rfl, kx_in 567 (by decide +kernel) rfl, kx_in 0 (by decide +kernel) rfl, by decide, by decide, by decide +kernel⟩
theorem v_W_111 : kx_LV R_L 111 3 Y_M_side := ⟨rfl, k_M_side, kx_in 810 (by decide +kernel) rfl, kx_in 811 (by decide +kernel) rfl, kx_in 812 (by decide +kernel) rfl, kx_in 3 (by decide +kernel) rfl, rfl, by decide, by decide, by decide +kernel⟩
theorem s_W_112 : kx_LH R_L 112 4 Y_L_order := ⟨by decide, k_L_order, kx_in 579 (by decide +kernel) rfl, kx_in 580 (by decide +kernel) rfl, kx_in 0 (by decide +kernel) rfl, by decide, by decide, by decide +kernel⟩
theorem v_W_114 : kx_LV R_L 114 2 Y_M_order := ⟨rfl, k_M_order, kx_in 814 (by decide +kernel) rfl, kx_in 815 (by decide +kernel) rfl, kx_in 816 (by decide +kernel) rfl, kx_in 3 (by decide +kernel) rfl, rfl, by decide, by decide, by decide +kernel⟩
theorem v_W_115 : kx_LV R_L 115 0 Y_B_settled := ⟨rfl, k_B_settled, kx_in 70 (by decide +kernel) rfl, kx_in 71 (by decide +kernel) rfl, kx_in 72 (by decide +kernel) rfl, kx_in 1 (by decide +kernel) rfl, rfl, by decide, by decide, by decide +kernel⟩
theorem v_W_118 : kx_LV R_L 118 0 Y_M_settled := ⟨rfl, k_M_settled, kx_in 818 (by decide +kernel) rfl, kx_in 819 (by decide +kernel) rfl, kx_in 820 (by decide +kernel) rfl, kx_in 3 (by decide +kernel) rfl, rfl, by decide, by decide, by decide +kernel⟩
theorem s_W_119 : kx_LH R_L 119 3 Y_L_count := ⟨by decide, k_L_count, kx_in 586 (by decide +kernel) rfl, kx_in 587 (by decide +kernel) rfl, kx_in 0 (by decide +kernel) rfl, by decide, by decide, by decide +kernel⟩
theorem v_W_122 : kx_LV R_L 122 1 Y_M_count := ⟨rfl, k_M_count, kx_in 822 (by decide +kernel) rfl, kx_in 823 (by decide +kernel) rfl, kx_in 824 (by decide +kernel) rfl, kx_in 3 (by decide +kernel) rfl, rfl, by decide, by decide, by decide +kernel⟩
theorem n_W_8 : kx_N R_L 8 4 [.null, .null, .null, .null, .int 0, .int 0, .int 0, .int 0, .int 0] := ⟨_, _, _, ty_B, rfl, ty_B_ok, u_B, kx_in 16 (by decide +kernel) rfl, kx_in 17 (by decide +kernel) rfl, kx_in 1 (by decide +kernel) rfl, rfl, by decide +kernel⟩
theorem n_W_63 : kx_N R_L 63 5 [.int 0, .int 0, .null, .null, .null, .null, .null, .int 0, .int 0, .int 0, .null, .null, .null, .null, .null, .null, .null, .null, .null, .null, .null, .null, .null, .null, .null, .null, .null, .null, .null, .null, .null] := ⟨_, _, _, ty_M, rfl, ty_M_ok, u_M, kx_in 594 (by decide +kernel) rfl, kx_in 595 (by decide +kernel) rfl, kx_in 3 (by decide +kernel) rfl, rfl, by decide +kernel⟩
section KXS
variable {E : kx_E} {Y : kx_Y} {z : kx_Z} {pc : Nat} {L : kx_L} {st : List Value} {w : va_W} {kc ks : Nat} {Q : kx_O → va_W → Prop}
/-- the script, as it was at the start -/
def kx_Sc (E : kx_E) (z : kx_Z) (b N : Nat) (xs : Nat → Int32) : Prop := va_X b N xs z.2.2.2.2.1 z.2.2.2.2.1.heap ∧ b < z.2.2.2.2.1.heap.size ∧ b < E.2.2.2
theorem kx_sld {b N i : Nat} {xs : Nat → Int32} (hd : decode Y.1 pc = .ok (.iaload, 1)) (hX : kx_Sc E z b N xs) (hi : i < N) (hN : N < 2 ^ 31)
    (kk : kx_R E Y z (pc + 1) L (.int (xs i) :: st) w kc ks Q) : kx_R E Y z pc L (.int (nI i) :: .ref b :: st) w kc ks Q := by
  intro hC H ls locs hl hP hD hS
  obtain ⟨h1, h2⟩ := kx_ix hi hN
  refine va_sld hC.1 hC.2.1 hX.1 hX.2.1 (fun h => Nat.not_lt.mpr h hX.2.2) hS h1 hd ?_
  rw [h2]
  exact kk hC H ls locs hl hP hD hS
theorem kx_slen {b N : Nat} {xs : Nat → Int32} (hd : decode Y.1 pc = .ok (.arraylength, 1)) (hX : kx_Sc E z b N xs)
    (kk : kx_R E Y z (pc + 1) L (.int (nI N) :: st) w kc ks Q) : kx_R E Y z pc L (.ref b :: st) w kc ks Q := by
  intro hC H ls locs hl hP hD hS
  exact va_slen hC.1 hC.2.1 hX.1 hX.2.1 (fun h => Nat.not_lt.mpr h hX.2.2) hS hd (kk hC H ls locs hl hP hD hS)
end KXS
theorem R2_3 {x y : String} {k : Nat} {o : kx_O} {v : kx_O} (h : (k = 0 ∧ o = v) ∨ (0 < k ∧ ∃ s, R2 x y k = some s ∧ o = .inr s)) : k < 3 := by
  rcases h with ⟨h, -⟩ | ⟨-, s, h, -⟩
  · omega
  · rcases R2_c h with ⟨h, -⟩ | ⟨h, -⟩ <;> omega
theorem R1_3 {x : String} {k : Nat} {o : kx_O} {v : kx_O} (h : (k = 0 ∧ o = v) ∨ (0 < k ∧ ∃ s, R1 x k = some s ∧ o = .inr s)) : k < 3 := by
  rcases h with ⟨h, -⟩ | ⟨-, s, h, -⟩
  · omega
  · obtain ⟨h, -⟩ := R1_c h; omega
theorem lg_self (x : Int64) : lg_cmp x x = 0 := by
  unfold lg_cmp
  rw [if_neg (fun h => Int64.lt_irrefl h), if_pos rfl]
