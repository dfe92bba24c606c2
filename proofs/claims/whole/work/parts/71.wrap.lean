/-! The law's own small methods -/
theorem cl_L_13 : Cond.classLink R_L 13 kx_iae ∈ kx_WS := kx_in 107 (by decide +kernel) rfl
theorem cl_L_15 : Cond.classLink R_L 15 kx_ise ∈ kx_WS := kx_in 108 (by decide +kernel) rfl
theorem cl_L_21 : Cond.classLink R_L 21 kx_nse ∈ kx_WS := kx_in 331 (by decide +kernel) rfl
theorem R2_c {x y : String} {k : Nat} {s : String} (h : R2 x y k = some s) : (k = 1 ∧ s = x) ∨ (k = 2 ∧ s = y) := by
  unfold R2 at h
  by_cases e : k = 1
  · rw [if_pos e] at h; cases h; exact Or.inl ⟨e, rfl⟩
  · rw [if_neg e] at h
    by_cases e2 : k = 2
    · rw [if_pos e2] at h; cases h; exact Or.inr ⟨e2, rfl⟩
    · rw [if_neg e2] at h; cases h
theorem R1_c {x : String} {k : Nat} {s : String} (h : R1 x k = some s) : k = 1 ∧ s = x := by
  unfold R1 at h
  by_cases e : k = 1
  · rw [if_pos e] at h; cases h; exact ⟨e, rfl⟩
  · rw [if_neg e] at h; cases h
/-- what a small method of the law hands on -/
def LQ (E : kx_E) (oa k : Nat) (b : Int32) (Qc : kx_O → va_W → Prop) : kx_O → va_W → Prop := fun o w2 => o = .inl (some (.int (nI k))) ∧ ∃ o1 w1 g, Qc o1 w1 ∧ off33 w1 w2 ∧ w2[33]? = some (oa, kx_aj E 1 g) ∧ (k = 0 → g 0 = b.toInt64)
theorem d_L_add_0 : decode c_L_add 0 = .ok (.aload_n 3, 1) := by decide +kernel
theorem d_L_add_1 : decode c_L_add 1 = .ok (.iconst 0, 1) := by decide +kernel
theorem d_L_add_2 : decode c_L_add 2 = .ok (.aload_n 0, 1) := by decide +kernel
theorem d_L_add_3 : decode c_L_add 3 = .ok (.iload_n 1, 1) := by decide +kernel
theorem d_L_add_4 : decode c_L_add 4 = .ok (.iload_n 2, 1) := by decide +kernel
theorem d_L_add_5 : decode c_L_add 5 = .ok (.invokevirtual 7, 3) := by decide +kernel
theorem d_L_add_8 : decode c_L_add 8 = .ok (.i2l, 1) := by decide +kernel
theorem d_L_add_9 : decode c_L_add 9 = .ok (.lastore, 1) := by decide +kernel
theorem d_L_add_10 : decode c_L_add 10 = .ok (.goto 11, 3) := by decide +kernel
theorem d_L_add_13 : decode c_L_add 13 = .ok (.astore 4, 2) := by decide +kernel
theorem d_L_add_15 : decode c_L_add 15 = .ok (.iconst 1, 1) := by decide +kernel
theorem d_L_add_16 : decode c_L_add 16 = .ok (.ireturn, 1) := by decide +kernel
theorem d_L_add_17 : decode c_L_add 17 = .ok (.astore 4, 2) := by decide +kernel
theorem d_L_add_19 : decode c_L_add 19 = .ok (.iconst 2, 1) := by decide +kernel
theorem d_L_add_20 : decode c_L_add 20 = .ok (.ireturn, 1) := by decide +kernel
theorem d_L_add_21 : decode c_L_add 21 = .ok (.iconst 0, 1) := by decide +kernel
theorem d_L_add_22 : decode c_L_add 22 = .ok (.ireturn, 1) := by decide +kernel
theorem h_L_add_1 : kx_HD Y_L_add 5 kx_iae 13 := ⟨[], [(0, 10, 17, 15)], (0, 10, 13, 13), rfl, by decide, by decide, rfl, by decide, cl_L_13, by decide +kernel, fun g hg => by cases hg⟩
theorem h_L_add_2 : kx_HD Y_L_add 5 kx_ise 17 := ⟨[(0, 10, 13, 13)], [], (0, 10, 17, 15), rfl, by decide, by decide, rfl, by decide, cl_L_15, by decide +kernel, fun g hg => by rw [List.mem_singleton.mp hg]; exact ⟨by decide, kx_iae, cl_L_13, by decide +kernel⟩⟩
set_option maxRecDepth 20000 in
set_option maxHeartbeats 4000000 in
theorem m_L_add {E : kx_E} {w : va_W} {a0 oa : Nat} {fs : List Value} {f : Nat → Int64} (hw0 : w[0]? = some (a0, .inr (4, fs))) (ho : w[33]? = some (oa, kx_aj E 1 f)) {p0 p1 : Int32} {k : Nat} {b : Int32} {Qc : kx_O → va_W → Prop} (hc : kx_S E Y_B_add [.ref a0, .int p0, .int p1] w Qc) (hq : ∀ o w1, Qc o w1 → ((k = 0 ∧ o = .inl (rI b)) ∨ (0 < k ∧ ∃ x, (R2 kx_iae kx_ise) k = some x ∧ o = .inr x)) ∧ modK w w1) : kx_S E Y_L_add [.ref a0, .int p0, .int p1, .ref oa] w (LQ E oa k b Qc) := by
  refine kx_goH (by decide) rfl (by decide) (Nat.le_of_ble_eq_true rfl) (kx_cc rfl (kx_cc rfl (kx_cc rfl (kx_cc rfl kx_c0)))) (fun z => ?_)
  refine kx_aload_n d_L_add_0 rfl (by first | rfl | exact kx_rf _) ?_
  refine kx_iconst (nI 0) d_L_add_1 (by decide) ?_
  refine kx_aload_n d_L_add_2 rfl (by first | rfl | exact kx_rf _) ?_
  refine kx_iload_n d_L_add_3 rfl ?_
  refine kx_iload_n d_L_add_4 rfl ?_
  refine kx_callVH (as := [.int p0, .int p1]) (rest := [.int (nI 0), .ref oa]) d_L_add_5 v_L_7 rfl hw0 rfl rfl (by decide) (by decide) (Nat.le_of_ble_eq_true rfl) (by decide) (by decide) rfl hc ?_ ?_
  · intro X w1 h1
    obtain ⟨h2, h3⟩ := hq _ w1 h1
    rcases h2 with ⟨-, h2⟩ | ⟨h4, x, h5, h6⟩
    · cases h2
    · cases h6
      rcases R2_c h5 with ⟨rfl, rfl⟩ | ⟨rfl, rfl⟩
      · refine ⟨13, h_L_add_1, fun q => ?_⟩
        refine kx_astore d_L_add_13 (by decide) (by first | rfl | exact kx_rf _) ?_
        refine kx_iconst (nI 1) d_L_add_15 (by decide) ?_
        refine kx_iret d_L_add_16 rfl (by decide) (by decide) ?_
        exact ⟨rfl, _, w1, f, h1, kx_off.rf, (h3 33 (by omega) (by omega)).trans ho, fun h => by omega⟩
      · refine ⟨17, h_L_add_2, fun q => ?_⟩
        refine kx_astore d_L_add_17 (by decide) (by first | rfl | exact kx_rf _) ?_
        refine kx_iconst (nI 2) d_L_add_19 (by decide) ?_
        refine kx_iret d_L_add_20 rfl (by decide) (by decide) ?_
        exact ⟨rfl, _, w1, f, h1, kx_off.rf, (h3 33 (by omega) (by omega)).trans ho, fun h => by omega⟩
  · intro v w1 h1
    obtain ⟨h2, h3⟩ := hq _ w1 h1
    rcases h2 with ⟨hk, h2⟩ | ⟨-, x, -, h2⟩
    · cases h2
      subst hk
      have ho1 := (h3 33 (by omega) (by omega)).trans ho
      refine kx_stk (st1 := [.int b, .int (nI 0), .ref oa]) rfl ?_
      refine kx_i2l d_L_add_8 ?_
      refine kx_last (x := 33) d_L_add_9 ho1 (by decide) (by decide) ?_
      refine kx_goto 21 d_L_add_10 (by decide) ?_
      refine kx_iconst (nI 0) d_L_add_21 (by decide) ?_
      refine kx_iret d_L_add_22 rfl (by decide) (by decide) ?_
      exact ⟨rfl, _, w1, _, h1, kx_off.rf.set rfl, kx_s1 ho1, fun _ => rfl⟩
    · cases h2
theorem d_L_couple_0 : decode c_L_couple 0 = .ok (.aload 5, 2) := by decide +kernel
theorem d_L_couple_2 : decode c_L_couple 2 = .ok (.iconst 0, 1) := by decide +kernel
theorem d_L_couple_3 : decode c_L_couple 3 = .ok (.aload_n 0, 1) := by decide +kernel
theorem d_L_couple_4 : decode c_L_couple 4 = .ok (.iload_n 1, 1) := by decide +kernel
theorem d_L_couple_5 : decode c_L_couple 5 = .ok (.iload_n 2, 1) := by decide +kernel
theorem d_L_couple_6 : decode c_L_couple 6 = .ok (.iload_n 3, 1) := by decide +kernel
theorem d_L_couple_7 : decode c_L_couple 7 = .ok (.iload 4, 2) := by decide +kernel
theorem d_L_couple_9 : decode c_L_couple 9 = .ok (.invokevirtual 17, 3) := by decide +kernel
theorem d_L_couple_12 : decode c_L_couple 12 = .ok (.i2l, 1) := by decide +kernel
theorem d_L_couple_13 : decode c_L_couple 13 = .ok (.lastore, 1) := by decide +kernel
theorem d_L_couple_14 : decode c_L_couple 14 = .ok (.goto 11, 3) := by decide +kernel
theorem d_L_couple_17 : decode c_L_couple 17 = .ok (.astore 6, 2) := by decide +kernel
theorem d_L_couple_19 : decode c_L_couple 19 = .ok (.iconst 1, 1) := by decide +kernel
theorem d_L_couple_20 : decode c_L_couple 20 = .ok (.ireturn, 1) := by decide +kernel
theorem d_L_couple_21 : decode c_L_couple 21 = .ok (.astore 6, 2) := by decide +kernel
theorem d_L_couple_23 : decode c_L_couple 23 = .ok (.iconst 2, 1) := by decide +kernel
theorem d_L_couple_24 : decode c_L_couple 24 = .ok (.ireturn, 1) := by decide +kernel
theorem d_L_couple_25 : decode c_L_couple 25 = .ok (.iconst 0, 1) := by decide +kernel
theorem d_L_couple_26 : decode c_L_couple 26 = .ok (.ireturn, 1) := by decide +kernel
theorem h_L_couple_1 : kx_HD Y_L_couple 9 kx_nse 17 := ⟨[], [(0, 14, 21, 15)], (0, 14, 17, 21), rfl, by decide, by decide, rfl, by decide, cl_L_21, by decide +kernel, fun g hg => by cases hg⟩
theorem h_L_couple_2 : kx_HD Y_L_couple 9 kx_ise 21 := ⟨[(0, 14, 17, 21)], [], (0, 14, 21, 15), rfl, by decide, by decide, rfl, by decide, cl_L_15, by decide +kernel, fun g hg => by rw [List.mem_singleton.mp hg]; exact ⟨by decide, kx_nse, cl_L_21, by decide +kernel⟩⟩
set_option maxRecDepth 20000 in
set_option maxHeartbeats 4000000 in
theorem m_L_couple {E : kx_E} {w : va_W} {a0 oa : Nat} {fs : List Value} {f : Nat → Int64} (hw0 : w[0]? = some (a0, .inr (4, fs))) (ho : w[33]? = some (oa, kx_aj E 1 f)) {p0 p1 p2 p3 : Int32} {k : Nat} {b : Int32} {Qc : kx_O → va_W → Prop} (hc : kx_S E Y_B_couple [.ref a0, .int p0, .int p1, .int p2, .int p3] w Qc) (hq : ∀ o w1, Qc o w1 → ((k = 0 ∧ o = .inl (rI b)) ∨ (0 < k ∧ ∃ x, (R2 kx_nse kx_ise) k = some x ∧ o = .inr x)) ∧ modK w w1) : kx_S E Y_L_couple [.ref a0, .int p0, .int p1, .int p2, .int p3, .ref oa] w (LQ E oa k b Qc) := by
  refine kx_goH (by decide) rfl (by decide) (Nat.le_of_ble_eq_true rfl) (kx_cc rfl (kx_cc rfl (kx_cc rfl (kx_cc rfl (kx_cc rfl (kx_cc rfl kx_c0)))))) (fun z => ?_)
  refine kx_aload d_L_couple_0 rfl (by first | rfl | exact kx_rf _) ?_
  refine kx_iconst (nI 0) d_L_couple_2 (by decide) ?_
  refine kx_aload_n d_L_couple_3 rfl (by first | rfl | exact kx_rf _) ?_
  refine kx_iload_n d_L_couple_4 rfl ?_
  refine kx_iload_n d_L_couple_5 rfl ?_
  refine kx_iload_n d_L_couple_6 rfl ?_
  refine kx_iload d_L_couple_7 rfl ?_
  refine kx_callVH (as := [.int p0, .int p1, .int p2, .int p3]) (rest := [.int (nI 0), .ref oa]) d_L_couple_9 v_L_17 rfl hw0 rfl rfl (by decide) (by decide) (Nat.le_of_ble_eq_true rfl) (by decide) (by decide) rfl hc ?_ ?_
  · intro X w1 h1
    obtain ⟨h2, h3⟩ := hq _ w1 h1
    rcases h2 with ⟨-, h2⟩ | ⟨h4, x, h5, h6⟩
    · cases h2
    · cases h6
      rcases R2_c h5 with ⟨rfl, rfl⟩ | ⟨rfl, rfl⟩
      · refine ⟨17, h_L_couple_1, fun q => ?_⟩
        refine kx_astore d_L_couple_17 (by decide) (by first | rfl | exact kx_rf _) ?_
        refine kx_iconst (nI 1) d_L_couple_19 (by decide) ?_
        refine kx_iret d_L_couple_20 rfl (by decide) (by decide) ?_
        exact ⟨rfl, _, w1, f, h1, kx_off.rf, (h3 33 (by omega) (by omega)).trans ho, fun h => by omega⟩
      · refine ⟨21, h_L_couple_2, fun q => ?_⟩
        refine kx_astore d_L_couple_21 (by decide) (by first | rfl | exact kx_rf _) ?_
        refine kx_iconst (nI 2) d_L_couple_23 (by decide) ?_
        refine kx_iret d_L_couple_24 rfl (by decide) (by decide) ?_
        exact ⟨rfl, _, w1, f, h1, kx_off.rf, (h3 33 (by omega) (by omega)).trans ho, fun h => by omega⟩
  · intro v w1 h1
    obtain ⟨h2, h3⟩ := hq _ w1 h1
    rcases h2 with ⟨hk, h2⟩ | ⟨-, x, -, h2⟩
    · cases h2
      subst hk
      have ho1 := (h3 33 (by omega) (by omega)).trans ho
      refine kx_stk (st1 := [.int b, .int (nI 0), .ref oa]) rfl ?_
      refine kx_i2l d_L_couple_12 ?_
      refine kx_last (x := 33) d_L_couple_13 ho1 (by decide) (by decide) ?_
      refine kx_goto 25 d_L_couple_14 (by decide) ?_
      refine kx_iconst (nI 0) d_L_couple_25 (by decide) ?_
      refine kx_iret d_L_couple_26 rfl (by decide) (by decide) ?_
      exact ⟨rfl, _, w1, _, h1, kx_off.rf.set rfl, kx_s1 ho1, fun _ => rfl⟩
    · cases h2
theorem d_L_uncouple_0 : decode c_L_uncouple 0 = .ok (.aload_n 3, 1) := by decide +kernel
theorem d_L_uncouple_1 : decode c_L_uncouple 1 = .ok (.iconst 0, 1) := by decide +kernel
theorem d_L_uncouple_2 : decode c_L_uncouple 2 = .ok (.aload_n 0, 1) := by decide +kernel
theorem d_L_uncouple_3 : decode c_L_uncouple 3 = .ok (.iload_n 1, 1) := by decide +kernel
theorem d_L_uncouple_4 : decode c_L_uncouple 4 = .ok (.iload_n 2, 1) := by decide +kernel
theorem d_L_uncouple_5 : decode c_L_uncouple 5 = .ok (.invokevirtual 23, 3) := by decide +kernel
theorem d_L_uncouple_8 : decode c_L_uncouple 8 = .ok (.i2l, 1) := by decide +kernel
theorem d_L_uncouple_9 : decode c_L_uncouple 9 = .ok (.lastore, 1) := by decide +kernel
theorem d_L_uncouple_10 : decode c_L_uncouple 10 = .ok (.goto 11, 3) := by decide +kernel
theorem d_L_uncouple_13 : decode c_L_uncouple 13 = .ok (.astore 4, 2) := by decide +kernel
theorem d_L_uncouple_15 : decode c_L_uncouple 15 = .ok (.iconst 1, 1) := by decide +kernel
theorem d_L_uncouple_16 : decode c_L_uncouple 16 = .ok (.ireturn, 1) := by decide +kernel
theorem d_L_uncouple_17 : decode c_L_uncouple 17 = .ok (.astore 4, 2) := by decide +kernel
theorem d_L_uncouple_19 : decode c_L_uncouple 19 = .ok (.iconst 2, 1) := by decide +kernel
theorem d_L_uncouple_20 : decode c_L_uncouple 20 = .ok (.ireturn, 1) := by decide +kernel
theorem d_L_uncouple_21 : decode c_L_uncouple 21 = .ok (.iconst 0, 1) := by decide +kernel
theorem d_L_uncouple_22 : decode c_L_uncouple 22 = .ok (.ireturn, 1) := by decide +kernel
theorem h_L_uncouple_1 : kx_HD Y_L_uncouple 5 kx_nse 13 := ⟨[], [(0, 10, 17, 15)], (0, 10, 13, 21), rfl, by decide, by decide, rfl, by decide, cl_L_21, by decide +kernel, fun g hg => by cases hg⟩
theorem h_L_uncouple_2 : kx_HD Y_L_uncouple 5 kx_ise 17 := ⟨[(0, 10, 13, 21)], [], (0, 10, 17, 15), rfl, by decide, by decide, rfl, by decide, cl_L_15, by decide +kernel, fun g hg => by rw [List.mem_singleton.mp hg]; exact ⟨by decide, kx_nse, cl_L_21, by decide +kernel⟩⟩
set_option maxRecDepth 20000 in
set_option maxHeartbeats 4000000 in
theorem m_L_uncouple {E : kx_E} {w : va_W} {a0 oa : Nat} {fs : List Value} {f : Nat → Int64} (hw0 : w[0]? = some (a0, .inr (4, fs))) (ho : w[33]? = some (oa, kx_aj E 1 f)) {p0 p1 : Int32} {k : Nat} {b : Int32} {Qc : kx_O → va_W → Prop} (hc : kx_S E Y_B_uncouple [.ref a0, .int p0, .int p1] w Qc) (hq : ∀ o w1, Qc o w1 → ((k = 0 ∧ o = .inl (rI b)) ∨ (0 < k ∧ ∃ x, (R2 kx_nse kx_ise) k = some x ∧ o = .inr x)) ∧ modK w w1) : kx_S E Y_L_uncouple [.ref a0, .int p0, .int p1, .ref oa] w (LQ E oa k b Qc) := by
  refine kx_goH (by decide) rfl (by decide) (Nat.le_of_ble_eq_true rfl) (kx_cc rfl (kx_cc rfl (kx_cc rfl (kx_cc rfl kx_c0)))) (fun z => ?_)
  refine kx_aload_n d_L_uncouple_0 rfl (by first | rfl | exact kx_rf _) ?_
  refine kx_iconst (nI 0) d_L_uncouple_1 (by decide) ?_
  refine kx_aload_n d_L_uncouple_2 rfl (by first | rfl | exact kx_rf _) ?_
  refine kx_iload_n d_L_uncouple_3 rfl ?_
  refine kx_iload_n d_L_uncouple_4 rfl ?_
  refine kx_callVH (as := [.int p0, .int p1]) (rest := [.int (nI 0), .ref oa]) d_L_uncouple_5 v_L_23 rfl hw0 rfl rfl (by decide) (by decide) (Nat.le_of_ble_eq_true rfl) (by decide) (by decide) rfl hc ?_ ?_
  · intro X w1 h1
    obtain ⟨h2, h3⟩ := hq _ w1 h1
    rcases h2 with ⟨-, h2⟩ | ⟨h4, x, h5, h6⟩
    · cases h2
    · cases h6
      rcases R2_c h5 with ⟨rfl, rfl⟩ | ⟨rfl, rfl⟩
      · refine ⟨13, h_L_uncouple_1, fun q => ?_⟩
        refine kx_astore d_L_uncouple_13 (by decide) (by first | rfl | exact kx_rf _) ?_
        refine kx_iconst (nI 1) d_L_uncouple_15 (by decide) ?_
        refine kx_iret d_L_uncouple_16 rfl (by decide) (by decide) ?_
        exact ⟨rfl, _, w1, f, h1, kx_off.rf, (h3 33 (by omega) (by omega)).trans ho, fun h => by omega⟩
      · refine ⟨17, h_L_uncouple_2, fun q => ?_⟩
        refine kx_astore d_L_uncouple_17 (by decide) (by first | rfl | exact kx_rf _) ?_
        refine kx_iconst (nI 2) d_L_uncouple_19 (by decide) ?_
        refine kx_iret d_L_uncouple_20 rfl (by decide) (by decide) ?_
        exact ⟨rfl, _, w1, f, h1, kx_off.rf, (h3 33 (by omega) (by omega)).trans ho, fun h => by omega⟩
  · intro v w1 h1
    obtain ⟨h2, h3⟩ := hq _ w1 h1
    rcases h2 with ⟨hk, h2⟩ | ⟨-, x, -, h2⟩
    · cases h2
      subst hk
      have ho1 := (h3 33 (by omega) (by omega)).trans ho
      refine kx_stk (st1 := [.int b, .int (nI 0), .ref oa]) rfl ?_
      refine kx_i2l d_L_uncouple_8 ?_
      refine kx_last (x := 33) d_L_uncouple_9 ho1 (by decide) (by decide) ?_
      refine kx_goto 21 d_L_uncouple_10 (by decide) ?_
      refine kx_iconst (nI 0) d_L_uncouple_21 (by decide) ?_
      refine kx_iret d_L_uncouple_22 rfl (by decide) (by decide) ?_
      exact ⟨rfl, _, w1, _, h1, kx_off.rf.set rfl, kx_s1 ho1, fun _ => rfl⟩
    · cases h2
theorem d_L_reset_0 : decode c_L_reset 0 = .ok (.aload_n 0, 1) := by decide +kernel
theorem d_L_reset_1 : decode c_L_reset 1 = .ok (.iload_n 1, 1) := by decide +kernel
theorem d_L_reset_2 : decode c_L_reset 2 = .ok (.invokevirtual 26, 3) := by decide +kernel
theorem d_L_reset_5 : decode c_L_reset 5 = .ok (.goto 6, 3) := by decide +kernel
theorem d_L_reset_8 : decode c_L_reset 8 = .ok (.astore_n 2, 1) := by decide +kernel
theorem d_L_reset_9 : decode c_L_reset 9 = .ok (.iconst 1, 1) := by decide +kernel
theorem d_L_reset_10 : decode c_L_reset 10 = .ok (.ireturn, 1) := by decide +kernel
theorem d_L_reset_11 : decode c_L_reset 11 = .ok (.iconst 0, 1) := by decide +kernel
theorem d_L_reset_12 : decode c_L_reset 12 = .ok (.ireturn, 1) := by decide +kernel
theorem h_L_reset_1 : kx_HD Y_L_reset 2 kx_nse 8 := ⟨[], [], (0, 5, 8, 21), rfl, by decide, by decide, rfl, by decide, cl_L_21, by decide +kernel, fun g hg => by cases hg⟩
def LV (E : kx_E) (k : Nat) (Qc : kx_O → va_W → Prop) : kx_O → va_W → Prop := fun o w2 => o = .inl (some (.int (nI k))) ∧ ∃ o1, Qc o1 w2
set_option maxRecDepth 20000 in
set_option maxHeartbeats 4000000 in
theorem m_L_reset {E : kx_E} {w : va_W} {a0 : Nat} {fs : List Value} (hw0 : w[0]? = some (a0, .inr (4, fs))) {p0 : Int32} {k : Nat} {b : Int32} {Qc : kx_O → va_W → Prop} (hc : kx_S E Y_B_reset [.ref a0, .int p0] w Qc) (hq : ∀ o w1, Qc o w1 → ((k = 0 ∧ o = .inl (rV b)) ∨ (0 < k ∧ ∃ x, (R1 kx_nse) k = some x ∧ o = .inr x)) ∧ modK w w1) : kx_S E Y_L_reset [.ref a0, .int p0] w (LV E k Qc) := by
  refine kx_goH (by decide) rfl (by decide) (Nat.le_of_ble_eq_true rfl) (kx_cc rfl (kx_cc rfl kx_c0)) (fun z => ?_)
  refine kx_aload_n d_L_reset_0 rfl (by first | rfl | exact kx_rf _) ?_
  refine kx_iload_n d_L_reset_1 rfl ?_
  refine kx_callVH (as := [.int p0]) (rest := []) d_L_reset_2 v_L_26 rfl hw0 rfl rfl (by decide) (by decide) (Nat.le_of_ble_eq_true rfl) (by decide) (by decide) rfl hc ?_ ?_
  · intro X w1 h1
    obtain ⟨h2, h3⟩ := hq _ w1 h1
    rcases h2 with ⟨-, h2⟩ | ⟨h4, x, h5, h6⟩
    · cases h2
    · cases h6
      obtain ⟨rfl, rfl⟩ := R1_c h5
      refine ⟨8, h_L_reset_1, fun q => ?_⟩
      refine kx_astore_n d_L_reset_8 (by decide) (by first | rfl | exact kx_rf _) ?_
      refine kx_iconst (nI 1) d_L_reset_9 (by decide) ?_
      refine kx_iret d_L_reset_10 rfl (by decide) (by decide) ?_
      exact ⟨rfl, _, h1⟩
  · intro v w1 h1
    obtain ⟨h2, h3⟩ := hq _ w1 h1
    rcases h2 with ⟨hk, h2⟩ | ⟨-, x, -, h2⟩
    · cases h2
      subst hk
      refine kx_stk (st1 := []) rfl ?_
      refine kx_goto 11 d_L_reset_5 (by decide) ?_
      refine kx_iconst (nI 0) d_L_reset_11 (by decide) ?_
      refine kx_iret d_L_reset_12 rfl (by decide) (by decide) ?_
      exact ⟨rfl, _, h1⟩
    · cases h2
theorem d_L_rounds_0 : decode c_L_rounds 0 = .ok (.aload_n 3, 1) := by decide +kernel
theorem d_L_rounds_1 : decode c_L_rounds 1 = .ok (.iconst 0, 1) := by decide +kernel
theorem d_L_rounds_2 : decode c_L_rounds 2 = .ok (.aload_n 0, 1) := by decide +kernel
theorem d_L_rounds_3 : decode c_L_rounds 3 = .ok (.iload_n 1, 1) := by decide +kernel
theorem d_L_rounds_4 : decode c_L_rounds 4 = .ok (.iload_n 2, 1) := by decide +kernel
theorem d_L_rounds_5 : decode c_L_rounds 5 = .ok (.invokevirtual 30, 3) := by decide +kernel
theorem d_L_rounds_8 : decode c_L_rounds 8 = .ok (.i2l, 1) := by decide +kernel
theorem d_L_rounds_9 : decode c_L_rounds 9 = .ok (.lastore, 1) := by decide +kernel
theorem d_L_rounds_10 : decode c_L_rounds 10 = .ok (.goto 7, 3) := by decide +kernel
theorem d_L_rounds_13 : decode c_L_rounds 13 = .ok (.astore 4, 2) := by decide +kernel
theorem d_L_rounds_15 : decode c_L_rounds 15 = .ok (.iconst 1, 1) := by decide +kernel
theorem d_L_rounds_16 : decode c_L_rounds 16 = .ok (.ireturn, 1) := by decide +kernel
theorem d_L_rounds_17 : decode c_L_rounds 17 = .ok (.iconst 0, 1) := by decide +kernel
theorem d_L_rounds_18 : decode c_L_rounds 18 = .ok (.ireturn, 1) := by decide +kernel
theorem h_L_rounds_1 : kx_HD Y_L_rounds 5 kx_iae 13 := ⟨[], [], (0, 10, 13, 13), rfl, by decide, by decide, rfl, by decide, cl_L_13, by decide +kernel, fun g hg => by cases hg⟩
set_option maxRecDepth 20000 in
set_option maxHeartbeats 4000000 in
theorem m_L_rounds {E : kx_E} {w : va_W} {a0 oa : Nat} {fs : List Value} {f : Nat → Int64} (hw0 : w[0]? = some (a0, .inr (4, fs))) (ho : w[33]? = some (oa, kx_aj E 1 f)) {p0 p1 : Int32} {k : Nat} {b : Int32} {Qc : kx_O → va_W → Prop} (hc : kx_S E Y_B_rounds [.ref a0, .int p0, .int p1] w Qc) (hq : ∀ o w1, Qc o w1 → ((k = 0 ∧ o = .inl (rI b)) ∨ (0 < k ∧ ∃ x, (R1 kx_iae) k = some x ∧ o = .inr x)) ∧ modK w w1) : kx_S E Y_L_rounds [.ref a0, .int p0, .int p1, .ref oa] w (LQ E oa k b Qc) := by
  refine kx_goH (by decide) rfl (by decide) (Nat.le_of_ble_eq_true rfl) (kx_cc rfl (kx_cc rfl (kx_cc rfl (kx_cc rfl kx_c0)))) (fun z => ?_)
  refine kx_aload_n d_L_rounds_0 rfl (by first | rfl | exact kx_rf _) ?_
  refine kx_iconst (nI 0) d_L_rounds_1 (by decide) ?_
  refine kx_aload_n d_L_rounds_2 rfl (by first | rfl | exact kx_rf _) ?_
  refine kx_iload_n d_L_rounds_3 rfl ?_
  refine kx_iload_n d_L_rounds_4 rfl ?_
  refine kx_callVH (as := [.int p0, .int p1]) (rest := [.int (nI 0), .ref oa]) d_L_rounds_5 v_L_30 rfl hw0 rfl rfl (by decide) (by decide) (Nat.le_of_ble_eq_true rfl) (by decide) (by decide) rfl hc ?_ ?_
  · intro X w1 h1
    obtain ⟨h2, h3⟩ := hq _ w1 h1
    rcases h2 with ⟨-, h2⟩ | ⟨h4, x, h5, h6⟩
    · cases h2
    · cases h6
      obtain ⟨rfl, rfl⟩ := R1_c h5
      refine ⟨13, h_L_rounds_1, fun q => ?_⟩
      refine kx_astore d_L_rounds_13 (by decide) (by first | rfl | exact kx_rf _) ?_
      refine kx_iconst (nI 1) d_L_rounds_15 (by decide) ?_
      refine kx_iret d_L_rounds_16 rfl (by decide) (by decide) ?_
      exact ⟨rfl, _, w1, f, h1, kx_off.rf, (h3 33 (by omega) (by omega)).trans ho, fun h => by omega⟩
  · intro v w1 h1
    obtain ⟨h2, h3⟩ := hq _ w1 h1
    rcases h2 with ⟨hk, h2⟩ | ⟨-, x, -, h2⟩
    · cases h2
      subst hk
      have ho1 := (h3 33 (by omega) (by omega)).trans ho
      refine kx_stk (st1 := [.int b, .int (nI 0), .ref oa]) rfl ?_
      refine kx_i2l d_L_rounds_8 ?_
      refine kx_last (x := 33) d_L_rounds_9 ho1 (by decide) (by decide) ?_
      refine kx_goto 17 d_L_rounds_10 (by decide) ?_
      refine kx_iconst (nI 0) d_L_rounds_17 (by decide) ?_
      refine kx_iret d_L_rounds_18 rfl (by decide) (by decide) ?_
      exact ⟨rfl, _, w1, _, h1, kx_off.rf.set rfl, kx_s1 ho1, fun _ => rfl⟩
    · cases h2
theorem d_L_coupling_0 : decode c_L_coupling 0 = .ok (.aload_n 3, 1) := by decide +kernel
theorem d_L_coupling_1 : decode c_L_coupling 1 = .ok (.iconst 0, 1) := by decide +kernel
theorem d_L_coupling_2 : decode c_L_coupling 2 = .ok (.aload_n 0, 1) := by decide +kernel
theorem d_L_coupling_3 : decode c_L_coupling 3 = .ok (.iload_n 1, 1) := by decide +kernel
theorem d_L_coupling_4 : decode c_L_coupling 4 = .ok (.iload_n 2, 1) := by decide +kernel
theorem d_L_coupling_5 : decode c_L_coupling 5 = .ok (.invokevirtual 33, 3) := by decide +kernel
theorem d_L_coupling_8 : decode c_L_coupling 8 = .ok (.i2l, 1) := by decide +kernel
theorem d_L_coupling_9 : decode c_L_coupling 9 = .ok (.lastore, 1) := by decide +kernel
theorem d_L_coupling_10 : decode c_L_coupling 10 = .ok (.goto 7, 3) := by decide +kernel
theorem d_L_coupling_13 : decode c_L_coupling 13 = .ok (.astore 4, 2) := by decide +kernel
theorem d_L_coupling_15 : decode c_L_coupling 15 = .ok (.iconst 1, 1) := by decide +kernel
theorem d_L_coupling_16 : decode c_L_coupling 16 = .ok (.ireturn, 1) := by decide +kernel
theorem d_L_coupling_17 : decode c_L_coupling 17 = .ok (.iconst 0, 1) := by decide +kernel
theorem d_L_coupling_18 : decode c_L_coupling 18 = .ok (.ireturn, 1) := by decide +kernel
theorem h_L_coupling_1 : kx_HD Y_L_coupling 5 kx_nse 13 := ⟨[], [], (0, 10, 13, 21), rfl, by decide, by decide, rfl, by decide, cl_L_21, by decide +kernel, fun g hg => by cases hg⟩
set_option maxRecDepth 20000 in
set_option maxHeartbeats 4000000 in
theorem m_L_coupling {E : kx_E} {w : va_W} {a0 oa : Nat} {fs : List Value} {f : Nat → Int64} (hw0 : w[0]? = some (a0, .inr (4, fs))) (ho : w[33]? = some (oa, kx_aj E 1 f)) {p0 p1 : Int32} {k : Nat} {b : Int32} {Qc : kx_O → va_W → Prop} (hc : kx_S E Y_B_coupling [.ref a0, .int p0, .int p1] w Qc) (hq : ∀ o w1, Qc o w1 → ((k = 0 ∧ o = .inl (rI b)) ∨ (0 < k ∧ ∃ x, (R1 kx_nse) k = some x ∧ o = .inr x)) ∧ modK w w1) : kx_S E Y_L_coupling [.ref a0, .int p0, .int p1, .ref oa] w (LQ E oa k b Qc) := by
  refine kx_goH (by decide) rfl (by decide) (Nat.le_of_ble_eq_true rfl) (kx_cc rfl (kx_cc rfl (kx_cc rfl (kx_cc rfl kx_c0)))) (fun z => ?_)
  refine kx_aload_n d_L_coupling_0 rfl (by first | rfl | exact kx_rf _) ?_
  refine kx_iconst (nI 0) d_L_coupling_1 (by decide) ?_
  refine kx_aload_n d_L_coupling_2 rfl (by first | rfl | exact kx_rf _) ?_
  refine kx_iload_n d_L_coupling_3 rfl ?_
  refine kx_iload_n d_L_coupling_4 rfl ?_
  refine kx_callVH (as := [.int p0, .int p1]) (rest := [.int (nI 0), .ref oa]) d_L_coupling_5 v_L_33 rfl hw0 rfl rfl (by decide) (by decide) (Nat.le_of_ble_eq_true rfl) (by decide) (by decide) rfl hc ?_ ?_
  · intro X w1 h1
    obtain ⟨h2, h3⟩ := hq _ w1 h1
    rcases h2 with ⟨-, h2⟩ | ⟨h4, x, h5, h6⟩
    · cases h2
    · cases h6
      obtain ⟨rfl, rfl⟩ := R1_c h5
      refine ⟨13, h_L_coupling_1, fun q => ?_⟩
      refine kx_astore d_L_coupling_13 (by decide) (by first | rfl | exact kx_rf _) ?_
      refine kx_iconst (nI 1) d_L_coupling_15 (by decide) ?_
      refine kx_iret d_L_coupling_16 rfl (by decide) (by decide) ?_
      exact ⟨rfl, _, w1, f, h1, kx_off.rf, (h3 33 (by omega) (by omega)).trans ho, fun h => by omega⟩
  · intro v w1 h1
    obtain ⟨h2, h3⟩ := hq _ w1 h1
    rcases h2 with ⟨hk, h2⟩ | ⟨-, x, -, h2⟩
    · cases h2
      subst hk
      have ho1 := (h3 33 (by omega) (by omega)).trans ho
      refine kx_stk (st1 := [.int b, .int (nI 0), .ref oa]) rfl ?_
      refine kx_i2l d_L_coupling_8 ?_
      refine kx_last (x := 33) d_L_coupling_9 ho1 (by decide) (by decide) ?_
      refine kx_goto 17 d_L_coupling_10 (by decide) ?_
      refine kx_iconst (nI 0) d_L_coupling_17 (by decide) ?_
      refine kx_iret d_L_coupling_18 rfl (by decide) (by decide) ?_
      exact ⟨rfl, _, w1, _, h1, kx_off.rf.set rfl, kx_s1 ho1, fun _ => rfl⟩
    · cases h2
theorem d_L_about_0 : decode c_L_about 0 = .ok (.aload_n 3, 1) := by decide +kernel
theorem d_L_about_1 : decode c_L_about 1 = .ok (.iconst 0, 1) := by decide +kernel
theorem d_L_about_2 : decode c_L_about 2 = .ok (.aload_n 0, 1) := by decide +kernel
theorem d_L_about_3 : decode c_L_about 3 = .ok (.iload_n 1, 1) := by decide +kernel
theorem d_L_about_4 : decode c_L_about 4 = .ok (.iload_n 2, 1) := by decide +kernel
theorem d_L_about_5 : decode c_L_about 5 = .ok (.invokevirtual 36, 3) := by decide +kernel
theorem d_L_about_8 : decode c_L_about 8 = .ok (.i2l, 1) := by decide +kernel
theorem d_L_about_9 : decode c_L_about 9 = .ok (.lastore, 1) := by decide +kernel
theorem d_L_about_10 : decode c_L_about 10 = .ok (.goto 11, 3) := by decide +kernel
theorem d_L_about_13 : decode c_L_about 13 = .ok (.astore 4, 2) := by decide +kernel
theorem d_L_about_15 : decode c_L_about 15 = .ok (.iconst 1, 1) := by decide +kernel
theorem d_L_about_16 : decode c_L_about 16 = .ok (.ireturn, 1) := by decide +kernel
theorem d_L_about_17 : decode c_L_about 17 = .ok (.astore 4, 2) := by decide +kernel
theorem d_L_about_19 : decode c_L_about 19 = .ok (.iconst 2, 1) := by decide +kernel
theorem d_L_about_20 : decode c_L_about 20 = .ok (.ireturn, 1) := by decide +kernel
theorem d_L_about_21 : decode c_L_about 21 = .ok (.iconst 0, 1) := by decide +kernel
theorem d_L_about_22 : decode c_L_about 22 = .ok (.ireturn, 1) := by decide +kernel
theorem h_L_about_1 : kx_HD Y_L_about 5 kx_nse 13 := ⟨[], [(0, 10, 17, 13)], (0, 10, 13, 21), rfl, by decide, by decide, rfl, by decide, cl_L_21, by decide +kernel, fun g hg => by cases hg⟩
theorem h_L_about_2 : kx_HD Y_L_about 5 kx_iae 17 := ⟨[(0, 10, 13, 21)], [], (0, 10, 17, 13), rfl, by decide, by decide, rfl, by decide, cl_L_13, by decide +kernel, fun g hg => by rw [List.mem_singleton.mp hg]; exact ⟨by decide, kx_nse, cl_L_21, by decide +kernel⟩⟩
set_option maxRecDepth 20000 in
set_option maxHeartbeats 4000000 in
theorem m_L_about {E : kx_E} {w : va_W} {a0 oa : Nat} {fs : List Value} {f : Nat → Int64} (hw0 : w[0]? = some (a0, .inr (4, fs))) (ho : w[33]? = some (oa, kx_aj E 1 f)) {p0 p1 : Int32} {k : Nat} {b : Int32} {Qc : kx_O → va_W → Prop} (hc : kx_S E Y_B_about [.ref a0, .int p0, .int p1] w Qc) (hq : ∀ o w1, Qc o w1 → ((k = 0 ∧ o = .inl (rI b)) ∨ (0 < k ∧ ∃ x, (R2 kx_nse kx_iae) k = some x ∧ o = .inr x)) ∧ modK w w1) : kx_S E Y_L_about [.ref a0, .int p0, .int p1, .ref oa] w (LQ E oa k b Qc) := by
  refine kx_goH (by decide) rfl (by decide) (Nat.le_of_ble_eq_true rfl) (kx_cc rfl (kx_cc rfl (kx_cc rfl (kx_cc rfl kx_c0)))) (fun z => ?_)
  refine kx_aload_n d_L_about_0 rfl (by first | rfl | exact kx_rf _) ?_
  refine kx_iconst (nI 0) d_L_about_1 (by decide) ?_
  refine kx_aload_n d_L_about_2 rfl (by first | rfl | exact kx_rf _) ?_
  refine kx_iload_n d_L_about_3 rfl ?_
  refine kx_iload_n d_L_about_4 rfl ?_
  refine kx_callVH (as := [.int p0, .int p1]) (rest := [.int (nI 0), .ref oa]) d_L_about_5 v_L_36 rfl hw0 rfl rfl (by decide) (by decide) (Nat.le_of_ble_eq_true rfl) (by decide) (by decide) rfl hc ?_ ?_
  · intro X w1 h1
    obtain ⟨h2, h3⟩ := hq _ w1 h1
    rcases h2 with ⟨-, h2⟩ | ⟨h4, x, h5, h6⟩
    · cases h2
    · cases h6
      rcases R2_c h5 with ⟨rfl, rfl⟩ | ⟨rfl, rfl⟩
      · refine ⟨13, h_L_about_1, fun q => ?_⟩
        refine kx_astore d_L_about_13 (by decide) (by first | rfl | exact kx_rf _) ?_
        refine kx_iconst (nI 1) d_L_about_15 (by decide) ?_
        refine kx_iret d_L_about_16 rfl (by decide) (by decide) ?_
        exact ⟨rfl, _, w1, f, h1, kx_off.rf, (h3 33 (by omega) (by omega)).trans ho, fun h => by omega⟩
      · refine ⟨17, h_L_about_2, fun q => ?_⟩
        refine kx_astore d_L_about_17 (by decide) (by first | rfl | exact kx_rf _) ?_
        refine kx_iconst (nI 2) d_L_about_19 (by decide) ?_
        refine kx_iret d_L_about_20 rfl (by decide) (by decide) ?_
        exact ⟨rfl, _, w1, f, h1, kx_off.rf, (h3 33 (by omega) (by omega)).trans ho, fun h => by omega⟩
  · intro v w1 h1
    obtain ⟨h2, h3⟩ := hq _ w1 h1
    rcases h2 with ⟨hk, h2⟩ | ⟨-, x, -, h2⟩
    · cases h2
      subst hk
      have ho1 := (h3 33 (by omega) (by omega)).trans ho
      refine kx_stk (st1 := [.int b, .int (nI 0), .ref oa]) rfl ?_
      refine kx_i2l d_L_about_8 ?_
      refine kx_last (x := 33) d_L_about_9 ho1 (by decide) (by decide) ?_
      refine kx_goto 21 d_L_about_10 (by decide) ?_
      refine kx_iconst (nI 0) d_L_about_21 (by decide) ?_
      refine kx_iret d_L_about_22 rfl (by decide) (by decide) ?_
      exact ⟨rfl, _, w1, _, h1, kx_off.rf.set rfl, kx_s1 ho1, fun _ => rfl⟩
    · cases h2
theorem d_L_directory_0 : decode c_L_directory 0 = .ok (.aload_n 3, 1) := by decide +kernel
theorem d_L_directory_1 : decode c_L_directory 1 = .ok (.iconst 0, 1) := by decide +kernel
theorem d_L_directory_2 : decode c_L_directory 2 = .ok (.aload_n 0, 1) := by decide +kernel
theorem d_L_directory_3 : decode c_L_directory 3 = .ok (.iload_n 1, 1) := by decide +kernel
theorem d_L_directory_4 : decode c_L_directory 4 = .ok (.iload_n 2, 1) := by decide +kernel
theorem d_L_directory_5 : decode c_L_directory 5 = .ok (.invokevirtual 39, 3) := by decide +kernel
theorem d_L_directory_8 : decode c_L_directory 8 = .ok (.i2l, 1) := by decide +kernel
theorem d_L_directory_9 : decode c_L_directory 9 = .ok (.lastore, 1) := by decide +kernel
theorem d_L_directory_10 : decode c_L_directory 10 = .ok (.goto 7, 3) := by decide +kernel
theorem d_L_directory_13 : decode c_L_directory 13 = .ok (.astore 4, 2) := by decide +kernel
theorem d_L_directory_15 : decode c_L_directory 15 = .ok (.iconst 1, 1) := by decide +kernel
theorem d_L_directory_16 : decode c_L_directory 16 = .ok (.ireturn, 1) := by decide +kernel
theorem d_L_directory_17 : decode c_L_directory 17 = .ok (.iconst 0, 1) := by decide +kernel
theorem d_L_directory_18 : decode c_L_directory 18 = .ok (.ireturn, 1) := by decide +kernel
theorem h_L_directory_1 : kx_HD Y_L_directory 5 kx_nse 13 := ⟨[], [], (0, 10, 13, 21), rfl, by decide, by decide, rfl, by decide, cl_L_21, by decide +kernel, fun g hg => by cases hg⟩
set_option maxRecDepth 20000 in
set_option maxHeartbeats 4000000 in
theorem m_L_directory {E : kx_E} {w : va_W} {a0 oa : Nat} {fs : List Value} {f : Nat → Int64} (hw0 : w[0]? = some (a0, .inr (4, fs))) (ho : w[33]? = some (oa, kx_aj E 1 f)) {p0 p1 : Int32} {k : Nat} {b : Int32} {Qc : kx_O → va_W → Prop} (hc : kx_S E Y_B_directory [.ref a0, .int p0, .int p1] w Qc) (hq : ∀ o w1, Qc o w1 → ((k = 0 ∧ o = .inl (rI b)) ∨ (0 < k ∧ ∃ x, (R1 kx_nse) k = some x ∧ o = .inr x)) ∧ modK w w1) : kx_S E Y_L_directory [.ref a0, .int p0, .int p1, .ref oa] w (LQ E oa k b Qc) := by
  refine kx_goH (by decide) rfl (by decide) (Nat.le_of_ble_eq_true rfl) (kx_cc rfl (kx_cc rfl (kx_cc rfl (kx_cc rfl kx_c0)))) (fun z => ?_)
  refine kx_aload_n d_L_directory_0 rfl (by first | rfl | exact kx_rf _) ?_
  refine kx_iconst (nI 0) d_L_directory_1 (by decide) ?_
  refine kx_aload_n d_L_directory_2 rfl (by first | rfl | exact kx_rf _) ?_
  refine kx_iload_n d_L_directory_3 rfl ?_
  refine kx_iload_n d_L_directory_4 rfl ?_
  refine kx_callVH (as := [.int p0, .int p1]) (rest := [.int (nI 0), .ref oa]) d_L_directory_5 v_L_39 rfl hw0 rfl rfl (by decide) (by decide) (Nat.le_of_ble_eq_true rfl) (by decide) (by decide) rfl hc ?_ ?_
  · intro X w1 h1
    obtain ⟨h2, h3⟩ := hq _ w1 h1
    rcases h2 with ⟨-, h2⟩ | ⟨h4, x, h5, h6⟩
    · cases h2
    · cases h6
      obtain ⟨rfl, rfl⟩ := R1_c h5
      refine ⟨13, h_L_directory_1, fun q => ?_⟩
      refine kx_astore d_L_directory_13 (by decide) (by first | rfl | exact kx_rf _) ?_
      refine kx_iconst (nI 1) d_L_directory_15 (by decide) ?_
      refine kx_iret d_L_directory_16 rfl (by decide) (by decide) ?_
      exact ⟨rfl, _, w1, f, h1, kx_off.rf, (h3 33 (by omega) (by omega)).trans ho, fun h => by omega⟩
  · intro v w1 h1
    obtain ⟨h2, h3⟩ := hq _ w1 h1
    rcases h2 with ⟨hk, h2⟩ | ⟨-, x, -, h2⟩
    · cases h2
      subst hk
      have ho1 := (h3 33 (by omega) (by omega)).trans ho
      refine kx_stk (st1 := [.int b, .int (nI 0), .ref oa]) rfl ?_
      refine kx_i2l d_L_directory_8 ?_
      refine kx_last (x := 33) d_L_directory_9 ho1 (by decide) (by decide) ?_
      refine kx_goto 17 d_L_directory_10 (by decide) ?_
      refine kx_iconst (nI 0) d_L_directory_17 (by decide) ?_
      refine kx_iret d_L_directory_18 rfl (by decide) (by decide) ?_
      exact ⟨rfl, _, w1, _, h1, kx_off.rf.set rfl, kx_s1 ho1, fun _ => rfl⟩
    · cases h2
theorem d_L_view_0 : decode c_L_view 0 = .ok (.aload 4, 2) := by decide +kernel
theorem d_L_view_2 : decode c_L_view 2 = .ok (.iconst 0, 1) := by decide +kernel
theorem d_L_view_3 : decode c_L_view 3 = .ok (.aload_n 0, 1) := by decide +kernel
theorem d_L_view_4 : decode c_L_view 4 = .ok (.iload_n 1, 1) := by decide +kernel
theorem d_L_view_5 : decode c_L_view 5 = .ok (.iload_n 2, 1) := by decide +kernel
theorem d_L_view_6 : decode c_L_view 6 = .ok (.iload_n 3, 1) := by decide +kernel
theorem d_L_view_7 : decode c_L_view 7 = .ok (.invokevirtual 42, 3) := by decide +kernel
theorem d_L_view_10 : decode c_L_view 10 = .ok (.i2l, 1) := by decide +kernel
theorem d_L_view_11 : decode c_L_view 11 = .ok (.lastore, 1) := by decide +kernel
theorem d_L_view_12 : decode c_L_view 12 = .ok (.goto 7, 3) := by decide +kernel
theorem d_L_view_15 : decode c_L_view 15 = .ok (.astore 5, 2) := by decide +kernel
theorem d_L_view_17 : decode c_L_view 17 = .ok (.iconst 1, 1) := by decide +kernel
theorem d_L_view_18 : decode c_L_view 18 = .ok (.ireturn, 1) := by decide +kernel
theorem d_L_view_19 : decode c_L_view 19 = .ok (.iconst 0, 1) := by decide +kernel
theorem d_L_view_20 : decode c_L_view 20 = .ok (.ireturn, 1) := by decide +kernel
theorem h_L_view_1 : kx_HD Y_L_view 7 kx_nse 15 := ⟨[], [], (0, 12, 15, 21), rfl, by decide, by decide, rfl, by decide, cl_L_21, by decide +kernel, fun g hg => by cases hg⟩
set_option maxRecDepth 20000 in
set_option maxHeartbeats 4000000 in
theorem m_L_view {E : kx_E} {w : va_W} {a0 oa : Nat} {fs : List Value} {f : Nat → Int64} (hw0 : w[0]? = some (a0, .inr (4, fs))) (ho : w[33]? = some (oa, kx_aj E 1 f)) {p0 p1 p2 : Int32} {k : Nat} {b : Int32} {Qc : kx_O → va_W → Prop} (hc : kx_S E Y_B_view [.ref a0, .int p0, .int p1, .int p2] w Qc) (hq : ∀ o w1, Qc o w1 → ((k = 0 ∧ o = .inl (rI b)) ∨ (0 < k ∧ ∃ x, (R1 kx_nse) k = some x ∧ o = .inr x)) ∧ modK w w1) : kx_S E Y_L_view [.ref a0, .int p0, .int p1, .int p2, .ref oa] w (LQ E oa k b Qc) := by
  refine kx_goH (by decide) rfl (by decide) (Nat.le_of_ble_eq_true rfl) (kx_cc rfl (kx_cc rfl (kx_cc rfl (kx_cc rfl (kx_cc rfl kx_c0))))) (fun z => ?_)
  refine kx_aload d_L_view_0 rfl (by first | rfl | exact kx_rf _) ?_
  refine kx_iconst (nI 0) d_L_view_2 (by decide) ?_
  refine kx_aload_n d_L_view_3 rfl (by first | rfl | exact kx_rf _) ?_
  refine kx_iload_n d_L_view_4 rfl ?_
  refine kx_iload_n d_L_view_5 rfl ?_
  refine kx_iload_n d_L_view_6 rfl ?_
  refine kx_callVH (as := [.int p0, .int p1, .int p2]) (rest := [.int (nI 0), .ref oa]) d_L_view_7 v_L_42 rfl hw0 rfl rfl (by decide) (by decide) (Nat.le_of_ble_eq_true rfl) (by decide) (by decide) rfl hc ?_ ?_
  · intro X w1 h1
    obtain ⟨h2, h3⟩ := hq _ w1 h1
    rcases h2 with ⟨-, h2⟩ | ⟨h4, x, h5, h6⟩
    · cases h2
    · cases h6
      obtain ⟨rfl, rfl⟩ := R1_c h5
      refine ⟨15, h_L_view_1, fun q => ?_⟩
      refine kx_astore d_L_view_15 (by decide) (by first | rfl | exact kx_rf _) ?_
      refine kx_iconst (nI 1) d_L_view_17 (by decide) ?_
      refine kx_iret d_L_view_18 rfl (by decide) (by decide) ?_
      exact ⟨rfl, _, w1, f, h1, kx_off.rf, (h3 33 (by omega) (by omega)).trans ho, fun h => by omega⟩
  · intro v w1 h1
    obtain ⟨h2, h3⟩ := hq _ w1 h1
    rcases h2 with ⟨hk, h2⟩ | ⟨-, x, -, h2⟩
    · cases h2
      subst hk
      have ho1 := (h3 33 (by omega) (by omega)).trans ho
      refine kx_stk (st1 := [.int b, .int (nI 0), .ref oa]) rfl ?_
      refine kx_i2l d_L_view_10 ?_
      refine kx_last (x := 33) d_L_view_11 ho1 (by decide) (by decide) ?_
      refine kx_goto 19 d_L_view_12 (by decide) ?_
      refine kx_iconst (nI 0) d_L_view_19 (by decide) ?_
      refine kx_iret d_L_view_20 rfl (by decide) (by decide) ?_
      exact ⟨rfl, _, w1, _, h1, kx_off.rf.set rfl, kx_s1 ho1, fun _ => rfl⟩
    · cases h2
theorem d_L_put_0 : decode c_L_put 0 = .ok (.aload 4, 2) := by decide +kernel
theorem d_L_put_2 : decode c_L_put 2 = .ok (.iconst 0, 1) := by decide +kernel
theorem d_L_put_3 : decode c_L_put 3 = .ok (.aload_n 0, 1) := by decide +kernel
theorem d_L_put_4 : decode c_L_put 4 = .ok (.iload_n 1, 1) := by decide +kernel
theorem d_L_put_5 : decode c_L_put 5 = .ok (.iload_n 2, 1) := by decide +kernel
theorem d_L_put_6 : decode c_L_put 6 = .ok (.iload_n 3, 1) := by decide +kernel
theorem d_L_put_7 : decode c_L_put 7 = .ok (.invokevirtual 46, 3) := by decide +kernel
theorem d_L_put_10 : decode c_L_put 10 = .ok (.i2l, 1) := by decide +kernel
theorem d_L_put_11 : decode c_L_put 11 = .ok (.lastore, 1) := by decide +kernel
theorem d_L_put_12 : decode c_L_put 12 = .ok (.goto 11, 3) := by decide +kernel
theorem d_L_put_15 : decode c_L_put 15 = .ok (.astore 5, 2) := by decide +kernel
theorem d_L_put_17 : decode c_L_put 17 = .ok (.iconst 1, 1) := by decide +kernel
theorem d_L_put_18 : decode c_L_put 18 = .ok (.ireturn, 1) := by decide +kernel
theorem d_L_put_19 : decode c_L_put 19 = .ok (.astore 5, 2) := by decide +kernel
theorem d_L_put_21 : decode c_L_put 21 = .ok (.iconst 2, 1) := by decide +kernel
theorem d_L_put_22 : decode c_L_put 22 = .ok (.ireturn, 1) := by decide +kernel
theorem d_L_put_23 : decode c_L_put 23 = .ok (.iconst 0, 1) := by decide +kernel
theorem d_L_put_24 : decode c_L_put 24 = .ok (.ireturn, 1) := by decide +kernel
theorem h_L_put_1 : kx_HD Y_L_put 7 kx_nse 15 := ⟨[], [(0, 12, 19, 13)], (0, 12, 15, 21), rfl, by decide, by decide, rfl, by decide, cl_L_21, by decide +kernel, fun g hg => by cases hg⟩
theorem h_L_put_2 : kx_HD Y_L_put 7 kx_iae 19 := ⟨[(0, 12, 15, 21)], [], (0, 12, 19, 13), rfl, by decide, by decide, rfl, by decide, cl_L_13, by decide +kernel, fun g hg => by rw [List.mem_singleton.mp hg]; exact ⟨by decide, kx_nse, cl_L_21, by decide +kernel⟩⟩
set_option maxRecDepth 20000 in
set_option maxHeartbeats 4000000 in
theorem m_L_put {E : kx_E} {w : va_W} {a0 oa : Nat} {fs : List Value} {f : Nat → Int64} (hw0 : w[0]? = some (a0, .inr (4, fs))) (ho : w[33]? = some (oa, kx_aj E 1 f)) {p0 p1 p2 : Int32} {k : Nat} {b : Int32} {Qc : kx_O → va_W → Prop} (hc : kx_S E Y_B_put [.ref a0, .int p0, .int p1, .int p2] w Qc) (hq : ∀ o w1, Qc o w1 → ((k = 0 ∧ o = .inl (rI b)) ∨ (0 < k ∧ ∃ x, (R2 kx_nse kx_iae) k = some x ∧ o = .inr x)) ∧ modK w w1) : kx_S E Y_L_put [.ref a0, .int p0, .int p1, .int p2, .ref oa] w (LQ E oa k b Qc) := by
  refine kx_goH (by decide) rfl (by decide) (Nat.le_of_ble_eq_true rfl) (kx_cc rfl (kx_cc rfl (kx_cc rfl (kx_cc rfl (kx_cc rfl kx_c0))))) (fun z => ?_)
  refine kx_aload d_L_put_0 rfl (by first | rfl | exact kx_rf _) ?_
  refine kx_iconst (nI 0) d_L_put_2 (by decide) ?_
  refine kx_aload_n d_L_put_3 rfl (by first | rfl | exact kx_rf _) ?_
  refine kx_iload_n d_L_put_4 rfl ?_
  refine kx_iload_n d_L_put_5 rfl ?_
  refine kx_iload_n d_L_put_6 rfl ?_
  refine kx_callVH (as := [.int p0, .int p1, .int p2]) (rest := [.int (nI 0), .ref oa]) d_L_put_7 v_L_46 rfl hw0 rfl rfl (by decide) (by decide) (Nat.le_of_ble_eq_true rfl) (by decide) (by decide) rfl hc ?_ ?_
  · intro X w1 h1
    obtain ⟨h2, h3⟩ := hq _ w1 h1
    rcases h2 with ⟨-, h2⟩ | ⟨h4, x, h5, h6⟩
    · cases h2
    · cases h6
      rcases R2_c h5 with ⟨rfl, rfl⟩ | ⟨rfl, rfl⟩
      · refine ⟨15, h_L_put_1, fun q => ?_⟩
        refine kx_astore d_L_put_15 (by decide) (by first | rfl | exact kx_rf _) ?_
        refine kx_iconst (nI 1) d_L_put_17 (by decide) ?_
        refine kx_iret d_L_put_18 rfl (by decide) (by decide) ?_
        exact ⟨rfl, _, w1, f, h1, kx_off.rf, (h3 33 (by omega) (by omega)).trans ho, fun h => by omega⟩
      · refine ⟨19, h_L_put_2, fun q => ?_⟩
        refine kx_astore d_L_put_19 (by decide) (by first | rfl | exact kx_rf _) ?_
        refine kx_iconst (nI 2) d_L_put_21 (by decide) ?_
        refine kx_iret d_L_put_22 rfl (by decide) (by decide) ?_
        exact ⟨rfl, _, w1, f, h1, kx_off.rf, (h3 33 (by omega) (by omega)).trans ho, fun h => by omega⟩
  · intro v w1 h1
    obtain ⟨h2, h3⟩ := hq _ w1 h1
    rcases h2 with ⟨hk, h2⟩ | ⟨-, x, -, h2⟩
    · cases h2
      subst hk
      have ho1 := (h3 33 (by omega) (by omega)).trans ho
      refine kx_stk (st1 := [.int b, .int (nI 0), .ref oa]) rfl ?_
      refine kx_i2l d_L_put_10 ?_
      refine kx_last (x := 33) d_L_put_11 ho1 (by decide) (by decide) ?_
      refine kx_goto 23 d_L_put_12 (by decide) ?_
      refine kx_iconst (nI 0) d_L_put_23 (by decide) ?_
      refine kx_iret d_L_put_24 rfl (by decide) (by decide) ?_
      exact ⟨rfl, _, w1, _, h1, kx_off.rf.set rfl, kx_s1 ho1, fun _ => rfl⟩
    · cases h2
theorem d_L_get_0 : decode c_L_get 0 = .ok (.aload 4, 2) := by decide +kernel
theorem d_L_get_2 : decode c_L_get 2 = .ok (.iconst 0, 1) := by decide +kernel
theorem d_L_get_3 : decode c_L_get 3 = .ok (.aload_n 0, 1) := by decide +kernel
theorem d_L_get_4 : decode c_L_get 4 = .ok (.iload_n 1, 1) := by decide +kernel
theorem d_L_get_5 : decode c_L_get 5 = .ok (.iload_n 2, 1) := by decide +kernel
theorem d_L_get_6 : decode c_L_get 6 = .ok (.iload_n 3, 1) := by decide +kernel
theorem d_L_get_7 : decode c_L_get 7 = .ok (.invokevirtual 49, 3) := by decide +kernel
theorem d_L_get_10 : decode c_L_get 10 = .ok (.i2l, 1) := by decide +kernel
theorem d_L_get_11 : decode c_L_get 11 = .ok (.lastore, 1) := by decide +kernel
theorem d_L_get_12 : decode c_L_get 12 = .ok (.goto 11, 3) := by decide +kernel
theorem d_L_get_15 : decode c_L_get 15 = .ok (.astore 5, 2) := by decide +kernel
theorem d_L_get_17 : decode c_L_get 17 = .ok (.iconst 1, 1) := by decide +kernel
theorem d_L_get_18 : decode c_L_get 18 = .ok (.ireturn, 1) := by decide +kernel
theorem d_L_get_19 : decode c_L_get 19 = .ok (.astore 5, 2) := by decide +kernel
theorem d_L_get_21 : decode c_L_get 21 = .ok (.iconst 2, 1) := by decide +kernel
theorem d_L_get_22 : decode c_L_get 22 = .ok (.ireturn, 1) := by decide +kernel
theorem d_L_get_23 : decode c_L_get 23 = .ok (.iconst 0, 1) := by decide +kernel
theorem d_L_get_24 : decode c_L_get 24 = .ok (.ireturn, 1) := by decide +kernel
theorem h_L_get_1 : kx_HD Y_L_get 7 kx_nse 15 := ⟨[], [(0, 12, 19, 13)], (0, 12, 15, 21), rfl, by decide, by decide, rfl, by decide, cl_L_21, by decide +kernel, fun g hg => by cases hg⟩
theorem h_L_get_2 : kx_HD Y_L_get 7 kx_iae 19 := ⟨[(0, 12, 15, 21)], [], (0, 12, 19, 13), rfl, by decide, by decide, rfl, by decide, cl_L_13, by decide +kernel, fun g hg => by rw [List.mem_singleton.mp hg]; exact ⟨by decide, kx_nse, cl_L_21, by decide +kernel⟩⟩
set_option maxRecDepth 20000 in
set_option maxHeartbeats 4000000 in
theorem m_L_get {E : kx_E} {w : va_W} {a0 oa : Nat} {fs : List Value} {f : Nat → Int64} (hw0 : w[0]? = some (a0, .inr (4, fs))) (ho : w[33]? = some (oa, kx_aj E 1 f)) {p0 p1 p2 : Int32} {k : Nat} {b : Int32} {Qc : kx_O → va_W → Prop} (hc : kx_S E Y_B_get [.ref a0, .int p0, .int p1, .int p2] w Qc) (hq : ∀ o w1, Qc o w1 → ((k = 0 ∧ o = .inl (rI b)) ∨ (0 < k ∧ ∃ x, (R2 kx_nse kx_iae) k = some x ∧ o = .inr x)) ∧ modK w w1) : kx_S E Y_L_get [.ref a0, .int p0, .int p1, .int p2, .ref oa] w (LQ E oa k b Qc) := by
  refine kx_goH (by decide) rfl (by decide) (Nat.le_of_ble_eq_true rfl) (kx_cc rfl (kx_cc rfl (kx_cc rfl (kx_cc rfl (kx_cc rfl kx_c0))))) (fun z => ?_)
  refine kx_aload d_L_get_0 rfl (by first | rfl | exact kx_rf _) ?_
  refine kx_iconst (nI 0) d_L_get_2 (by decide) ?_
  refine kx_aload_n d_L_get_3 rfl (by first | rfl | exact kx_rf _) ?_
  refine kx_iload_n d_L_get_4 rfl ?_
  refine kx_iload_n d_L_get_5 rfl ?_
  refine kx_iload_n d_L_get_6 rfl ?_
  refine kx_callVH (as := [.int p0, .int p1, .int p2]) (rest := [.int (nI 0), .ref oa]) d_L_get_7 v_L_49 rfl hw0 rfl rfl (by decide) (by decide) (Nat.le_of_ble_eq_true rfl) (by decide) (by decide) rfl hc ?_ ?_
  · intro X w1 h1
    obtain ⟨h2, h3⟩ := hq _ w1 h1
    rcases h2 with ⟨-, h2⟩ | ⟨h4, x, h5, h6⟩
    · cases h2
    · cases h6
      rcases R2_c h5 with ⟨rfl, rfl⟩ | ⟨rfl, rfl⟩
      · refine ⟨15, h_L_get_1, fun q => ?_⟩
        refine kx_astore d_L_get_15 (by decide) (by first | rfl | exact kx_rf _) ?_
        refine kx_iconst (nI 1) d_L_get_17 (by decide) ?_
        refine kx_iret d_L_get_18 rfl (by decide) (by decide) ?_
        exact ⟨rfl, _, w1, f, h1, kx_off.rf, (h3 33 (by omega) (by omega)).trans ho, fun h => by omega⟩
      · refine ⟨19, h_L_get_2, fun q => ?_⟩
        refine kx_astore d_L_get_19 (by decide) (by first | rfl | exact kx_rf _) ?_
        refine kx_iconst (nI 2) d_L_get_21 (by decide) ?_
        refine kx_iret d_L_get_22 rfl (by decide) (by decide) ?_
        exact ⟨rfl, _, w1, f, h1, kx_off.rf, (h3 33 (by omega) (by omega)).trans ho, fun h => by omega⟩
  · intro v w1 h1
    obtain ⟨h2, h3⟩ := hq _ w1 h1
    rcases h2 with ⟨hk, h2⟩ | ⟨-, x, -, h2⟩
    · cases h2
      subst hk
      have ho1 := (h3 33 (by omega) (by omega)).trans ho
      refine kx_stk (st1 := [.int b, .int (nI 0), .ref oa]) rfl ?_
      refine kx_i2l d_L_get_10 ?_
      refine kx_last (x := 33) d_L_get_11 ho1 (by decide) (by decide) ?_
      refine kx_goto 23 d_L_get_12 (by decide) ?_
      refine kx_iconst (nI 0) d_L_get_23 (by decide) ?_
      refine kx_iret d_L_get_24 rfl (by decide) (by decide) ?_
      exact ⟨rfl, _, w1, _, h1, kx_off.rf.set rfl, kx_s1 ho1, fun _ => rfl⟩
    · cases h2
theorem d_L_side_0 : decode c_L_side 0 = .ok (.aload 4, 2) := by decide +kernel
theorem d_L_side_2 : decode c_L_side 2 = .ok (.iconst 0, 1) := by decide +kernel
theorem d_L_side_3 : decode c_L_side 3 = .ok (.aload_n 0, 1) := by decide +kernel
theorem d_L_side_4 : decode c_L_side 4 = .ok (.iload_n 1, 1) := by decide +kernel
theorem d_L_side_5 : decode c_L_side 5 = .ok (.iload_n 2, 1) := by decide +kernel
theorem d_L_side_6 : decode c_L_side 6 = .ok (.iload_n 3, 1) := by decide +kernel
theorem d_L_side_7 : decode c_L_side 7 = .ok (.invokevirtual 52, 3) := by decide +kernel
theorem d_L_side_10 : decode c_L_side 10 = .ok (.i2l, 1) := by decide +kernel
theorem d_L_side_11 : decode c_L_side 11 = .ok (.lastore, 1) := by decide +kernel
theorem d_L_side_12 : decode c_L_side 12 = .ok (.goto 11, 3) := by decide +kernel
theorem d_L_side_15 : decode c_L_side 15 = .ok (.astore 5, 2) := by decide +kernel
theorem d_L_side_17 : decode c_L_side 17 = .ok (.iconst 1, 1) := by decide +kernel
theorem d_L_side_18 : decode c_L_side 18 = .ok (.ireturn, 1) := by decide +kernel
theorem d_L_side_19 : decode c_L_side 19 = .ok (.astore 5, 2) := by decide +kernel
theorem d_L_side_21 : decode c_L_side 21 = .ok (.iconst 2, 1) := by decide +kernel
theorem d_L_side_22 : decode c_L_side 22 = .ok (.ireturn, 1) := by decide +kernel
theorem d_L_side_23 : decode c_L_side 23 = .ok (.iconst 0, 1) := by decide +kernel
theorem d_L_side_24 : decode c_L_side 24 = .ok (.ireturn, 1) := by decide +kernel
theorem h_L_side_1 : kx_HD Y_L_side 7 kx_nse 15 := ⟨[], [(0, 12, 19, 13)], (0, 12, 15, 21), rfl, by decide, by decide, rfl, by decide, cl_L_21, by decide +kernel, fun g hg => by cases hg⟩
theorem h_L_side_2 : kx_HD Y_L_side 7 kx_iae 19 := ⟨[(0, 12, 15, 21)], [], (0, 12, 19, 13), rfl, by decide, by decide, rfl, by decide, cl_L_13, by decide +kernel, fun g hg => by rw [List.mem_singleton.mp hg]; exact ⟨by decide, kx_nse, cl_L_21, by decide +kernel⟩⟩
set_option maxRecDepth 20000 in
set_option maxHeartbeats 4000000 in
theorem m_L_side {E : kx_E} {w : va_W} {a0 oa : Nat} {fs : List Value} {f : Nat → Int64} (hw0 : w[0]? = some (a0, .inr (4, fs))) (ho : w[33]? = some (oa, kx_aj E 1 f)) {p0 p1 p2 : Int32} {k : Nat} {b : Int32} {Qc : kx_O → va_W → Prop} (hc : kx_S E Y_B_side [.ref a0, .int p0, .int p1, .int p2] w Qc) (hq : ∀ o w1, Qc o w1 → ((k = 0 ∧ o = .inl (rI b)) ∨ (0 < k ∧ ∃ x, (R2 kx_nse kx_iae) k = some x ∧ o = .inr x)) ∧ modK w w1) : kx_S E Y_L_side [.ref a0, .int p0, .int p1, .int p2, .ref oa] w (LQ E oa k b Qc) := by
  refine kx_goH (by decide) rfl (by decide) (Nat.le_of_ble_eq_true rfl) (kx_cc rfl (kx_cc rfl (kx_cc rfl (kx_cc rfl (kx_cc rfl kx_c0))))) (fun z => ?_)
  refine kx_aload d_L_side_0 rfl (by first | rfl | exact kx_rf _) ?_
  refine kx_iconst (nI 0) d_L_side_2 (by decide) ?_
  refine kx_aload_n d_L_side_3 rfl (by first | rfl | exact kx_rf _) ?_
  refine kx_iload_n d_L_side_4 rfl ?_
  refine kx_iload_n d_L_side_5 rfl ?_
  refine kx_iload_n d_L_side_6 rfl ?_
  refine kx_callVH (as := [.int p0, .int p1, .int p2]) (rest := [.int (nI 0), .ref oa]) d_L_side_7 v_L_52 rfl hw0 rfl rfl (by decide) (by decide) (Nat.le_of_ble_eq_true rfl) (by decide) (by decide) rfl hc ?_ ?_
  · intro X w1 h1
    obtain ⟨h2, h3⟩ := hq _ w1 h1
    rcases h2 with ⟨-, h2⟩ | ⟨h4, x, h5, h6⟩
    · cases h2
    · cases h6
      rcases R2_c h5 with ⟨rfl, rfl⟩ | ⟨rfl, rfl⟩
      · refine ⟨15, h_L_side_1, fun q => ?_⟩
        refine kx_astore d_L_side_15 (by decide) (by first | rfl | exact kx_rf _) ?_
        refine kx_iconst (nI 1) d_L_side_17 (by decide) ?_
        refine kx_iret d_L_side_18 rfl (by decide) (by decide) ?_
        exact ⟨rfl, _, w1, f, h1, kx_off.rf, (h3 33 (by omega) (by omega)).trans ho, fun h => by omega⟩
      · refine ⟨19, h_L_side_2, fun q => ?_⟩
        refine kx_astore d_L_side_19 (by decide) (by first | rfl | exact kx_rf _) ?_
        refine kx_iconst (nI 2) d_L_side_21 (by decide) ?_
        refine kx_iret d_L_side_22 rfl (by decide) (by decide) ?_
        exact ⟨rfl, _, w1, f, h1, kx_off.rf, (h3 33 (by omega) (by omega)).trans ho, fun h => by omega⟩
  · intro v w1 h1
    obtain ⟨h2, h3⟩ := hq _ w1 h1
    rcases h2 with ⟨hk, h2⟩ | ⟨-, x, -, h2⟩
    · cases h2
      subst hk
      have ho1 := (h3 33 (by omega) (by omega)).trans ho
      refine kx_stk (st1 := [.int b, .int (nI 0), .ref oa]) rfl ?_
      refine kx_i2l d_L_side_10 ?_
      refine kx_last (x := 33) d_L_side_11 ho1 (by decide) (by decide) ?_
      refine kx_goto 23 d_L_side_12 (by decide) ?_
      refine kx_iconst (nI 0) d_L_side_23 (by decide) ?_
      refine kx_iret d_L_side_24 rfl (by decide) (by decide) ?_
      exact ⟨rfl, _, w1, _, h1, kx_off.rf.set rfl, kx_s1 ho1, fun _ => rfl⟩
    · cases h2
theorem d_L_order_0 : decode c_L_order 0 = .ok (.aload_n 3, 1) := by decide +kernel
theorem d_L_order_1 : decode c_L_order 1 = .ok (.iconst 0, 1) := by decide +kernel
theorem d_L_order_2 : decode c_L_order 2 = .ok (.aload_n 0, 1) := by decide +kernel
theorem d_L_order_3 : decode c_L_order 3 = .ok (.iload_n 1, 1) := by decide +kernel
theorem d_L_order_4 : decode c_L_order 4 = .ok (.iload_n 2, 1) := by decide +kernel
theorem d_L_order_5 : decode c_L_order 5 = .ok (.invokevirtual 55, 3) := by decide +kernel
theorem d_L_order_8 : decode c_L_order 8 = .ok (.i2l, 1) := by decide +kernel
theorem d_L_order_9 : decode c_L_order 9 = .ok (.lastore, 1) := by decide +kernel
theorem d_L_order_10 : decode c_L_order 10 = .ok (.goto 7, 3) := by decide +kernel
theorem d_L_order_13 : decode c_L_order 13 = .ok (.astore 4, 2) := by decide +kernel
theorem d_L_order_15 : decode c_L_order 15 = .ok (.iconst 1, 1) := by decide +kernel
theorem d_L_order_16 : decode c_L_order 16 = .ok (.ireturn, 1) := by decide +kernel
theorem d_L_order_17 : decode c_L_order 17 = .ok (.iconst 0, 1) := by decide +kernel
theorem d_L_order_18 : decode c_L_order 18 = .ok (.ireturn, 1) := by decide +kernel
theorem h_L_order_1 : kx_HD Y_L_order 5 kx_nse 13 := ⟨[], [], (0, 10, 13, 21), rfl, by decide, by decide, rfl, by decide, cl_L_21, by decide +kernel, fun g hg => by cases hg⟩
set_option maxRecDepth 20000 in
set_option maxHeartbeats 4000000 in
theorem m_L_order {E : kx_E} {w : va_W} {a0 oa : Nat} {fs : List Value} {f : Nat → Int64} (hw0 : w[0]? = some (a0, .inr (4, fs))) (ho : w[33]? = some (oa, kx_aj E 1 f)) {p0 p1 : Int32} {k : Nat} {b : Int32} {Qc : kx_O → va_W → Prop} (hc : kx_S E Y_B_order [.ref a0, .int p0, .int p1] w Qc) (hq : ∀ o w1, Qc o w1 → ((k = 0 ∧ o = .inl (rI b)) ∨ (0 < k ∧ ∃ x, (R1 kx_nse) k = some x ∧ o = .inr x)) ∧ modK w w1) : kx_S E Y_L_order [.ref a0, .int p0, .int p1, .ref oa] w (LQ E oa k b Qc) := by
  refine kx_goH (by decide) rfl (by decide) (Nat.le_of_ble_eq_true rfl) (kx_cc rfl (kx_cc rfl (kx_cc rfl (kx_cc rfl kx_c0)))) (fun z => ?_)
  refine kx_aload_n d_L_order_0 rfl (by first | rfl | exact kx_rf _) ?_
  refine kx_iconst (nI 0) d_L_order_1 (by decide) ?_
  refine kx_aload_n d_L_order_2 rfl (by first | rfl | exact kx_rf _) ?_
  refine kx_iload_n d_L_order_3 rfl ?_
  refine kx_iload_n d_L_order_4 rfl ?_
  refine kx_callVH (as := [.int p0, .int p1]) (rest := [.int (nI 0), .ref oa]) d_L_order_5 v_L_55 rfl hw0 rfl rfl (by decide) (by decide) (Nat.le_of_ble_eq_true rfl) (by decide) (by decide) rfl hc ?_ ?_
  · intro X w1 h1
    obtain ⟨h2, h3⟩ := hq _ w1 h1
    rcases h2 with ⟨-, h2⟩ | ⟨h4, x, h5, h6⟩
    · cases h2
    · cases h6
      obtain ⟨rfl, rfl⟩ := R1_c h5
      refine ⟨13, h_L_order_1, fun q => ?_⟩
      refine kx_astore d_L_order_13 (by decide) (by first | rfl | exact kx_rf _) ?_
      refine kx_iconst (nI 1) d_L_order_15 (by decide) ?_
      refine kx_iret d_L_order_16 rfl (by decide) (by decide) ?_
      exact ⟨rfl, _, w1, f, h1, kx_off.rf, (h3 33 (by omega) (by omega)).trans ho, fun h => by omega⟩
  · intro v w1 h1
    obtain ⟨h2, h3⟩ := hq _ w1 h1
    rcases h2 with ⟨hk, h2⟩ | ⟨-, x, -, h2⟩
    · cases h2
      subst hk
      have ho1 := (h3 33 (by omega) (by omega)).trans ho
      refine kx_stk (st1 := [.int b, .int (nI 0), .ref oa]) rfl ?_
      refine kx_i2l d_L_order_8 ?_
      refine kx_last (x := 33) d_L_order_9 ho1 (by decide) (by decide) ?_
      refine kx_goto 17 d_L_order_10 (by decide) ?_
      refine kx_iconst (nI 0) d_L_order_17 (by decide) ?_
      refine kx_iret d_L_order_18 rfl (by decide) (by decide) ?_
      exact ⟨rfl, _, w1, _, h1, kx_off.rf.set rfl, kx_s1 ho1, fun _ => rfl⟩
    · cases h2
theorem d_L_count_0 : decode c_L_count 0 = .ok (.aload_n 2, 1) := by decide +kernel
theorem d_L_count_1 : decode c_L_count 1 = .ok (.iconst 0, 1) := by decide +kernel
theorem d_L_count_2 : decode c_L_count 2 = .ok (.aload_n 0, 1) := by decide +kernel
theorem d_L_count_3 : decode c_L_count 3 = .ok (.iload_n 1, 1) := by decide +kernel
theorem d_L_count_4 : decode c_L_count 4 = .ok (.invokevirtual 58, 3) := by decide +kernel
theorem d_L_count_7 : decode c_L_count 7 = .ok (.i2l, 1) := by decide +kernel
theorem d_L_count_8 : decode c_L_count 8 = .ok (.lastore, 1) := by decide +kernel
theorem d_L_count_9 : decode c_L_count 9 = .ok (.goto 6, 3) := by decide +kernel
theorem d_L_count_12 : decode c_L_count 12 = .ok (.astore_n 3, 1) := by decide +kernel
theorem d_L_count_13 : decode c_L_count 13 = .ok (.iconst 1, 1) := by decide +kernel
theorem d_L_count_14 : decode c_L_count 14 = .ok (.ireturn, 1) := by decide +kernel
theorem d_L_count_15 : decode c_L_count 15 = .ok (.iconst 0, 1) := by decide +kernel
theorem d_L_count_16 : decode c_L_count 16 = .ok (.ireturn, 1) := by decide +kernel
theorem h_L_count_1 : kx_HD Y_L_count 4 kx_iae 12 := ⟨[], [], (0, 9, 12, 13), rfl, by decide, by decide, rfl, by decide, cl_L_13, by decide +kernel, fun g hg => by cases hg⟩
set_option maxRecDepth 20000 in
set_option maxHeartbeats 4000000 in
theorem m_L_count {E : kx_E} {w : va_W} {a0 oa : Nat} {fs : List Value} {f : Nat → Int64} (hw0 : w[0]? = some (a0, .inr (4, fs))) (ho : w[33]? = some (oa, kx_aj E 1 f)) {p0 : Int32} {k : Nat} {b : Int32} {Qc : kx_O → va_W → Prop} (hc : kx_S E Y_B_count [.ref a0, .int p0] w Qc) (hq : ∀ o w1, Qc o w1 → ((k = 0 ∧ o = .inl (rI b)) ∨ (0 < k ∧ ∃ x, (R1 kx_iae) k = some x ∧ o = .inr x)) ∧ modK w w1) : kx_S E Y_L_count [.ref a0, .int p0, .ref oa] w (LQ E oa k b Qc) := by
  refine kx_goH (by decide) rfl (by decide) (Nat.le_of_ble_eq_true rfl) (kx_cc rfl (kx_cc rfl (kx_cc rfl kx_c0))) (fun z => ?_)
  refine kx_aload_n d_L_count_0 rfl (by first | rfl | exact kx_rf _) ?_
  refine kx_iconst (nI 0) d_L_count_1 (by decide) ?_
  refine kx_aload_n d_L_count_2 rfl (by first | rfl | exact kx_rf _) ?_
  refine kx_iload_n d_L_count_3 rfl ?_
  refine kx_callVH (as := [.int p0]) (rest := [.int (nI 0), .ref oa]) d_L_count_4 v_L_58 rfl hw0 rfl rfl (by decide) (by decide) (Nat.le_of_ble_eq_true rfl) (by decide) (by decide) rfl hc ?_ ?_
  · intro X w1 h1
    obtain ⟨h2, h3⟩ := hq _ w1 h1
    rcases h2 with ⟨-, h2⟩ | ⟨h4, x, h5, h6⟩
    · cases h2
    · cases h6
      obtain ⟨rfl, rfl⟩ := R1_c h5
      refine ⟨12, h_L_count_1, fun q => ?_⟩
      refine kx_astore_n d_L_count_12 (by decide) (by first | rfl | exact kx_rf _) ?_
      refine kx_iconst (nI 1) d_L_count_13 (by decide) ?_
      refine kx_iret d_L_count_14 rfl (by decide) (by decide) ?_
      exact ⟨rfl, _, w1, f, h1, kx_off.rf, (h3 33 (by omega) (by omega)).trans ho, fun h => by omega⟩
  · intro v w1 h1
    obtain ⟨h2, h3⟩ := hq _ w1 h1
    rcases h2 with ⟨hk, h2⟩ | ⟨-, x, -, h2⟩
    · cases h2
      subst hk
      have ho1 := (h3 33 (by omega) (by omega)).trans ho
      refine kx_stk (st1 := [.int b, .int (nI 0), .ref oa]) rfl ?_
      refine kx_i2l d_L_count_7 ?_
      refine kx_last (x := 33) d_L_count_8 ho1 (by decide) (by decide) ?_
      refine kx_goto 15 d_L_count_9 (by decide) ?_
      refine kx_iconst (nI 0) d_L_count_15 (by decide) ?_
      refine kx_iret d_L_count_16 rfl (by decide) (by decide) ?_
      exact ⟨rfl, _, w1, _, h1, kx_off.rf.set rfl, kx_s1 ho1, fun _ => rfl⟩
    · cases h2
