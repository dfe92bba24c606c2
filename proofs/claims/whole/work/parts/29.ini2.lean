/-! The makers of a car and of the bus -/
theorem kx_off_set {w w1 : va_W} {v : Nat} {c : Nat × va_E} (ho : kx_off w w1 (fun n => n = v)) (h : w1[v]? = some c) : w1 = w.set v c := by
  have hl := (List.getElem?_eq_some_iff.mp h).1
  apply List.ext_getElem?
  intro i
  by_cases e : i = v
  · subst e
    rw [h, List.getElem?_set_self (by rw [← ho.1]; exact hl)]
  · rw [ho.2 i e, List.getElem?_set_ne (fun q => e q.symm)]
theorem d_C_init_0 : decode c_C_init 0 = .ok (.aload_n 0, 1) := by decide +kernel
theorem d_C_init_1 : decode c_C_init 1 = .ok (.invokespecial 3, 3) := by decide +kernel
theorem d_C_init_4 : decode c_C_init 4 = .ok (.aload_n 0, 1) := by decide +kernel
theorem d_C_init_5 : decode c_C_init 5 = .ok (.iload_n 1, 1) := by decide +kernel
theorem d_C_init_6 : decode c_C_init 6 = .ok (.putfield 9, 3) := by decide +kernel
theorem d_C_init_9 : decode c_C_init 9 = .ok (.aload_n 0, 1) := by decide +kernel
theorem d_C_init_10 : decode c_C_init 10 = .ok (.iload_n 2, 1) := by decide +kernel
theorem d_C_init_11 : decode c_C_init 11 = .ok (.putfield 15, 3) := by decide +kernel
theorem d_C_init_14 : decode c_C_init 14 = .ok (.aload_n 0, 1) := by decide +kernel
theorem d_C_init_15 : decode c_C_init 15 = .ok (.iconst 2, 1) := by decide +kernel
theorem d_C_init_16 : decode c_C_init 16 = .ok (.anewarray 18, 3) := by decide +kernel
theorem d_C_init_19 : decode c_C_init 19 = .ok (.putfield 20, 3) := by decide +kernel
theorem d_C_init_22 : decode c_C_init 22 = .ok (.aload_n 0, 1) := by decide +kernel
theorem d_C_init_23 : decode c_C_init 23 = .ok (.getfield 20, 3) := by decide +kernel
theorem d_C_init_26 : decode c_C_init 26 = .ok (.iconst 0, 1) := by decide +kernel
theorem d_C_init_27 : decode c_C_init 27 = .ok (.new 18, 3) := by decide +kernel
theorem d_C_init_30 : decode c_C_init 30 = .ok (.dup, 1) := by decide +kernel
theorem d_C_init_31 : decode c_C_init 31 = .ok (.iconst 2, 1) := by decide +kernel
theorem d_C_init_32 : decode c_C_init 32 = .ok (.iload_n 1, 1) := by decide +kernel
theorem d_C_init_33 : decode c_C_init 33 = .ok (.imul, 1) := by decide +kernel
theorem d_C_init_34 : decode c_C_init 34 = .ok (.invokespecial 24, 3) := by decide +kernel
theorem d_C_init_37 : decode c_C_init 37 = .ok (.aastore, 1) := by decide +kernel
theorem d_C_init_38 : decode c_C_init 38 = .ok (.aload_n 0, 1) := by decide +kernel
theorem d_C_init_39 : decode c_C_init 39 = .ok (.getfield 20, 3) := by decide +kernel
theorem d_C_init_42 : decode c_C_init 42 = .ok (.iconst 1, 1) := by decide +kernel
theorem d_C_init_43 : decode c_C_init 43 = .ok (.new 18, 3) := by decide +kernel
theorem d_C_init_46 : decode c_C_init 46 = .ok (.dup, 1) := by decide +kernel
theorem d_C_init_47 : decode c_C_init 47 = .ok (.iconst 2, 1) := by decide +kernel
theorem d_C_init_48 : decode c_C_init 48 = .ok (.iload_n 1, 1) := by decide +kernel
theorem d_C_init_49 : decode c_C_init 49 = .ok (.imul, 1) := by decide +kernel
theorem d_C_init_50 : decode c_C_init 50 = .ok (.iconst 1, 1) := by decide +kernel
theorem d_C_init_51 : decode c_C_init 51 = .ok (.iadd, 1) := by decide +kernel
theorem d_C_init_52 : decode c_C_init 52 = .ok (.invokespecial 24, 3) := by decide +kernel
theorem d_C_init_55 : decode c_C_init 55 = .ok (.aastore, 1) := by decide +kernel
theorem d_C_init_56 : decode c_C_init 56 = .ok (.aload_n 0, 1) := by decide +kernel
theorem d_C_init_57 : decode c_C_init 57 = .ok (.getfield 20, 3) := by decide +kernel
theorem d_C_init_60 : decode c_C_init 60 = .ok (.iconst 0, 1) := by decide +kernel
theorem d_C_init_61 : decode c_C_init 61 = .ok (.aaload, 1) := by decide +kernel
theorem d_C_init_62 : decode c_C_init 62 = .ok (.aload_n 0, 1) := by decide +kernel
theorem d_C_init_63 : decode c_C_init 63 = .ok (.getfield 20, 3) := by decide +kernel
theorem d_C_init_66 : decode c_C_init 66 = .ok (.iconst 1, 1) := by decide +kernel
theorem d_C_init_67 : decode c_C_init 67 = .ok (.aaload, 1) := by decide +kernel
theorem d_C_init_68 : decode c_C_init 68 = .ok (.putfield 27, 3) := by decide +kernel
theorem d_C_init_71 : decode c_C_init 71 = .ok (.aload_n 0, 1) := by decide +kernel
theorem d_C_init_72 : decode c_C_init 72 = .ok (.getfield 20, 3) := by decide +kernel
theorem d_C_init_75 : decode c_C_init 75 = .ok (.iconst 1, 1) := by decide +kernel
theorem d_C_init_76 : decode c_C_init 76 = .ok (.aaload, 1) := by decide +kernel
theorem d_C_init_77 : decode c_C_init 77 = .ok (.aload_n 0, 1) := by decide +kernel
theorem d_C_init_78 : decode c_C_init 78 = .ok (.getfield 20, 3) := by decide +kernel
theorem d_C_init_81 : decode c_C_init 81 = .ok (.iconst 0, 1) := by decide +kernel
theorem d_C_init_82 : decode c_C_init 82 = .ok (.aaload, 1) := by decide +kernel
theorem d_C_init_83 : decode c_C_init 83 = .ok (.putfield 27, 3) := by decide +kernel
theorem d_C_init_86 : decode c_C_init 86 = .ok (.aload_n 0, 1) := by decide +kernel
theorem d_C_init_87 : decode c_C_init 87 = .ok (.new 31, 3) := by decide +kernel
theorem d_C_init_90 : decode c_C_init 90 = .ok (.dup, 1) := by decide +kernel
theorem d_C_init_91 : decode c_C_init 91 = .ok (.invokespecial 33, 3) := by decide +kernel
theorem d_C_init_94 : decode c_C_init 94 = .ok (.putfield 34, 3) := by decide +kernel
theorem d_C_init_97 : decode c_C_init 97 = .ok (.aload_n 0, 1) := by decide +kernel
theorem d_C_init_98 : decode c_C_init 98 = .ok (.new 31, 3) := by decide +kernel
theorem d_C_init_101 : decode c_C_init 101 = .ok (.dup, 1) := by decide +kernel
theorem d_C_init_102 : decode c_C_init 102 = .ok (.invokespecial 33, 3) := by decide +kernel
theorem d_C_init_105 : decode c_C_init 105 = .ok (.putfield 38, 3) := by decide +kernel
theorem d_C_init_108 : decode c_C_init 108 = .ok (.aload_n 0, 1) := by decide +kernel
theorem d_C_init_109 : decode c_C_init 109 = .ok (.bipush 24, 2) := by decide +kernel
theorem d_C_init_111 : decode c_C_init 111 = .ok (.newarray .int, 2) := by decide +kernel
theorem d_C_init_113 : decode c_C_init 113 = .ok (.putfield 41, 3) := by decide +kernel
theorem d_C_init_116 : decode c_C_init 116 = .ok (.aload_n 0, 1) := by decide +kernel
theorem d_C_init_117 : decode c_C_init 117 = .ok (.bipush 24, 2) := by decide +kernel
theorem d_C_init_119 : decode c_C_init 119 = .ok (.newarray .int, 2) := by decide +kernel
theorem d_C_init_121 : decode c_C_init 121 = .ok (.putfield 45, 3) := by decide +kernel
theorem d_C_init_124 : decode c_C_init 124 = .ok (.aload_n 0, 1) := by decide +kernel
theorem d_C_init_125 : decode c_C_init 125 = .ok (.getfield 41, 3) := by decide +kernel
theorem d_C_init_128 : decode c_C_init 128 = .ok (.iconst (-1), 1) := by decide +kernel
theorem d_C_init_129 : decode c_C_init 129 = .ok (.invokestatic 48, 3) := by decide +kernel
theorem d_C_init_132 : decode c_C_init 132 = .ok (.return_, 1) := by decide +kernel
def carK (E : kx_E) (h : Nat) (a : Nat → Nat) (id : Nat) (mask : Int32) (v : Nat → Int32) : va_W := [(h, .inr (0, [.int (nI id), .int mask, .ref (a 1), .ref (a 26), .ref (a 28), .ref (a 30), .ref (a 31), .int 0, .int 0, .int 0, .int 0])), ((a 1), kx_aq E 4 2 (va_up (va_up (fun _ => none) 0 (some (a 2))) 1 (some (a 14)))), ((a 2), .inr (1, [.int (nI (2 * id)), .ref (a 3), .ref (a 5), .ref (a 7), .ref (a 14), .null, .int (-1), .int 0, .int 0])), ((a 3), .inr (3, [.ref (a 4), .int 0])), ((a 4), kx_ai E 24 (fun _ => 0)), ((a 5), .inr (3, [.ref (a 6), .int 0])), ((a 6), kx_ai E 24 (fun _ => 0)), ((a 7), .inr (2, [.ref (a 8), .ref (a 10), .ref (a 12), .ref (a 13), .int 0, .int 0])), ((a 8), .inr (3, [.ref (a 9), .int 0])), ((a 9), kx_ai E 24 (fun _ => 0)), ((a 10), .inr (3, [.ref (a 11), .int 0])), ((a 11), kx_ai E 24 (fun _ => 0)), ((a 12), kx_ai E 24 (fun _ => 0)), ((a 13), kx_ai E 24 (fun _ => 0)), ((a 14), .inr (1, [.int (nI (2 * id + 1)), .ref (a 15), .ref (a 17), .ref (a 19), .ref (a 2), .null, .int (-1), .int 0, .int 0])), ((a 15), .inr (3, [.ref (a 16), .int 0])), ((a 16), kx_ai E 24 (fun _ => 0)), ((a 17), .inr (3, [.ref (a 18), .int 0])), ((a 18), kx_ai E 24 (fun _ => 0)), ((a 19), .inr (2, [.ref (a 20), .ref (a 22), .ref (a 24), .ref (a 25), .int 0, .int 0])), ((a 20), .inr (3, [.ref (a 21), .int 0])), ((a 21), kx_ai E 24 (fun _ => 0)), ((a 22), .inr (3, [.ref (a 23), .int 0])), ((a 23), kx_ai E 24 (fun _ => 0)), ((a 24), kx_ai E 24 (fun _ => 0)), ((a 25), kx_ai E 24 (fun _ => 0)), ((a 26), .inr (3, [.ref (a 27), .int 0])), ((a 27), kx_ai E 24 (fun _ => 0)), ((a 28), .inr (3, [.ref (a 29), .int 0])), ((a 29), kx_ai E 24 (fun _ => 0)), ((a 30), kx_ai E 24 v), ((a 31), kx_ai E 24 (fun _ => 0))]
set_option maxRecDepth 20000 in
set_option maxHeartbeats 4000000 in
theorem m_C_ini {E : kx_E} {w : va_W} {h : Nat} {id : Nat} {mask : Int32} : kx_S E Y_C_init [.ref h, .int (nI id), .int mask] (w ++ [(h, .inr (0, [.int 0, .int 0, .null, .null, .null, .null, .null, .int 0, .int 0, .int 0, .int 0]))]) (fun o w1 => o = .inl none ∧ ∃ (a : Nat → Nat) (v : Nat → Int32), (∀ i, i < 24 → v i = -1) ∧ w1 = w ++ carK E h a id mask v) := by
  refine kx_go (by decide) rfl rfl (Nat.le_of_ble_eq_true rfl) (kx_cc rfl (kx_cc rfl (kx_cc rfl kx_c0))) (fun z => ?_)
  refine kx_aload_n d_C_init_0 rfl (by first | rfl | exact kx_rf _) ?_
  refine kx_obj d_C_init_1 o_C_3 o_im o_cd (by decide) ?_
  refine kx_aload_n d_C_init_4 rfl (by first | rfl | exact kx_rf _) ?_
  refine kx_iload_n d_C_init_5 rfl ?_
  refine kx_putF d_C_init_6 f_C_9 (p_C_0 _) rfl rfl rfl (by exact kx_gA w _ 0) (Nat.le_of_ble_eq_true rfl) ?_
  refine kx_w (w1 := w ++ [(h, .inr (0, [.int (nI id), .int 0, .null, .null, .null, .null, .null, .int 0, .int 0, .int 0, .int 0]))]) (kx_sA w _ 0 _) ?_
  refine kx_aload_n d_C_init_9 rfl (by first | rfl | exact kx_rf _) ?_
  refine kx_iload_n d_C_init_10 rfl ?_
  refine kx_putF d_C_init_11 f_C_15 (p_C_1 _) rfl rfl rfl (by exact kx_gA w _ 0) (Nat.le_of_ble_eq_true rfl) ?_
  refine kx_w (w1 := w ++ [(h, .inr (0, [.int (nI id), .int mask, .null, .null, .null, .null, .null, .int 0, .int 0, .int 0, .int 0]))]) (kx_sA w _ 0 _) ?_
  refine kx_aload_n d_C_init_14 rfl (by first | rfl | exact kx_rf _) ?_
  refine kx_iconst (nI 2) d_C_init_15 (by decide) ?_
  refine kx_newq (t := 4) (n := 2) d_C_init_16 q_C_18 (fun U h => h.2.2.2.2.2.2.1) rfl (by decide) (by decide) (by decide) (by decide) (fun q1 => ?_)
  refine kx_w (w1 := w ++ [(h, .inr (0, [.int (nI id), .int mask, .null, .null, .null, .null, .null, .int 0, .int 0, .int 0, .int 0])), (q1, kx_aq E 4 2 (fun _ => none))]) (kx_aA w _ _) ?_
  refine kx_putF d_C_init_19 f_C_20 (p_C_2 _) rfl rfl rfl (by exact kx_gA w _ 0) (Nat.le_of_ble_eq_true rfl) ?_
  refine kx_w (w1 := w ++ [(h, .inr (0, [.int (nI id), .int mask, .ref q1, .null, .null, .null, .null, .int 0, .int 0, .int 0, .int 0])), (q1, kx_aq E 4 2 (fun _ => none))]) (kx_sA w _ 0 _) ?_
  refine kx_aload_n d_C_init_22 rfl (by first | rfl | exact kx_rf _) ?_
  refine kx_get _ d_C_init_23 f_C_20 (by exact kx_gA w _ 0) (by rfl) ?_
  refine kx_iconst (nI 0) d_C_init_26 (by decide) ?_
  refine kx_new d_C_init_27 n_C_18 (by decide) (by decide) (fun q2 => ?_)
  refine kx_w (w1 := w ++ [(h, .inr (0, [.int (nI id), .int mask, .ref q1, .null, .null, .null, .null, .int 0, .int 0, .int 0, .int 0])), (q1, kx_aq E 4 2 (fun _ => none)), (q2, .inr (1, [.int 0, .null, .null, .null, .null, .null, .int 0, .int 0, .int 0]))]) (kx_aA w _ _) ?_
  refine kx_dup d_C_init_30 (by first | rfl | exact kx_rfc _) ?_
  refine kx_iconst (nI 2) d_C_init_31 (by decide) ?_
  refine kx_iload_n d_C_init_32 rfl ?_
  refine kx_imul _ d_C_init_33 (pk_mul _ _) ?_
  refine kx_w (kx_aA w [(h, .inr (0, [.int (nI id), .int mask, .ref q1, .null, .null, .null, .null, .int 0, .int 0, .int 0, .int 0])), (q1, kx_aq E 4 2 (fun _ => none))] [(q2, .inr (1, [.int 0, .null, .null, .null, .null, .null, .int 0, .int 0, .int 0]))]).symm ?_
  refine kx_callI (as := [.int (nI (2 * id))]) (rest := [.ref q2, .int (nI 0), .ref q1]) d_C_init_34 i_C_24 rfl (by decide) (by decide) (Nat.le_of_ble_eq_true rfl) (by decide) (by decide) rfl m_N_ini (fun X w1 h => by cases h.1) (fun v w1 hq9 => ?_)
  obtain ⟨hv, g, hw9⟩ := hq9
  cases hv
  subst hw9
  refine kx_w (w1 := w ++ [(h, .inr (0, [.int (nI id), .int mask, .ref q1, .null, .null, .null, .null, .int 0, .int 0, .int 0, .int 0])), (q1, kx_aq E 4 2 (fun _ => none)), (q2, .inr (1, [.int (nI (2 * id)), .ref (g 1), .ref (g 3), .ref (g 5), .null, .null, .int (-1), .int 0, .int 0])), ((g 1), .inr (3, [.ref (g 2), .int 0])), ((g 2), kx_ai E 24 (fun _ => 0)), ((g 3), .inr (3, [.ref (g 4), .int 0])), ((g 4), kx_ai E 24 (fun _ => 0)), ((g 5), .inr (2, [.ref (g 6), .ref (g 8), .ref (g 10), .ref (g 11), .int 0, .int 0])), ((g 6), .inr (3, [.ref (g 7), .int 0])), ((g 7), kx_ai E 24 (fun _ => 0)), ((g 8), .inr (3, [.ref (g 9), .int 0])), ((g 9), kx_ai E 24 (fun _ => 0)), ((g 10), kx_ai E 24 (fun _ => 0)), ((g 11), kx_ai E 24 (fun _ => 0))]) (kx_aA w _ _) ?_
  refine kx_aast d_C_init_37 (by exact kx_gA w _ 1) (by exact kx_gA w _ 2) rfl rfl (by decide) (by decide) ?_
  refine kx_w (w1 := w ++ [(h, .inr (0, [.int (nI id), .int mask, .ref q1, .null, .null, .null, .null, .int 0, .int 0, .int 0, .int 0])), (q1, kx_aq E 4 2 (va_up (fun _ => none) 0 (some q2))), (q2, .inr (1, [.int (nI (2 * id)), .ref (g 1), .ref (g 3), .ref (g 5), .null, .null, .int (-1), .int 0, .int 0])), ((g 1), .inr (3, [.ref (g 2), .int 0])), ((g 2), kx_ai E 24 (fun _ => 0)), ((g 3), .inr (3, [.ref (g 4), .int 0])), ((g 4), kx_ai E 24 (fun _ => 0)), ((g 5), .inr (2, [.ref (g 6), .ref (g 8), .ref (g 10), .ref (g 11), .int 0, .int 0])), ((g 6), .inr (3, [.ref (g 7), .int 0])), ((g 7), kx_ai E 24 (fun _ => 0)), ((g 8), .inr (3, [.ref (g 9), .int 0])), ((g 9), kx_ai E 24 (fun _ => 0)), ((g 10), kx_ai E 24 (fun _ => 0)), ((g 11), kx_ai E 24 (fun _ => 0))]) (kx_sA w _ 1 _) ?_
  refine kx_aload_n d_C_init_38 rfl (by first | rfl | exact kx_rf _) ?_
  refine kx_get _ d_C_init_39 f_C_20 (by exact kx_gA w _ 0) (by rfl) ?_
  refine kx_iconst (nI 1) d_C_init_42 (by decide) ?_
  refine kx_new d_C_init_43 n_C_18 (by decide) (by decide) (fun q3 => ?_)
  refine kx_w (w1 := w ++ [(h, .inr (0, [.int (nI id), .int mask, .ref q1, .null, .null, .null, .null, .int 0, .int 0, .int 0, .int 0])), (q1, kx_aq E 4 2 (va_up (fun _ => none) 0 (some q2))), (q2, .inr (1, [.int (nI (2 * id)), .ref (g 1), .ref (g 3), .ref (g 5), .null, .null, .int (-1), .int 0, .int 0])), ((g 1), .inr (3, [.ref (g 2), .int 0])), ((g 2), kx_ai E 24 (fun _ => 0)), ((g 3), .inr (3, [.ref (g 4), .int 0])), ((g 4), kx_ai E 24 (fun _ => 0)), ((g 5), .inr (2, [.ref (g 6), .ref (g 8), .ref (g 10), .ref (g 11), .int 0, .int 0])), ((g 6), .inr (3, [.ref (g 7), .int 0])), ((g 7), kx_ai E 24 (fun _ => 0)), ((g 8), .inr (3, [.ref (g 9), .int 0])), ((g 9), kx_ai E 24 (fun _ => 0)), ((g 10), kx_ai E 24 (fun _ => 0)), ((g 11), kx_ai E 24 (fun _ => 0)), (q3, .inr (1, [.int 0, .null, .null, .null, .null, .null, .int 0, .int 0, .int 0]))]) (kx_aA w _ _) ?_
  refine kx_dup d_C_init_46 (by first | rfl | exact kx_rfc _) ?_
  refine kx_iconst (nI 2) d_C_init_47 (by decide) ?_
  refine kx_iload_n d_C_init_48 rfl ?_
  refine kx_imul _ d_C_init_49 (pk_mul _ _) ?_
  refine kx_iconst (nI 1) d_C_init_50 (by decide) ?_
  refine kx_iadd _ d_C_init_51 (nI_add _ _) ?_
  refine kx_w (kx_aA w [(h, .inr (0, [.int (nI id), .int mask, .ref q1, .null, .null, .null, .null, .int 0, .int 0, .int 0, .int 0])), (q1, kx_aq E 4 2 (va_up (fun _ => none) 0 (some q2))), (q2, .inr (1, [.int (nI (2 * id)), .ref (g 1), .ref (g 3), .ref (g 5), .null, .null, .int (-1), .int 0, .int 0])), ((g 1), .inr (3, [.ref (g 2), .int 0])), ((g 2), kx_ai E 24 (fun _ => 0)), ((g 3), .inr (3, [.ref (g 4), .int 0])), ((g 4), kx_ai E 24 (fun _ => 0)), ((g 5), .inr (2, [.ref (g 6), .ref (g 8), .ref (g 10), .ref (g 11), .int 0, .int 0])), ((g 6), .inr (3, [.ref (g 7), .int 0])), ((g 7), kx_ai E 24 (fun _ => 0)), ((g 8), .inr (3, [.ref (g 9), .int 0])), ((g 9), kx_ai E 24 (fun _ => 0)), ((g 10), kx_ai E 24 (fun _ => 0)), ((g 11), kx_ai E 24 (fun _ => 0))] [(q3, .inr (1, [.int 0, .null, .null, .null, .null, .null, .int 0, .int 0, .int 0]))]).symm ?_
  refine kx_callI (as := [.int (nI (2 * id + 1))]) (rest := [.ref q3, .int (nI 1), .ref q1]) d_C_init_52 i_C_24 rfl (by decide) (by decide) (Nat.le_of_ble_eq_true rfl) (by decide) (by decide) rfl m_N_ini (fun X w1 h => by cases h.1) (fun v w1 hq9 => ?_)
  obtain ⟨hv, r, hw9⟩ := hq9
  cases hv
  subst hw9
  refine kx_w (w1 := w ++ [(h, .inr (0, [.int (nI id), .int mask, .ref q1, .null, .null, .null, .null, .int 0, .int 0, .int 0, .int 0])), (q1, kx_aq E 4 2 (va_up (fun _ => none) 0 (some q2))), (q2, .inr (1, [.int (nI (2 * id)), .ref (g 1), .ref (g 3), .ref (g 5), .null, .null, .int (-1), .int 0, .int 0])), ((g 1), .inr (3, [.ref (g 2), .int 0])), ((g 2), kx_ai E 24 (fun _ => 0)), ((g 3), .inr (3, [.ref (g 4), .int 0])), ((g 4), kx_ai E 24 (fun _ => 0)), ((g 5), .inr (2, [.ref (g 6), .ref (g 8), .ref (g 10), .ref (g 11), .int 0, .int 0])), ((g 6), .inr (3, [.ref (g 7), .int 0])), ((g 7), kx_ai E 24 (fun _ => 0)), ((g 8), .inr (3, [.ref (g 9), .int 0])), ((g 9), kx_ai E 24 (fun _ => 0)), ((g 10), kx_ai E 24 (fun _ => 0)), ((g 11), kx_ai E 24 (fun _ => 0)), (q3, .inr (1, [.int (nI (2 * id + 1)), .ref (r 1), .ref (r 3), .ref (r 5), .null, .null, .int (-1), .int 0, .int 0])), ((r 1), .inr (3, [.ref (r 2), .int 0])), ((r 2), kx_ai E 24 (fun _ => 0)), ((r 3), .inr (3, [.ref (r 4), .int 0])), ((r 4), kx_ai E 24 (fun _ => 0)), ((r 5), .inr (2, [.ref (r 6), .ref (r 8), .ref (r 10), .ref (r 11), .int 0, .int 0])), ((r 6), .inr (3, [.ref (r 7), .int 0])), ((r 7), kx_ai E 24 (fun _ => 0)), ((r 8), .inr (3, [.ref (r 9), .int 0])), ((r 9), kx_ai E 24 (fun _ => 0)), ((r 10), kx_ai E 24 (fun _ => 0)), ((r 11), kx_ai E 24 (fun _ => 0))]) (kx_aA w _ _) ?_
  refine kx_aast d_C_init_55 (by exact kx_gA w _ 1) (by exact kx_gA w _ 14) rfl rfl (by decide) (by decide) ?_
  refine kx_w (w1 := w ++ [(h, .inr (0, [.int (nI id), .int mask, .ref q1, .null, .null, .null, .null, .int 0, .int 0, .int 0, .int 0])), (q1, kx_aq E 4 2 (va_up (va_up (fun _ => none) 0 (some q2)) 1 (some q3))), (q2, .inr (1, [.int (nI (2 * id)), .ref (g 1), .ref (g 3), .ref (g 5), .null, .null, .int (-1), .int 0, .int 0])), ((g 1), .inr (3, [.ref (g 2), .int 0])), ((g 2), kx_ai E 24 (fun _ => 0)), ((g 3), .inr (3, [.ref (g 4), .int 0])), ((g 4), kx_ai E 24 (fun _ => 0)), ((g 5), .inr (2, [.ref (g 6), .ref (g 8), .ref (g 10), .ref (g 11), .int 0, .int 0])), ((g 6), .inr (3, [.ref (g 7), .int 0])), ((g 7), kx_ai E 24 (fun _ => 0)), ((g 8), .inr (3, [.ref (g 9), .int 0])), ((g 9), kx_ai E 24 (fun _ => 0)), ((g 10), kx_ai E 24 (fun _ => 0)), ((g 11), kx_ai E 24 (fun _ => 0)), (q3, .inr (1, [.int (nI (2 * id + 1)), .ref (r 1), .ref (r 3), .ref (r 5), .null, .null, .int (-1), .int 0, .int 0])), ((r 1), .inr (3, [.ref (r 2), .int 0])), ((r 2), kx_ai E 24 (fun _ => 0)), ((r 3), .inr (3, [.ref (r 4), .int 0])), ((r 4), kx_ai E 24 (fun _ => 0)), ((r 5), .inr (2, [.ref (r 6), .ref (r 8), .ref (r 10), .ref (r 11), .int 0, .int 0])), ((r 6), .inr (3, [.ref (r 7), .int 0])), ((r 7), kx_ai E 24 (fun _ => 0)), ((r 8), .inr (3, [.ref (r 9), .int 0])), ((r 9), kx_ai E 24 (fun _ => 0)), ((r 10), kx_ai E 24 (fun _ => 0)), ((r 11), kx_ai E 24 (fun _ => 0))]) (kx_sA w _ 1 _) ?_
  refine kx_aload_n d_C_init_56 rfl (by first | rfl | exact kx_rf _) ?_
  refine kx_get _ d_C_init_57 f_C_20 (by exact kx_gA w _ 0) (by rfl) ?_
  refine kx_iconst (nI 0) d_C_init_60 (by decide) ?_
  refine kx_aald d_C_init_61 (by exact kx_gA w _ 1) rfl (by decide) (by decide) ?_
  refine kx_stk (st1 := [.ref q2]) rfl ?_
  refine kx_aload_n d_C_init_62 rfl (by first | rfl | exact kx_rf _) ?_
  refine kx_get _ d_C_init_63 f_C_20 (by exact kx_gA w _ 0) (by rfl) ?_
  refine kx_iconst (nI 1) d_C_init_66 (by decide) ?_
  refine kx_aald d_C_init_67 (by exact kx_gA w _ 1) rfl (by decide) (by decide) ?_
  refine kx_stk (st1 := [.ref q3, .ref q2]) rfl ?_
  refine kx_put d_C_init_68 f_C_27 (p_N_4 _) (by exact kx_gA w _ 2) (Nat.le_of_ble_eq_true rfl) ?_
  refine kx_w (w1 := w ++ [(h, .inr (0, [.int (nI id), .int mask, .ref q1, .null, .null, .null, .null, .int 0, .int 0, .int 0, .int 0])), (q1, kx_aq E 4 2 (va_up (va_up (fun _ => none) 0 (some q2)) 1 (some q3))), (q2, .inr (1, [.int (nI (2 * id)), .ref (g 1), .ref (g 3), .ref (g 5), .ref q3, .null, .int (-1), .int 0, .int 0])), ((g 1), .inr (3, [.ref (g 2), .int 0])), ((g 2), kx_ai E 24 (fun _ => 0)), ((g 3), .inr (3, [.ref (g 4), .int 0])), ((g 4), kx_ai E 24 (fun _ => 0)), ((g 5), .inr (2, [.ref (g 6), .ref (g 8), .ref (g 10), .ref (g 11), .int 0, .int 0])), ((g 6), .inr (3, [.ref (g 7), .int 0])), ((g 7), kx_ai E 24 (fun _ => 0)), ((g 8), .inr (3, [.ref (g 9), .int 0])), ((g 9), kx_ai E 24 (fun _ => 0)), ((g 10), kx_ai E 24 (fun _ => 0)), ((g 11), kx_ai E 24 (fun _ => 0)), (q3, .inr (1, [.int (nI (2 * id + 1)), .ref (r 1), .ref (r 3), .ref (r 5), .null, .null, .int (-1), .int 0, .int 0])), ((r 1), .inr (3, [.ref (r 2), .int 0])), ((r 2), kx_ai E 24 (fun _ => 0)), ((r 3), .inr (3, [.ref (r 4), .int 0])), ((r 4), kx_ai E 24 (fun _ => 0)), ((r 5), .inr (2, [.ref (r 6), .ref (r 8), .ref (r 10), .ref (r 11), .int 0, .int 0])), ((r 6), .inr (3, [.ref (r 7), .int 0])), ((r 7), kx_ai E 24 (fun _ => 0)), ((r 8), .inr (3, [.ref (r 9), .int 0])), ((r 9), kx_ai E 24 (fun _ => 0)), ((r 10), kx_ai E 24 (fun _ => 0)), ((r 11), kx_ai E 24 (fun _ => 0))]) (kx_sA w _ 2 _) ?_
  refine kx_aload_n d_C_init_71 rfl (by first | rfl | exact kx_rf _) ?_
  refine kx_get _ d_C_init_72 f_C_20 (by exact kx_gA w _ 0) (by rfl) ?_
  refine kx_iconst (nI 1) d_C_init_75 (by decide) ?_
  refine kx_aald d_C_init_76 (by exact kx_gA w _ 1) rfl (by decide) (by decide) ?_
  refine kx_stk (st1 := [.ref q3]) rfl ?_
  refine kx_aload_n d_C_init_77 rfl (by first | rfl | exact kx_rf _) ?_
  refine kx_get _ d_C_init_78 f_C_20 (by exact kx_gA w _ 0) (by rfl) ?_
  refine kx_iconst (nI 0) d_C_init_81 (by decide) ?_
  refine kx_aald d_C_init_82 (by exact kx_gA w _ 1) rfl (by decide) (by decide) ?_
  refine kx_stk (st1 := [.ref q2, .ref q3]) rfl ?_
  refine kx_put d_C_init_83 f_C_27 (p_N_4 _) (by exact kx_gA w _ 14) (Nat.le_of_ble_eq_true rfl) ?_
  refine kx_w (w1 := w ++ [(h, .inr (0, [.int (nI id), .int mask, .ref q1, .null, .null, .null, .null, .int 0, .int 0, .int 0, .int 0])), (q1, kx_aq E 4 2 (va_up (va_up (fun _ => none) 0 (some q2)) 1 (some q3))), (q2, .inr (1, [.int (nI (2 * id)), .ref (g 1), .ref (g 3), .ref (g 5), .ref q3, .null, .int (-1), .int 0, .int 0])), ((g 1), .inr (3, [.ref (g 2), .int 0])), ((g 2), kx_ai E 24 (fun _ => 0)), ((g 3), .inr (3, [.ref (g 4), .int 0])), ((g 4), kx_ai E 24 (fun _ => 0)), ((g 5), .inr (2, [.ref (g 6), .ref (g 8), .ref (g 10), .ref (g 11), .int 0, .int 0])), ((g 6), .inr (3, [.ref (g 7), .int 0])), ((g 7), kx_ai E 24 (fun _ => 0)), ((g 8), .inr (3, [.ref (g 9), .int 0])), ((g 9), kx_ai E 24 (fun _ => 0)), ((g 10), kx_ai E 24 (fun _ => 0)), ((g 11), kx_ai E 24 (fun _ => 0)), (q3, .inr (1, [.int (nI (2 * id + 1)), .ref (r 1), .ref (r 3), .ref (r 5), .ref q2, .null, .int (-1), .int 0, .int 0])), ((r 1), .inr (3, [.ref (r 2), .int 0])), ((r 2), kx_ai E 24 (fun _ => 0)), ((r 3), .inr (3, [.ref (r 4), .int 0])), ((r 4), kx_ai E 24 (fun _ => 0)), ((r 5), .inr (2, [.ref (r 6), .ref (r 8), .ref (r 10), .ref (r 11), .int 0, .int 0])), ((r 6), .inr (3, [.ref (r 7), .int 0])), ((r 7), kx_ai E 24 (fun _ => 0)), ((r 8), .inr (3, [.ref (r 9), .int 0])), ((r 9), kx_ai E 24 (fun _ => 0)), ((r 10), kx_ai E 24 (fun _ => 0)), ((r 11), kx_ai E 24 (fun _ => 0))]) (kx_sA w _ 14 _) ?_
  refine kx_aload_n d_C_init_86 rfl (by first | rfl | exact kx_rf _) ?_
  refine kx_new d_C_init_87 n_C_31 (by decide) (by decide) (fun q4 => ?_)
  refine kx_w (w1 := w ++ [(h, .inr (0, [.int (nI id), .int mask, .ref q1, .null, .null, .null, .null, .int 0, .int 0, .int 0, .int 0])), (q1, kx_aq E 4 2 (va_up (va_up (fun _ => none) 0 (some q2)) 1 (some q3))), (q2, .inr (1, [.int (nI (2 * id)), .ref (g 1), .ref (g 3), .ref (g 5), .ref q3, .null, .int (-1), .int 0, .int 0])), ((g 1), .inr (3, [.ref (g 2), .int 0])), ((g 2), kx_ai E 24 (fun _ => 0)), ((g 3), .inr (3, [.ref (g 4), .int 0])), ((g 4), kx_ai E 24 (fun _ => 0)), ((g 5), .inr (2, [.ref (g 6), .ref (g 8), .ref (g 10), .ref (g 11), .int 0, .int 0])), ((g 6), .inr (3, [.ref (g 7), .int 0])), ((g 7), kx_ai E 24 (fun _ => 0)), ((g 8), .inr (3, [.ref (g 9), .int 0])), ((g 9), kx_ai E 24 (fun _ => 0)), ((g 10), kx_ai E 24 (fun _ => 0)), ((g 11), kx_ai E 24 (fun _ => 0)), (q3, .inr (1, [.int (nI (2 * id + 1)), .ref (r 1), .ref (r 3), .ref (r 5), .ref q2, .null, .int (-1), .int 0, .int 0])), ((r 1), .inr (3, [.ref (r 2), .int 0])), ((r 2), kx_ai E 24 (fun _ => 0)), ((r 3), .inr (3, [.ref (r 4), .int 0])), ((r 4), kx_ai E 24 (fun _ => 0)), ((r 5), .inr (2, [.ref (r 6), .ref (r 8), .ref (r 10), .ref (r 11), .int 0, .int 0])), ((r 6), .inr (3, [.ref (r 7), .int 0])), ((r 7), kx_ai E 24 (fun _ => 0)), ((r 8), .inr (3, [.ref (r 9), .int 0])), ((r 9), kx_ai E 24 (fun _ => 0)), ((r 10), kx_ai E 24 (fun _ => 0)), ((r 11), kx_ai E 24 (fun _ => 0)), (q4, .inr (3, [.null, .int 0]))]) (kx_aA w _ _) ?_
  refine kx_dup d_C_init_90 (by first | rfl | exact kx_rfc _) ?_
  refine kx_w (kx_aA w [(h, .inr (0, [.int (nI id), .int mask, .ref q1, .null, .null, .null, .null, .int 0, .int 0, .int 0, .int 0])), (q1, kx_aq E 4 2 (va_up (va_up (fun _ => none) 0 (some q2)) 1 (some q3))), (q2, .inr (1, [.int (nI (2 * id)), .ref (g 1), .ref (g 3), .ref (g 5), .ref q3, .null, .int (-1), .int 0, .int 0])), ((g 1), .inr (3, [.ref (g 2), .int 0])), ((g 2), kx_ai E 24 (fun _ => 0)), ((g 3), .inr (3, [.ref (g 4), .int 0])), ((g 4), kx_ai E 24 (fun _ => 0)), ((g 5), .inr (2, [.ref (g 6), .ref (g 8), .ref (g 10), .ref (g 11), .int 0, .int 0])), ((g 6), .inr (3, [.ref (g 7), .int 0])), ((g 7), kx_ai E 24 (fun _ => 0)), ((g 8), .inr (3, [.ref (g 9), .int 0])), ((g 9), kx_ai E 24 (fun _ => 0)), ((g 10), kx_ai E 24 (fun _ => 0)), ((g 11), kx_ai E 24 (fun _ => 0)), (q3, .inr (1, [.int (nI (2 * id + 1)), .ref (r 1), .ref (r 3), .ref (r 5), .ref q2, .null, .int (-1), .int 0, .int 0])), ((r 1), .inr (3, [.ref (r 2), .int 0])), ((r 2), kx_ai E 24 (fun _ => 0)), ((r 3), .inr (3, [.ref (r 4), .int 0])), ((r 4), kx_ai E 24 (fun _ => 0)), ((r 5), .inr (2, [.ref (r 6), .ref (r 8), .ref (r 10), .ref (r 11), .int 0, .int 0])), ((r 6), .inr (3, [.ref (r 7), .int 0])), ((r 7), kx_ai E 24 (fun _ => 0)), ((r 8), .inr (3, [.ref (r 9), .int 0])), ((r 9), kx_ai E 24 (fun _ => 0)), ((r 10), kx_ai E 24 (fun _ => 0)), ((r 11), kx_ai E 24 (fun _ => 0))] [(q4, .inr (3, [.null, .int 0]))]).symm ?_
  refine kx_callI (as := []) (rest := [.ref q4, .ref h]) d_C_init_91 i_C_33 rfl (by decide) (by decide) (Nat.le_of_ble_eq_true rfl) (by decide) (by decide) rfl m_R_ini (fun X w1 h => by cases h.1) (fun v w1 hq9 => ?_)
  obtain ⟨hv, q5, hw9⟩ := hq9
  cases hv
  subst hw9
  refine kx_w (w1 := w ++ [(h, .inr (0, [.int (nI id), .int mask, .ref q1, .null, .null, .null, .null, .int 0, .int 0, .int 0, .int 0])), (q1, kx_aq E 4 2 (va_up (va_up (fun _ => none) 0 (some q2)) 1 (some q3))), (q2, .inr (1, [.int (nI (2 * id)), .ref (g 1), .ref (g 3), .ref (g 5), .ref q3, .null, .int (-1), .int 0, .int 0])), ((g 1), .inr (3, [.ref (g 2), .int 0])), ((g 2), kx_ai E 24 (fun _ => 0)), ((g 3), .inr (3, [.ref (g 4), .int 0])), ((g 4), kx_ai E 24 (fun _ => 0)), ((g 5), .inr (2, [.ref (g 6), .ref (g 8), .ref (g 10), .ref (g 11), .int 0, .int 0])), ((g 6), .inr (3, [.ref (g 7), .int 0])), ((g 7), kx_ai E 24 (fun _ => 0)), ((g 8), .inr (3, [.ref (g 9), .int 0])), ((g 9), kx_ai E 24 (fun _ => 0)), ((g 10), kx_ai E 24 (fun _ => 0)), ((g 11), kx_ai E 24 (fun _ => 0)), (q3, .inr (1, [.int (nI (2 * id + 1)), .ref (r 1), .ref (r 3), .ref (r 5), .ref q2, .null, .int (-1), .int 0, .int 0])), ((r 1), .inr (3, [.ref (r 2), .int 0])), ((r 2), kx_ai E 24 (fun _ => 0)), ((r 3), .inr (3, [.ref (r 4), .int 0])), ((r 4), kx_ai E 24 (fun _ => 0)), ((r 5), .inr (2, [.ref (r 6), .ref (r 8), .ref (r 10), .ref (r 11), .int 0, .int 0])), ((r 6), .inr (3, [.ref (r 7), .int 0])), ((r 7), kx_ai E 24 (fun _ => 0)), ((r 8), .inr (3, [.ref (r 9), .int 0])), ((r 9), kx_ai E 24 (fun _ => 0)), ((r 10), kx_ai E 24 (fun _ => 0)), ((r 11), kx_ai E 24 (fun _ => 0)), (q4, .inr (3, [.ref q5, .int 0])), (q5, kx_ai E 24 (fun _ => 0))]) (kx_aA w _ _) ?_
  refine kx_putF d_C_init_94 f_C_34 (p_C_3 _) rfl rfl rfl (by exact kx_gA w _ 0) (Nat.le_of_ble_eq_true rfl) ?_
  refine kx_w (w1 := w ++ [(h, .inr (0, [.int (nI id), .int mask, .ref q1, .ref q4, .null, .null, .null, .int 0, .int 0, .int 0, .int 0])), (q1, kx_aq E 4 2 (va_up (va_up (fun _ => none) 0 (some q2)) 1 (some q3))), (q2, .inr (1, [.int (nI (2 * id)), .ref (g 1), .ref (g 3), .ref (g 5), .ref q3, .null, .int (-1), .int 0, .int 0])), ((g 1), .inr (3, [.ref (g 2), .int 0])), ((g 2), kx_ai E 24 (fun _ => 0)), ((g 3), .inr (3, [.ref (g 4), .int 0])), ((g 4), kx_ai E 24 (fun _ => 0)), ((g 5), .inr (2, [.ref (g 6), .ref (g 8), .ref (g 10), .ref (g 11), .int 0, .int 0])), ((g 6), .inr (3, [.ref (g 7), .int 0])), ((g 7), kx_ai E 24 (fun _ => 0)), ((g 8), .inr (3, [.ref (g 9), .int 0])), ((g 9), kx_ai E 24 (fun _ => 0)), ((g 10), kx_ai E 24 (fun _ => 0)), ((g 11), kx_ai E 24 (fun _ => 0)), (q3, .inr (1, [.int (nI (2 * id + 1)), .ref (r 1), .ref (r 3), .ref (r 5), .ref q2, .null, .int (-1), .int 0, .int 0])), ((r 1), .inr (3, [.ref (r 2), .int 0])), ((r 2), kx_ai E 24 (fun _ => 0)), ((r 3), .inr (3, [.ref (r 4), .int 0])), ((r 4), kx_ai E 24 (fun _ => 0)), ((r 5), .inr (2, [.ref (r 6), .ref (r 8), .ref (r 10), .ref (r 11), .int 0, .int 0])), ((r 6), .inr (3, [.ref (r 7), .int 0])), ((r 7), kx_ai E 24 (fun _ => 0)), ((r 8), .inr (3, [.ref (r 9), .int 0])), ((r 9), kx_ai E 24 (fun _ => 0)), ((r 10), kx_ai E 24 (fun _ => 0)), ((r 11), kx_ai E 24 (fun _ => 0)), (q4, .inr (3, [.ref q5, .int 0])), (q5, kx_ai E 24 (fun _ => 0))]) (kx_sA w _ 0 _) ?_
  refine kx_aload_n d_C_init_97 rfl (by first | rfl | exact kx_rf _) ?_
  refine kx_new d_C_init_98 n_C_31 (by decide) (by decide) (fun q6 => ?_)
  refine kx_w (w1 := w ++ [(h, .inr (0, [.int (nI id), .int mask, .ref q1, .ref q4, .null, .null, .null, .int 0, .int 0, .int 0, .int 0])), (q1, kx_aq E 4 2 (va_up (va_up (fun _ => none) 0 (some q2)) 1 (some q3))), (q2, .inr (1, [.int (nI (2 * id)), .ref (g 1), .ref (g 3), .ref (g 5), .ref q3, .null, .int (-1), .int 0, .int 0])), ((g 1), .inr (3, [.ref (g 2), .int 0])), ((g 2), kx_ai E 24 (fun _ => 0)), ((g 3), .inr (3, [.ref (g 4), .int 0])), ((g 4), kx_ai E 24 (fun _ => 0)), ((g 5), .inr (2, [.ref (g 6), .ref (g 8), .ref (g 10), .ref (g 11), .int 0, .int 0])), ((g 6), .inr (3, [.ref (g 7), .int 0])), ((g 7), kx_ai E 24 (fun _ => 0)), ((g 8), .inr (3, [.ref (g 9), .int 0])), ((g 9), kx_ai E 24 (fun _ => 0)), ((g 10), kx_ai E 24 (fun _ => 0)), ((g 11), kx_ai E 24 (fun _ => 0)), (q3, .inr (1, [.int (nI (2 * id + 1)), .ref (r 1), .ref (r 3), .ref (r 5), .ref q2, .null, .int (-1), .int 0, .int 0])), ((r 1), .inr (3, [.ref (r 2), .int 0])), ((r 2), kx_ai E 24 (fun _ => 0)), ((r 3), .inr (3, [.ref (r 4), .int 0])), ((r 4), kx_ai E 24 (fun _ => 0)), ((r 5), .inr (2, [.ref (r 6), .ref (r 8), .ref (r 10), .ref (r 11), .int 0, .int 0])), ((r 6), .inr (3, [.ref (r 7), .int 0])), ((r 7), kx_ai E 24 (fun _ => 0)), ((r 8), .inr (3, [.ref (r 9), .int 0])), ((r 9), kx_ai E 24 (fun _ => 0)), ((r 10), kx_ai E 24 (fun _ => 0)), ((r 11), kx_ai E 24 (fun _ => 0)), (q4, .inr (3, [.ref q5, .int 0])), (q5, kx_ai E 24 (fun _ => 0)), (q6, .inr (3, [.null, .int 0]))]) (kx_aA w _ _) ?_
  refine kx_dup d_C_init_101 (by first | rfl | exact kx_rfc _) ?_
  refine kx_w (kx_aA w [(h, .inr (0, [.int (nI id), .int mask, .ref q1, .ref q4, .null, .null, .null, .int 0, .int 0, .int 0, .int 0])), (q1, kx_aq E 4 2 (va_up (va_up (fun _ => none) 0 (some q2)) 1 (some q3))), (q2, .inr (1, [.int (nI (2 * id)), .ref (g 1), .ref (g 3), .ref (g 5), .ref q3, .null, .int (-1), .int 0, .int 0])), ((g 1), .inr (3, [.ref (g 2), .int 0])), ((g 2), kx_ai E 24 (fun _ => 0)), ((g 3), .inr (3, [.ref (g 4), .int 0])), ((g 4), kx_ai E 24 (fun _ => 0)), ((g 5), .inr (2, [.ref (g 6), .ref (g 8), .ref (g 10), .ref (g 11), .int 0, .int 0])), ((g 6), .inr (3, [.ref (g 7), .int 0])), ((g 7), kx_ai E 24 (fun _ => 0)), ((g 8), .inr (3, [.ref (g 9), .int 0])), ((g 9), kx_ai E 24 (fun _ => 0)), ((g 10), kx_ai E 24 (fun _ => 0)), ((g 11), kx_ai E 24 (fun _ => 0)), (q3, .inr (1, [.int (nI (2 * id + 1)), .ref (r 1), .ref (r 3), .ref (r 5), .ref q2, .null, .int (-1), .int 0, .int 0])), ((r 1), .inr (3, [.ref (r 2), .int 0])), ((r 2), kx_ai E 24 (fun _ => 0)), ((r 3), .inr (3, [.ref (r 4), .int 0])), ((r 4), kx_ai E 24 (fun _ => 0)), ((r 5), .inr (2, [.ref (r 6), .ref (r 8), .ref (r 10), .ref (r 11), .int 0, .int 0])), ((r 6), .inr (3, [.ref (r 7), .int 0])), ((r 7), kx_ai E 24 (fun _ => 0)), ((r 8), .inr (3, [.ref (r 9), .int 0])), ((r 9), kx_ai E 24 (fun _ => 0)), ((r 10), kx_ai E 24 (fun _ => 0)), ((r 11), kx_ai E 24 (fun _ => 0)), (q4, .inr (3, [.ref q5, .int 0])), (q5, kx_ai E 24 (fun _ => 0))] [(q6, .inr (3, [.null, .int 0]))]).symm ?_
  refine kx_callI (as := []) (rest := [.ref q6, .ref h]) d_C_init_102 i_C_33 rfl (by decide) (by decide) (Nat.le_of_ble_eq_true rfl) (by decide) (by decide) rfl m_R_ini (fun X w1 h => by cases h.1) (fun v w1 hq9 => ?_)
  obtain ⟨hv, q7, hw9⟩ := hq9
  cases hv
  subst hw9
  refine kx_w (w1 := w ++ [(h, .inr (0, [.int (nI id), .int mask, .ref q1, .ref q4, .null, .null, .null, .int 0, .int 0, .int 0, .int 0])), (q1, kx_aq E 4 2 (va_up (va_up (fun _ => none) 0 (some q2)) 1 (some q3))), (q2, .inr (1, [.int (nI (2 * id)), .ref (g 1), .ref (g 3), .ref (g 5), .ref q3, .null, .int (-1), .int 0, .int 0])), ((g 1), .inr (3, [.ref (g 2), .int 0])), ((g 2), kx_ai E 24 (fun _ => 0)), ((g 3), .inr (3, [.ref (g 4), .int 0])), ((g 4), kx_ai E 24 (fun _ => 0)), ((g 5), .inr (2, [.ref (g 6), .ref (g 8), .ref (g 10), .ref (g 11), .int 0, .int 0])), ((g 6), .inr (3, [.ref (g 7), .int 0])), ((g 7), kx_ai E 24 (fun _ => 0)), ((g 8), .inr (3, [.ref (g 9), .int 0])), ((g 9), kx_ai E 24 (fun _ => 0)), ((g 10), kx_ai E 24 (fun _ => 0)), ((g 11), kx_ai E 24 (fun _ => 0)), (q3, .inr (1, [.int (nI (2 * id + 1)), .ref (r 1), .ref (r 3), .ref (r 5), .ref q2, .null, .int (-1), .int 0, .int 0])), ((r 1), .inr (3, [.ref (r 2), .int 0])), ((r 2), kx_ai E 24 (fun _ => 0)), ((r 3), .inr (3, [.ref (r 4), .int 0])), ((r 4), kx_ai E 24 (fun _ => 0)), ((r 5), .inr (2, [.ref (r 6), .ref (r 8), .ref (r 10), .ref (r 11), .int 0, .int 0])), ((r 6), .inr (3, [.ref (r 7), .int 0])), ((r 7), kx_ai E 24 (fun _ => 0)), ((r 8), .inr (3, [.ref (r 9), .int 0])), ((r 9), kx_ai E 24 (fun _ => 0)), ((r 10), kx_ai E 24 (fun _ => 0)), ((r 11), kx_ai E 24 (fun _ => 0)), (q4, .inr (3, [.ref q5, .int 0])), (q5, kx_ai E 24 (fun _ => 0)), (q6, .inr (3, [.ref q7, .int 0])), (q7, kx_ai E 24 (fun _ => 0))]) (kx_aA w _ _) ?_
  refine kx_putF d_C_init_105 f_C_38 (p_C_4 _) rfl rfl rfl (by exact kx_gA w _ 0) (Nat.le_of_ble_eq_true rfl) ?_
  refine kx_w (w1 := w ++ [(h, .inr (0, [.int (nI id), .int mask, .ref q1, .ref q4, .ref q6, .null, .null, .int 0, .int 0, .int 0, .int 0])), (q1, kx_aq E 4 2 (va_up (va_up (fun _ => none) 0 (some q2)) 1 (some q3))), (q2, .inr (1, [.int (nI (2 * id)), .ref (g 1), .ref (g 3), .ref (g 5), .ref q3, .null, .int (-1), .int 0, .int 0])), ((g 1), .inr (3, [.ref (g 2), .int 0])), ((g 2), kx_ai E 24 (fun _ => 0)), ((g 3), .inr (3, [.ref (g 4), .int 0])), ((g 4), kx_ai E 24 (fun _ => 0)), ((g 5), .inr (2, [.ref (g 6), .ref (g 8), .ref (g 10), .ref (g 11), .int 0, .int 0])), ((g 6), .inr (3, [.ref (g 7), .int 0])), ((g 7), kx_ai E 24 (fun _ => 0)), ((g 8), .inr (3, [.ref (g 9), .int 0])), ((g 9), kx_ai E 24 (fun _ => 0)), ((g 10), kx_ai E 24 (fun _ => 0)), ((g 11), kx_ai E 24 (fun _ => 0)), (q3, .inr (1, [.int (nI (2 * id + 1)), .ref (r 1), .ref (r 3), .ref (r 5), .ref q2, .null, .int (-1), .int 0, .int 0])), ((r 1), .inr (3, [.ref (r 2), .int 0])), ((r 2), kx_ai E 24 (fun _ => 0)), ((r 3), .inr (3, [.ref (r 4), .int 0])), ((r 4), kx_ai E 24 (fun _ => 0)), ((r 5), .inr (2, [.ref (r 6), .ref (r 8), .ref (r 10), .ref (r 11), .int 0, .int 0])), ((r 6), .inr (3, [.ref (r 7), .int 0])), ((r 7), kx_ai E 24 (fun _ => 0)), ((r 8), .inr (3, [.ref (r 9), .int 0])), ((r 9), kx_ai E 24 (fun _ => 0)), ((r 10), kx_ai E 24 (fun _ => 0)), ((r 11), kx_ai E 24 (fun _ => 0)), (q4, .inr (3, [.ref q5, .int 0])), (q5, kx_ai E 24 (fun _ => 0)), (q6, .inr (3, [.ref q7, .int 0])), (q7, kx_ai E 24 (fun _ => 0))]) (kx_sA w _ 0 _) ?_
  refine kx_aload_n d_C_init_108 rfl (by first | rfl | exact kx_rf _) ?_
  refine kx_bipush (nI 24) d_C_init_109 (by decide) ?_
  refine kx_newa (t := 0) (n := 24) (24, .inl (fun _ => 0)) d_C_init_111 ac_int rfl rfl (fun cA => rfl) (by decide) (by decide) (by decide) (by decide) (fun q8 => ?_)
  refine kx_w (w1 := w ++ [(h, .inr (0, [.int (nI id), .int mask, .ref q1, .ref q4, .ref q6, .null, .null, .int 0, .int 0, .int 0, .int 0])), (q1, kx_aq E 4 2 (va_up (va_up (fun _ => none) 0 (some q2)) 1 (some q3))), (q2, .inr (1, [.int (nI (2 * id)), .ref (g 1), .ref (g 3), .ref (g 5), .ref q3, .null, .int (-1), .int 0, .int 0])), ((g 1), .inr (3, [.ref (g 2), .int 0])), ((g 2), kx_ai E 24 (fun _ => 0)), ((g 3), .inr (3, [.ref (g 4), .int 0])), ((g 4), kx_ai E 24 (fun _ => 0)), ((g 5), .inr (2, [.ref (g 6), .ref (g 8), .ref (g 10), .ref (g 11), .int 0, .int 0])), ((g 6), .inr (3, [.ref (g 7), .int 0])), ((g 7), kx_ai E 24 (fun _ => 0)), ((g 8), .inr (3, [.ref (g 9), .int 0])), ((g 9), kx_ai E 24 (fun _ => 0)), ((g 10), kx_ai E 24 (fun _ => 0)), ((g 11), kx_ai E 24 (fun _ => 0)), (q3, .inr (1, [.int (nI (2 * id + 1)), .ref (r 1), .ref (r 3), .ref (r 5), .ref q2, .null, .int (-1), .int 0, .int 0])), ((r 1), .inr (3, [.ref (r 2), .int 0])), ((r 2), kx_ai E 24 (fun _ => 0)), ((r 3), .inr (3, [.ref (r 4), .int 0])), ((r 4), kx_ai E 24 (fun _ => 0)), ((r 5), .inr (2, [.ref (r 6), .ref (r 8), .ref (r 10), .ref (r 11), .int 0, .int 0])), ((r 6), .inr (3, [.ref (r 7), .int 0])), ((r 7), kx_ai E 24 (fun _ => 0)), ((r 8), .inr (3, [.ref (r 9), .int 0])), ((r 9), kx_ai E 24 (fun _ => 0)), ((r 10), kx_ai E 24 (fun _ => 0)), ((r 11), kx_ai E 24 (fun _ => 0)), (q4, .inr (3, [.ref q5, .int 0])), (q5, kx_ai E 24 (fun _ => 0)), (q6, .inr (3, [.ref q7, .int 0])), (q7, kx_ai E 24 (fun _ => 0)), (q8, kx_ai E 24 (fun _ => 0))]) (kx_aA w _ _) ?_
  refine kx_putF d_C_init_113 f_C_41 (p_C_5 _) rfl rfl rfl (by exact kx_gA w _ 0) (Nat.le_of_ble_eq_true rfl) ?_
  refine kx_w (w1 := w ++ [(h, .inr (0, [.int (nI id), .int mask, .ref q1, .ref q4, .ref q6, .ref q8, .null, .int 0, .int 0, .int 0, .int 0])), (q1, kx_aq E 4 2 (va_up (va_up (fun _ => none) 0 (some q2)) 1 (some q3))), (q2, .inr (1, [.int (nI (2 * id)), .ref (g 1), .ref (g 3), .ref (g 5), .ref q3, .null, .int (-1), .int 0, .int 0])), ((g 1), .inr (3, [.ref (g 2), .int 0])), ((g 2), kx_ai E 24 (fun _ => 0)), ((g 3), .inr (3, [.ref (g 4), .int 0])), ((g 4), kx_ai E 24 (fun _ => 0)), ((g 5), .inr (2, [.ref (g 6), .ref (g 8), .ref (g 10), .ref (g 11), .int 0, .int 0])), ((g 6), .inr (3, [.ref (g 7), .int 0])), ((g 7), kx_ai E 24 (fun _ => 0)), ((g 8), .inr (3, [.ref (g 9), .int 0])), ((g 9), kx_ai E 24 (fun _ => 0)), ((g 10), kx_ai E 24 (fun _ => 0)), ((g 11), kx_ai E 24 (fun _ => 0)), (q3, .inr (1, [.int (nI (2 * id + 1)), .ref (r 1), .ref (r 3), .ref (r 5), .ref q2, .null, .int (-1), .int 0, .int 0])), ((r 1), .inr (3, [.ref (r 2), .int 0])), ((r 2), kx_ai E 24 (fun _ => 0)), ((r 3), .inr (3, [.ref (r 4), .int 0])), ((r 4), kx_ai E 24 (fun _ => 0)), ((r 5), .inr (2, [.ref (r 6), .ref (r 8), .ref (r 10), .ref (r 11), .int 0, .int 0])), ((r 6), .inr (3, [.ref (r 7), .int 0])), ((r 7), kx_ai E 24 (fun _ => 0)), ((r 8), .inr (3, [.ref (r 9), .int 0])), ((r 9), kx_ai E 24 (fun _ => 0)), ((r 10), kx_ai E 24 (fun _ => 0)), ((r 11), kx_ai E 24 (fun _ => 0)), (q4, .inr (3, [.ref q5, .int 0])), (q5, kx_ai E 24 (fun _ => 0)), (q6, .inr (3, [.ref q7, .int 0])), (q7, kx_ai E 24 (fun _ => 0)), (q8, kx_ai E 24 (fun _ => 0))]) (kx_sA w _ 0 _) ?_
  refine kx_aload_n d_C_init_116 rfl (by first | rfl | exact kx_rf _) ?_
  refine kx_bipush (nI 24) d_C_init_117 (by decide) ?_
  refine kx_newa (t := 0) (n := 24) (24, .inl (fun _ => 0)) d_C_init_119 ac_int rfl rfl (fun cA => rfl) (by decide) (by decide) (by decide) (by decide) (fun q9 => ?_)
  refine kx_w (w1 := w ++ [(h, .inr (0, [.int (nI id), .int mask, .ref q1, .ref q4, .ref q6, .ref q8, .null, .int 0, .int 0, .int 0, .int 0])), (q1, kx_aq E 4 2 (va_up (va_up (fun _ => none) 0 (some q2)) 1 (some q3))), (q2, .inr (1, [.int (nI (2 * id)), .ref (g 1), .ref (g 3), .ref (g 5), .ref q3, .null, .int (-1), .int 0, .int 0])), ((g 1), .inr (3, [.ref (g 2), .int 0])), ((g 2), kx_ai E 24 (fun _ => 0)), ((g 3), .inr (3, [.ref (g 4), .int 0])), ((g 4), kx_ai E 24 (fun _ => 0)), ((g 5), .inr (2, [.ref (g 6), .ref (g 8), .ref (g 10), .ref (g 11), .int 0, .int 0])), ((g 6), .inr (3, [.ref (g 7), .int 0])), ((g 7), kx_ai E 24 (fun _ => 0)), ((g 8), .inr (3, [.ref (g 9), .int 0])), ((g 9), kx_ai E 24 (fun _ => 0)), ((g 10), kx_ai E 24 (fun _ => 0)), ((g 11), kx_ai E 24 (fun _ => 0)), (q3, .inr (1, [.int (nI (2 * id + 1)), .ref (r 1), .ref (r 3), .ref (r 5), .ref q2, .null, .int (-1), .int 0, .int 0])), ((r 1), .inr (3, [.ref (r 2), .int 0])), ((r 2), kx_ai E 24 (fun _ => 0)), ((r 3), .inr (3, [.ref (r 4), .int 0])), ((r 4), kx_ai E 24 (fun _ => 0)), ((r 5), .inr (2, [.ref (r 6), .ref (r 8), .ref (r 10), .ref (r 11), .int 0, .int 0])), ((r 6), .inr (3, [.ref (r 7), .int 0])), ((r 7), kx_ai E 24 (fun _ => 0)), ((r 8), .inr (3, [.ref (r 9), .int 0])), ((r 9), kx_ai E 24 (fun _ => 0)), ((r 10), kx_ai E 24 (fun _ => 0)), ((r 11), kx_ai E 24 (fun _ => 0)), (q4, .inr (3, [.ref q5, .int 0])), (q5, kx_ai E 24 (fun _ => 0)), (q6, .inr (3, [.ref q7, .int 0])), (q7, kx_ai E 24 (fun _ => 0)), (q8, kx_ai E 24 (fun _ => 0)), (q9, kx_ai E 24 (fun _ => 0))]) (kx_aA w _ _) ?_
  refine kx_putF d_C_init_121 f_C_45 (p_C_6 _) rfl rfl rfl (by exact kx_gA w _ 0) (Nat.le_of_ble_eq_true rfl) ?_
  refine kx_w (w1 := w ++ [(h, .inr (0, [.int (nI id), .int mask, .ref q1, .ref q4, .ref q6, .ref q8, .ref q9, .int 0, .int 0, .int 0, .int 0])), (q1, kx_aq E 4 2 (va_up (va_up (fun _ => none) 0 (some q2)) 1 (some q3))), (q2, .inr (1, [.int (nI (2 * id)), .ref (g 1), .ref (g 3), .ref (g 5), .ref q3, .null, .int (-1), .int 0, .int 0])), ((g 1), .inr (3, [.ref (g 2), .int 0])), ((g 2), kx_ai E 24 (fun _ => 0)), ((g 3), .inr (3, [.ref (g 4), .int 0])), ((g 4), kx_ai E 24 (fun _ => 0)), ((g 5), .inr (2, [.ref (g 6), .ref (g 8), .ref (g 10), .ref (g 11), .int 0, .int 0])), ((g 6), .inr (3, [.ref (g 7), .int 0])), ((g 7), kx_ai E 24 (fun _ => 0)), ((g 8), .inr (3, [.ref (g 9), .int 0])), ((g 9), kx_ai E 24 (fun _ => 0)), ((g 10), kx_ai E 24 (fun _ => 0)), ((g 11), kx_ai E 24 (fun _ => 0)), (q3, .inr (1, [.int (nI (2 * id + 1)), .ref (r 1), .ref (r 3), .ref (r 5), .ref q2, .null, .int (-1), .int 0, .int 0])), ((r 1), .inr (3, [.ref (r 2), .int 0])), ((r 2), kx_ai E 24 (fun _ => 0)), ((r 3), .inr (3, [.ref (r 4), .int 0])), ((r 4), kx_ai E 24 (fun _ => 0)), ((r 5), .inr (2, [.ref (r 6), .ref (r 8), .ref (r 10), .ref (r 11), .int 0, .int 0])), ((r 6), .inr (3, [.ref (r 7), .int 0])), ((r 7), kx_ai E 24 (fun _ => 0)), ((r 8), .inr (3, [.ref (r 9), .int 0])), ((r 9), kx_ai E 24 (fun _ => 0)), ((r 10), kx_ai E 24 (fun _ => 0)), ((r 11), kx_ai E 24 (fun _ => 0)), (q4, .inr (3, [.ref q5, .int 0])), (q5, kx_ai E 24 (fun _ => 0)), (q6, .inr (3, [.ref q7, .int 0])), (q7, kx_ai E 24 (fun _ => 0)), (q8, kx_ai E 24 (fun _ => 0)), (q9, kx_ai E 24 (fun _ => 0))]) (kx_sA w _ 0 _) ?_
  refine kx_aload_n d_C_init_124 rfl (by first | rfl | exact kx_rf _) ?_
  refine kx_get _ d_C_init_125 f_C_41 (by exact kx_gA w _ 0) (by rfl) ?_
  refine kx_iconst (-1) d_C_init_128 (by decide) ?_
  refine kx_callS (as := [.ref q8, .int (-1)]) (rest := []) d_C_init_129 s_C_48 rfl (by decide) (by decide) (by decide) (by decide) (by decide) rfl (m_A_fill (kx_gA w _ 30) (-1)) (fun X w1 h => by cases h.1) (fun v w1 hq9 => ?_)
  obtain ⟨hv, ⟨v9, hg1, hg2⟩, ho9⟩ := hq9
  cases hv
  have hw9 := kx_off_set ho9 hg1
  subst hw9
  refine kx_w (w1 := w ++ [(h, .inr (0, [.int (nI id), .int mask, .ref q1, .ref q4, .ref q6, .ref q8, .ref q9, .int 0, .int 0, .int 0, .int 0])), (q1, kx_aq E 4 2 (va_up (va_up (fun _ => none) 0 (some q2)) 1 (some q3))), (q2, .inr (1, [.int (nI (2 * id)), .ref (g 1), .ref (g 3), .ref (g 5), .ref q3, .null, .int (-1), .int 0, .int 0])), ((g 1), .inr (3, [.ref (g 2), .int 0])), ((g 2), kx_ai E 24 (fun _ => 0)), ((g 3), .inr (3, [.ref (g 4), .int 0])), ((g 4), kx_ai E 24 (fun _ => 0)), ((g 5), .inr (2, [.ref (g 6), .ref (g 8), .ref (g 10), .ref (g 11), .int 0, .int 0])), ((g 6), .inr (3, [.ref (g 7), .int 0])), ((g 7), kx_ai E 24 (fun _ => 0)), ((g 8), .inr (3, [.ref (g 9), .int 0])), ((g 9), kx_ai E 24 (fun _ => 0)), ((g 10), kx_ai E 24 (fun _ => 0)), ((g 11), kx_ai E 24 (fun _ => 0)), (q3, .inr (1, [.int (nI (2 * id + 1)), .ref (r 1), .ref (r 3), .ref (r 5), .ref q2, .null, .int (-1), .int 0, .int 0])), ((r 1), .inr (3, [.ref (r 2), .int 0])), ((r 2), kx_ai E 24 (fun _ => 0)), ((r 3), .inr (3, [.ref (r 4), .int 0])), ((r 4), kx_ai E 24 (fun _ => 0)), ((r 5), .inr (2, [.ref (r 6), .ref (r 8), .ref (r 10), .ref (r 11), .int 0, .int 0])), ((r 6), .inr (3, [.ref (r 7), .int 0])), ((r 7), kx_ai E 24 (fun _ => 0)), ((r 8), .inr (3, [.ref (r 9), .int 0])), ((r 9), kx_ai E 24 (fun _ => 0)), ((r 10), kx_ai E 24 (fun _ => 0)), ((r 11), kx_ai E 24 (fun _ => 0)), (q4, .inr (3, [.ref q5, .int 0])), (q5, kx_ai E 24 (fun _ => 0)), (q6, .inr (3, [.ref q7, .int 0])), (q7, kx_ai E 24 (fun _ => 0)), (q8, kx_ai E 24 v9), (q9, kx_ai E 24 (fun _ => 0))]) (kx_sA w _ 30 _) ?_
  refine kx_vret d_C_init_132 rfl (by decide) (by decide) ?_
  exact ⟨rfl, fun j => [0, q1, q2, g 1, g 2, g 3, g 4, g 5, g 6, g 7, g 8, g 9, g 10, g 11, q3, r 1, r 2, r 3, r 4, r 5, r 6, r 7, r 8, r 9, r 10, r 11, q4, q5, q6, q7, q8, q9].getD j 0, v9, hg2, rfl⟩
theorem d_B_init_0 : decode c_B_init 0 = .ok (.aload_n 0, 1) := by decide +kernel
theorem d_B_init_1 : decode c_B_init 1 = .ok (.invokespecial 1, 3) := by decide +kernel
theorem d_B_init_4 : decode c_B_init 4 = .ok (.aload_n 0, 1) := by decide +kernel
theorem d_B_init_5 : decode c_B_init 5 = .ok (.bipush 24, 2) := by decide +kernel
theorem d_B_init_7 : decode c_B_init 7 = .ok (.anewarray 9, 3) := by decide +kernel
theorem d_B_init_10 : decode c_B_init 10 = .ok (.putfield 11, 3) := by decide +kernel
theorem d_B_init_13 : decode c_B_init 13 = .ok (.aload_n 0, 1) := by decide +kernel
theorem d_B_init_14 : decode c_B_init 14 = .ok (.sipush 256, 3) := by decide +kernel
theorem d_B_init_17 : decode c_B_init 17 = .ok (.anewarray 9, 3) := by decide +kernel
theorem d_B_init_20 : decode c_B_init 20 = .ok (.putfield 15, 3) := by decide +kernel
theorem d_B_init_23 : decode c_B_init 23 = .ok (.aload_n 0, 1) := by decide +kernel
theorem d_B_init_24 : decode c_B_init 24 = .ok (.sipush 256, 3) := by decide +kernel
theorem d_B_init_27 : decode c_B_init 27 = .ok (.newarray .boolean, 2) := by decide +kernel
theorem d_B_init_29 : decode c_B_init 29 = .ok (.putfield 18, 3) := by decide +kernel
theorem d_B_init_32 : decode c_B_init 32 = .ok (.aload_n 0, 1) := by decide +kernel
theorem d_B_init_33 : decode c_B_init 33 = .ok (.new 22, 3) := by decide +kernel
theorem d_B_init_36 : decode c_B_init 36 = .ok (.dup, 1) := by decide +kernel
theorem d_B_init_37 : decode c_B_init 37 = .ok (.invokespecial 24, 3) := by decide +kernel
theorem d_B_init_40 : decode c_B_init 40 = .ok (.putfield 25, 3) := by decide +kernel
theorem d_B_init_43 : decode c_B_init 43 = .ok (.return_, 1) := by decide +kernel
def busK (E : kx_E) (h : Nat) (a : Nat → Nat) : va_W := [(h, .inr (4, [.ref (a 1), .ref (a 2), .ref (a 3), .ref (a 4), .int 0, .int 0, .int 0, .int 0, .int 0])), ((a 1), kx_aq E 3 24 (fun _ => none)), ((a 2), kx_aq E 3 256 (fun _ => none)), ((a 3), kx_az E 256 (fun _ => 0)), ((a 4), .inr (3, [.ref (a 5), .int 0])), ((a 5), kx_ai E 24 (fun _ => 0))]
set_option maxRecDepth 20000 in
set_option maxHeartbeats 4000000 in
theorem m_B_ini {E : kx_E} {w : va_W} {h : Nat} : kx_S E Y_B_init [.ref h] (w ++ [(h, .inr (4, [.null, .null, .null, .null, .int 0, .int 0, .int 0, .int 0, .int 0]))]) (fun o w1 => o = .inl none ∧ ∃ a : Nat → Nat, w1 = w ++ busK E h a) := by
  refine kx_go (by decide) rfl rfl (Nat.le_of_ble_eq_true rfl) (kx_cc rfl kx_c0) (fun z => ?_)
  refine kx_aload_n d_B_init_0 rfl (by first | rfl | exact kx_rf _) ?_
  refine kx_obj d_B_init_1 o_B_1 o_im o_cd (by decide) ?_
  refine kx_aload_n d_B_init_4 rfl (by first | rfl | exact kx_rf _) ?_
  refine kx_bipush (nI 24) d_B_init_5 (by decide) ?_
  refine kx_newq (t := 3) (n := 24) d_B_init_7 q_B_9 (fun U h => h.2.2.2.2.2.1) rfl (by decide) (by decide) (by decide) (by decide) (fun q1 => ?_)
  refine kx_w (w1 := w ++ [(h, .inr (4, [.null, .null, .null, .null, .int 0, .int 0, .int 0, .int 0, .int 0])), (q1, kx_aq E 3 24 (fun _ => none))]) (kx_aA w _ _) ?_
  refine kx_putF d_B_init_10 f_B_11 (p_B_0 _) rfl rfl rfl (by exact kx_gA w _ 0) (Nat.le_of_ble_eq_true rfl) ?_
  refine kx_w (w1 := w ++ [(h, .inr (4, [.ref q1, .null, .null, .null, .int 0, .int 0, .int 0, .int 0, .int 0])), (q1, kx_aq E 3 24 (fun _ => none))]) (kx_sA w _ 0 _) ?_
  refine kx_aload_n d_B_init_13 rfl (by first | rfl | exact kx_rf _) ?_
  refine kx_sipush (nI 256) d_B_init_14 (by decide) ?_
  refine kx_newq (t := 3) (n := 256) d_B_init_17 q_B_9 (fun U h => h.2.2.2.2.2.1) rfl (by decide) (by decide) (by decide) (by decide) (fun q2 => ?_)
  refine kx_w (w1 := w ++ [(h, .inr (4, [.ref q1, .null, .null, .null, .int 0, .int 0, .int 0, .int 0, .int 0])), (q1, kx_aq E 3 24 (fun _ => none)), (q2, kx_aq E 3 256 (fun _ => none))]) (kx_aA w _ _) ?_
  refine kx_putF d_B_init_20 f_B_15 (p_B_1 _) rfl rfl rfl (by exact kx_gA w _ 0) (Nat.le_of_ble_eq_true rfl) ?_
  refine kx_w (w1 := w ++ [(h, .inr (4, [.ref q1, .ref q2, .null, .null, .int 0, .int 0, .int 0, .int 0, .int 0])), (q1, kx_aq E 3 24 (fun _ => none)), (q2, kx_aq E 3 256 (fun _ => none))]) (kx_sA w _ 0 _) ?_
  refine kx_aload_n d_B_init_23 rfl (by first | rfl | exact kx_rf _) ?_
  refine kx_sipush (nI 256) d_B_init_24 (by decide) ?_
  refine kx_newa (t := 1) (n := 256) (256, .inl (fun _ => 0)) d_B_init_27 ac_boolean rfl rfl (fun cA => rfl) (by decide) (by decide) (by decide) (by decide) (fun q3 => ?_)
  refine kx_w (w1 := w ++ [(h, .inr (4, [.ref q1, .ref q2, .null, .null, .int 0, .int 0, .int 0, .int 0, .int 0])), (q1, kx_aq E 3 24 (fun _ => none)), (q2, kx_aq E 3 256 (fun _ => none)), (q3, kx_az E 256 (fun _ => 0))]) (kx_aA w _ _) ?_
  refine kx_putF d_B_init_29 f_B_18 (p_B_2 _) rfl rfl rfl (by exact kx_gA w _ 0) (Nat.le_of_ble_eq_true rfl) ?_
  refine kx_w (w1 := w ++ [(h, .inr (4, [.ref q1, .ref q2, .ref q3, .null, .int 0, .int 0, .int 0, .int 0, .int 0])), (q1, kx_aq E 3 24 (fun _ => none)), (q2, kx_aq E 3 256 (fun _ => none)), (q3, kx_az E 256 (fun _ => 0))]) (kx_sA w _ 0 _) ?_
  refine kx_aload_n d_B_init_32 rfl (by first | rfl | exact kx_rf _) ?_
  refine kx_new d_B_init_33 n_B_22 (by decide) (by decide) (fun q4 => ?_)
  refine kx_w (w1 := w ++ [(h, .inr (4, [.ref q1, .ref q2, .ref q3, .null, .int 0, .int 0, .int 0, .int 0, .int 0])), (q1, kx_aq E 3 24 (fun _ => none)), (q2, kx_aq E 3 256 (fun _ => none)), (q3, kx_az E 256 (fun _ => 0)), (q4, .inr (3, [.null, .int 0]))]) (kx_aA w _ _) ?_
  refine kx_dup d_B_init_36 (by first | rfl | exact kx_rfc _) ?_
  refine kx_w (kx_aA w [(h, .inr (4, [.ref q1, .ref q2, .ref q3, .null, .int 0, .int 0, .int 0, .int 0, .int 0])), (q1, kx_aq E 3 24 (fun _ => none)), (q2, kx_aq E 3 256 (fun _ => none)), (q3, kx_az E 256 (fun _ => 0))] [(q4, .inr (3, [.null, .int 0]))]).symm ?_
  refine kx_callI (as := []) (rest := [.ref q4, .ref h]) d_B_init_37 i_B_24 rfl (by decide) (by decide) (Nat.le_of_ble_eq_true rfl) (by decide) (by decide) rfl m_R_ini (fun X w1 h => by cases h.1) (fun v w1 hq9 => ?_)
  obtain ⟨hv, q5, hw9⟩ := hq9
  cases hv
  subst hw9
  refine kx_w (w1 := w ++ [(h, .inr (4, [.ref q1, .ref q2, .ref q3, .null, .int 0, .int 0, .int 0, .int 0, .int 0])), (q1, kx_aq E 3 24 (fun _ => none)), (q2, kx_aq E 3 256 (fun _ => none)), (q3, kx_az E 256 (fun _ => 0)), (q4, .inr (3, [.ref q5, .int 0])), (q5, kx_ai E 24 (fun _ => 0))]) (kx_aA w _ _) ?_
  refine kx_putF d_B_init_40 f_B_25 (p_B_3 _) rfl rfl rfl (by exact kx_gA w _ 0) (Nat.le_of_ble_eq_true rfl) ?_
  refine kx_w (w1 := w ++ [(h, .inr (4, [.ref q1, .ref q2, .ref q3, .ref q4, .int 0, .int 0, .int 0, .int 0, .int 0])), (q1, kx_aq E 3 24 (fun _ => none)), (q2, kx_aq E 3 256 (fun _ => none)), (q3, kx_az E 256 (fun _ => 0)), (q4, .inr (3, [.ref q5, .int 0])), (q5, kx_ai E 24 (fun _ => 0))]) (kx_sA w _ 0 _) ?_
  refine kx_vret d_B_init_43 rfl (by decide) (by decide) ?_
  exact ⟨rfl, fun j => [0, q1, q2, q3, q4, q5].getD j 0, rfl⟩
