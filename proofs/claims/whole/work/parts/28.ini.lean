/-! The makers -/
theorem kx_gA (w t : va_W) (k : Nat) : (w ++ t)[w.length + k]? = t[k]? := by rw [List.getElem?_append_right (Nat.le_add_right _ _), Nat.add_sub_cancel_left]
theorem kx_sA (w t : va_W) (k : Nat) (c : Nat × va_E) : (w ++ t).set (w.length + k) c = w ++ t.set k c := by rw [List.set_append_right _ _ (Nat.le_add_right _ _), Nat.add_sub_cancel_left]
theorem kx_aA (w t u : va_W) : (w ++ t) ++ u = w ++ (t ++ u) := List.append_assoc w t u
set_option maxRecDepth 20000 in
set_option maxHeartbeats 4000000 in
theorem m_R_ini {E : kx_E} {w : va_W} {h : Nat} : kx_S E Y_R_init [.ref h] (w ++ [(h, .inr (3, [.null, .int 0]))]) (fun o w1 => o = .inl none ∧ ∃ a, w1 = w ++ [(h, .inr (3, [.ref a, .int 0])), (a, kx_ai E 24 (fun _ => 0))]) := by
  refine kx_go (by decide) rfl rfl (Nat.le_of_ble_eq_true rfl) (kx_cc rfl kx_c0) (fun z => ?_)
  refine kx_aload_n d_R_init_0 rfl (by first | rfl | exact kx_rf _) ?_
  refine kx_obj d_R_init_1 o_R_3 o_im o_cd (by decide) ?_
  refine kx_aload_n d_R_init_4 rfl (by first | rfl | exact kx_rf _) ?_
  refine kx_bipush (nI 24) d_R_init_5 (by decide) ?_
  refine kx_newa (t := 0) (n := 24) (24, .inl (fun _ => 0)) d_R_init_7 ac_int rfl rfl (fun cA => rfl) (by decide) (by decide) (by decide) (by decide) (fun q1 => ?_)
  refine kx_w (w1 := w ++ [(h, .inr (3, [.null, .int 0])), (q1, kx_ai E 24 (fun _ => 0))]) (kx_aA w _ _) ?_
  refine kx_putF d_R_init_9 f_R_9 (p_R_0 _) rfl rfl rfl (by exact kx_gA w _ 0) (Nat.le_of_ble_eq_true rfl) ?_
  refine kx_w (w1 := w ++ [(h, .inr (3, [.ref q1, .int 0])), (q1, kx_ai E 24 (fun _ => 0))]) (kx_sA w _ 0 _) ?_
  refine kx_vret d_R_init_12 rfl (by decide) (by decide) ?_
  exact ⟨rfl, q1, rfl⟩
theorem d_F_init_0 : decode c_F_init 0 = .ok (.aload_n 0, 1) := by decide +kernel
theorem d_F_init_1 : decode c_F_init 1 = .ok (.invokespecial 3, 3) := by decide +kernel
theorem d_F_init_4 : decode c_F_init 4 = .ok (.aload_n 0, 1) := by decide +kernel
theorem d_F_init_5 : decode c_F_init 5 = .ok (.new 9, 3) := by decide +kernel
theorem d_F_init_8 : decode c_F_init 8 = .ok (.dup, 1) := by decide +kernel
theorem d_F_init_9 : decode c_F_init 9 = .ok (.invokespecial 11, 3) := by decide +kernel
theorem d_F_init_12 : decode c_F_init 12 = .ok (.putfield 12, 3) := by decide +kernel
theorem d_F_init_15 : decode c_F_init 15 = .ok (.aload_n 0, 1) := by decide +kernel
theorem d_F_init_16 : decode c_F_init 16 = .ok (.new 9, 3) := by decide +kernel
theorem d_F_init_19 : decode c_F_init 19 = .ok (.dup, 1) := by decide +kernel
theorem d_F_init_20 : decode c_F_init 20 = .ok (.invokespecial 11, 3) := by decide +kernel
theorem d_F_init_23 : decode c_F_init 23 = .ok (.putfield 18, 3) := by decide +kernel
theorem d_F_init_26 : decode c_F_init 26 = .ok (.aload_n 0, 1) := by decide +kernel
theorem d_F_init_27 : decode c_F_init 27 = .ok (.bipush 24, 2) := by decide +kernel
theorem d_F_init_29 : decode c_F_init 29 = .ok (.newarray .int, 2) := by decide +kernel
theorem d_F_init_31 : decode c_F_init 31 = .ok (.putfield 21, 3) := by decide +kernel
theorem d_F_init_34 : decode c_F_init 34 = .ok (.aload_n 0, 1) := by decide +kernel
theorem d_F_init_35 : decode c_F_init 35 = .ok (.bipush 24, 2) := by decide +kernel
theorem d_F_init_37 : decode c_F_init 37 = .ok (.newarray .int, 2) := by decide +kernel
theorem d_F_init_39 : decode c_F_init 39 = .ok (.putfield 25, 3) := by decide +kernel
theorem d_F_init_42 : decode c_F_init 42 = .ok (.return_, 1) := by decide +kernel
set_option maxRecDepth 20000 in
set_option maxHeartbeats 4000000 in
theorem m_F_ini {E : kx_E} {w : va_W} {h : Nat} : kx_S E Y_F_init [.ref h] (w ++ [(h, .inr (2, [.null, .null, .null, .null, .int 0, .int 0]))]) (fun o w1 => o = .inl none ∧ ∃ a : Nat → Nat, w1 = w ++ [(h, .inr (2, [.ref (a 1), .ref (a 3), .ref (a 5), .ref (a 6), .int 0, .int 0])), ((a 1), .inr (3, [.ref (a 2), .int 0])), ((a 2), kx_ai E 24 (fun _ => 0)), ((a 3), .inr (3, [.ref (a 4), .int 0])), ((a 4), kx_ai E 24 (fun _ => 0)), ((a 5), kx_ai E 24 (fun _ => 0)), ((a 6), kx_ai E 24 (fun _ => 0))]) := by
  refine kx_go (by decide) rfl rfl (Nat.le_of_ble_eq_true rfl) (kx_cc rfl kx_c0) (fun z => ?_)
  refine kx_aload_n d_F_init_0 rfl (by first | rfl | exact kx_rf _) ?_
  refine kx_obj d_F_init_1 o_F_3 o_im o_cd (by decide) ?_
  refine kx_aload_n d_F_init_4 rfl (by first | rfl | exact kx_rf _) ?_
  refine kx_new d_F_init_5 n_F_9 (by decide) (by decide) (fun q1 => ?_)
  refine kx_w (w1 := w ++ [(h, .inr (2, [.null, .null, .null, .null, .int 0, .int 0])), (q1, .inr (3, [.null, .int 0]))]) (kx_aA w _ _) ?_
  refine kx_dup d_F_init_8 (by first | rfl | exact kx_rfc _) ?_
  refine kx_w (kx_aA w [(h, .inr (2, [.null, .null, .null, .null, .int 0, .int 0]))] [(q1, .inr (3, [.null, .int 0]))]).symm ?_
  refine kx_callI (as := []) (rest := [.ref q1, .ref h]) d_F_init_9 i_F_11 rfl (by decide) (by decide) (Nat.le_of_ble_eq_true rfl) (by decide) (by decide) rfl m_R_ini (fun X w1 h => by cases h.1) (fun v w1 hq9 => ?_)
  obtain ⟨hv, q2, hw9⟩ := hq9
  cases hv
  subst hw9
  refine kx_w (w1 := w ++ [(h, .inr (2, [.null, .null, .null, .null, .int 0, .int 0])), (q1, .inr (3, [.ref q2, .int 0])), (q2, kx_ai E 24 (fun _ => 0))]) (kx_aA w _ _) ?_
  refine kx_putF d_F_init_12 f_F_12 (p_F_0 _) rfl rfl rfl (by exact kx_gA w _ 0) (Nat.le_of_ble_eq_true rfl) ?_
  refine kx_w (w1 := w ++ [(h, .inr (2, [.ref q1, .null, .null, .null, .int 0, .int 0])), (q1, .inr (3, [.ref q2, .int 0])), (q2, kx_ai E 24 (fun _ => 0))]) (kx_sA w _ 0 _) ?_
  refine kx_aload_n d_F_init_15 rfl (by first | rfl | exact kx_rf _) ?_
  refine kx_new d_F_init_16 n_F_9 (by decide) (by decide) (fun q3 => ?_)
  refine kx_w (w1 := w ++ [(h, .inr (2, [.ref q1, .null, .null, .null, .int 0, .int 0])), (q1, .inr (3, [.ref q2, .int 0])), (q2, kx_ai E 24 (fun _ => 0)), (q3, .inr (3, [.null, .int 0]))]) (kx_aA w _ _) ?_
  refine kx_dup d_F_init_19 (by first | rfl | exact kx_rfc _) ?_
  refine kx_w (kx_aA w [(h, .inr (2, [.ref q1, .null, .null, .null, .int 0, .int 0])), (q1, .inr (3, [.ref q2, .int 0])), (q2, kx_ai E 24 (fun _ => 0))] [(q3, .inr (3, [.null, .int 0]))]).symm ?_
  refine kx_callI (as := []) (rest := [.ref q3, .ref h]) d_F_init_20 i_F_11 rfl (by decide) (by decide) (Nat.le_of_ble_eq_true rfl) (by decide) (by decide) rfl m_R_ini (fun X w1 h => by cases h.1) (fun v w1 hq9 => ?_)
  obtain ⟨hv, q4, hw9⟩ := hq9
  cases hv
  subst hw9
  refine kx_w (w1 := w ++ [(h, .inr (2, [.ref q1, .null, .null, .null, .int 0, .int 0])), (q1, .inr (3, [.ref q2, .int 0])), (q2, kx_ai E 24 (fun _ => 0)), (q3, .inr (3, [.ref q4, .int 0])), (q4, kx_ai E 24 (fun _ => 0))]) (kx_aA w _ _) ?_
  refine kx_putF d_F_init_23 f_F_18 (p_F_1 _) rfl rfl rfl (by exact kx_gA w _ 0) (Nat.le_of_ble_eq_true rfl) ?_
  refine kx_w (w1 := w ++ [(h, .inr (2, [.ref q1, .ref q3, .null, .null, .int 0, .int 0])), (q1, .inr (3, [.ref q2, .int 0])), (q2, kx_ai E 24 (fun _ => 0)), (q3, .inr (3, [.ref q4, .int 0])), (q4, kx_ai E 24 (fun _ => 0))]) (kx_sA w _ 0 _) ?_
  refine kx_aload_n d_F_init_26 rfl (by first | rfl | exact kx_rf _) ?_
  refine kx_bipush (nI 24) d_F_init_27 (by decide) ?_
  refine kx_newa (t := 0) (n := 24) (24, .inl (fun _ => 0)) d_F_init_29 ac_int rfl rfl (fun cA => rfl) (by decide) (by decide) (by decide) (by decide) (fun q5 => ?_)
  refine kx_w (w1 := w ++ [(h, .inr (2, [.ref q1, .ref q3, .null, .null, .int 0, .int 0])), (q1, .inr (3, [.ref q2, .int 0])), (q2, kx_ai E 24 (fun _ => 0)), (q3, .inr (3, [.ref q4, .int 0])), (q4, kx_ai E 24 (fun _ => 0)), (q5, kx_ai E 24 (fun _ => 0))]) (kx_aA w _ _) ?_
  refine kx_putF d_F_init_31 f_F_21 (p_F_2 _) rfl rfl rfl (by exact kx_gA w _ 0) (Nat.le_of_ble_eq_true rfl) ?_
  refine kx_w (w1 := w ++ [(h, .inr (2, [.ref q1, .ref q3, .ref q5, .null, .int 0, .int 0])), (q1, .inr (3, [.ref q2, .int 0])), (q2, kx_ai E 24 (fun _ => 0)), (q3, .inr (3, [.ref q4, .int 0])), (q4, kx_ai E 24 (fun _ => 0)), (q5, kx_ai E 24 (fun _ => 0))]) (kx_sA w _ 0 _) ?_
  refine kx_aload_n d_F_init_34 rfl (by first | rfl | exact kx_rf _) ?_
  refine kx_bipush (nI 24) d_F_init_35 (by decide) ?_
  refine kx_newa (t := 0) (n := 24) (24, .inl (fun _ => 0)) d_F_init_37 ac_int rfl rfl (fun cA => rfl) (by decide) (by decide) (by decide) (by decide) (fun q6 => ?_)
  refine kx_w (w1 := w ++ [(h, .inr (2, [.ref q1, .ref q3, .ref q5, .null, .int 0, .int 0])), (q1, .inr (3, [.ref q2, .int 0])), (q2, kx_ai E 24 (fun _ => 0)), (q3, .inr (3, [.ref q4, .int 0])), (q4, kx_ai E 24 (fun _ => 0)), (q5, kx_ai E 24 (fun _ => 0)), (q6, kx_ai E 24 (fun _ => 0))]) (kx_aA w _ _) ?_
  refine kx_putF d_F_init_39 f_F_25 (p_F_3 _) rfl rfl rfl (by exact kx_gA w _ 0) (Nat.le_of_ble_eq_true rfl) ?_
  refine kx_w (w1 := w ++ [(h, .inr (2, [.ref q1, .ref q3, .ref q5, .ref q6, .int 0, .int 0])), (q1, .inr (3, [.ref q2, .int 0])), (q2, kx_ai E 24 (fun _ => 0)), (q3, .inr (3, [.ref q4, .int 0])), (q4, kx_ai E 24 (fun _ => 0)), (q5, kx_ai E 24 (fun _ => 0)), (q6, kx_ai E 24 (fun _ => 0))]) (kx_sA w _ 0 _) ?_
  refine kx_vret d_F_init_42 rfl (by decide) (by decide) ?_
  exact ⟨rfl, fun j => [0, q1, q2, q3, q4, q5, q6].getD j 0, rfl⟩
theorem d_N_init_0 : decode c_N_init 0 = .ok (.aload_n 0, 1) := by decide +kernel
theorem d_N_init_1 : decode c_N_init 1 = .ok (.invokespecial 3, 3) := by decide +kernel
theorem d_N_init_4 : decode c_N_init 4 = .ok (.aload_n 0, 1) := by decide +kernel
theorem d_N_init_5 : decode c_N_init 5 = .ok (.iload_n 1, 1) := by decide +kernel
theorem d_N_init_6 : decode c_N_init 6 = .ok (.putfield 9, 3) := by decide +kernel
theorem d_N_init_9 : decode c_N_init 9 = .ok (.aload_n 0, 1) := by decide +kernel
theorem d_N_init_10 : decode c_N_init 10 = .ok (.new 15, 3) := by decide +kernel
theorem d_N_init_13 : decode c_N_init 13 = .ok (.dup, 1) := by decide +kernel
theorem d_N_init_14 : decode c_N_init 14 = .ok (.invokespecial 17, 3) := by decide +kernel
theorem d_N_init_17 : decode c_N_init 17 = .ok (.putfield 18, 3) := by decide +kernel
theorem d_N_init_20 : decode c_N_init 20 = .ok (.aload_n 0, 1) := by decide +kernel
theorem d_N_init_21 : decode c_N_init 21 = .ok (.new 15, 3) := by decide +kernel
theorem d_N_init_24 : decode c_N_init 24 = .ok (.dup, 1) := by decide +kernel
theorem d_N_init_25 : decode c_N_init 25 = .ok (.invokespecial 17, 3) := by decide +kernel
theorem d_N_init_28 : decode c_N_init 28 = .ok (.putfield 22, 3) := by decide +kernel
theorem d_N_init_31 : decode c_N_init 31 = .ok (.aload_n 0, 1) := by decide +kernel
theorem d_N_init_32 : decode c_N_init 32 = .ok (.new 25, 3) := by decide +kernel
theorem d_N_init_35 : decode c_N_init 35 = .ok (.dup, 1) := by decide +kernel
theorem d_N_init_36 : decode c_N_init 36 = .ok (.invokespecial 27, 3) := by decide +kernel
theorem d_N_init_39 : decode c_N_init 39 = .ok (.putfield 28, 3) := by decide +kernel
theorem d_N_init_42 : decode c_N_init 42 = .ok (.aload_n 0, 1) := by decide +kernel
theorem d_N_init_43 : decode c_N_init 43 = .ok (.iconst (-1), 1) := by decide +kernel
theorem d_N_init_44 : decode c_N_init 44 = .ok (.putfield 32, 3) := by decide +kernel
theorem d_N_init_47 : decode c_N_init 47 = .ok (.return_, 1) := by decide +kernel
set_option maxRecDepth 20000 in
set_option maxHeartbeats 4000000 in
theorem m_N_ini {E : kx_E} {w : va_W} {h : Nat} {it : Int32} : kx_S E Y_N_init [.ref h, .int it] (w ++ [(h, .inr (1, [.int 0, .null, .null, .null, .null, .null, .int 0, .int 0, .int 0]))]) (fun o w1 => o = .inl none ∧ ∃ a : Nat → Nat, w1 = w ++ [(h, .inr (1, [.int it, .ref (a 1), .ref (a 3), .ref (a 5), .null, .null, .int (-1), .int 0, .int 0])), ((a 1), .inr (3, [.ref (a 2), .int 0])), ((a 2), kx_ai E 24 (fun _ => 0)), ((a 3), .inr (3, [.ref (a 4), .int 0])), ((a 4), kx_ai E 24 (fun _ => 0)), ((a 5), .inr (2, [.ref (a 6), .ref (a 8), .ref (a 10), .ref (a 11), .int 0, .int 0])), ((a 6), .inr (3, [.ref (a 7), .int 0])), ((a 7), kx_ai E 24 (fun _ => 0)), ((a 8), .inr (3, [.ref (a 9), .int 0])), ((a 9), kx_ai E 24 (fun _ => 0)), ((a 10), kx_ai E 24 (fun _ => 0)), ((a 11), kx_ai E 24 (fun _ => 0))]) := by
  refine kx_go (by decide) rfl rfl (Nat.le_of_ble_eq_true rfl) (kx_cc rfl (kx_cc rfl kx_c0)) (fun z => ?_)
  refine kx_aload_n d_N_init_0 rfl (by first | rfl | exact kx_rf _) ?_
  refine kx_obj d_N_init_1 o_N_3 o_im o_cd (by decide) ?_
  refine kx_aload_n d_N_init_4 rfl (by first | rfl | exact kx_rf _) ?_
  refine kx_iload_n d_N_init_5 rfl ?_
  refine kx_putF d_N_init_6 f_N_9 (p_N_0 _) rfl rfl rfl (by exact kx_gA w _ 0) (Nat.le_of_ble_eq_true rfl) ?_
  refine kx_w (w1 := w ++ [(h, .inr (1, [.int it, .null, .null, .null, .null, .null, .int 0, .int 0, .int 0]))]) (kx_sA w _ 0 _) ?_
  refine kx_aload_n d_N_init_9 rfl (by first | rfl | exact kx_rf _) ?_
  refine kx_new d_N_init_10 n_N_15 (by decide) (by decide) (fun q1 => ?_)
  refine kx_w (w1 := w ++ [(h, .inr (1, [.int it, .null, .null, .null, .null, .null, .int 0, .int 0, .int 0])), (q1, .inr (3, [.null, .int 0]))]) (kx_aA w _ _) ?_
  refine kx_dup d_N_init_13 (by first | rfl | exact kx_rfc _) ?_
  refine kx_w (kx_aA w [(h, .inr (1, [.int it, .null, .null, .null, .null, .null, .int 0, .int 0, .int 0]))] [(q1, .inr (3, [.null, .int 0]))]).symm ?_
  refine kx_callI (as := []) (rest := [.ref q1, .ref h]) d_N_init_14 i_N_17 rfl (by decide) (by decide) (Nat.le_of_ble_eq_true rfl) (by decide) (by decide) rfl m_R_ini (fun X w1 h => by cases h.1) (fun v w1 hq9 => ?_)
  obtain ⟨hv, q2, hw9⟩ := hq9
  cases hv
  subst hw9
  refine kx_w (w1 := w ++ [(h, .inr (1, [.int it, .null, .null, .null, .null, .null, .int 0, .int 0, .int 0])), (q1, .inr (3, [.ref q2, .int 0])), (q2, kx_ai E 24 (fun _ => 0))]) (kx_aA w _ _) ?_
  refine kx_putF d_N_init_17 f_N_18 (p_N_1 _) rfl rfl rfl (by exact kx_gA w _ 0) (Nat.le_of_ble_eq_true rfl) ?_
  refine kx_w (w1 := w ++ [(h, .inr (1, [.int it, .ref q1, .null, .null, .null, .null, .int 0, .int 0, .int 0])), (q1, .inr (3, [.ref q2, .int 0])), (q2, kx_ai E 24 (fun _ => 0))]) (kx_sA w _ 0 _) ?_
  refine kx_aload_n d_N_init_20 rfl (by first | rfl | exact kx_rf _) ?_
  refine kx_new d_N_init_21 n_N_15 (by decide) (by decide) (fun q3 => ?_)
  refine kx_w (w1 := w ++ [(h, .inr (1, [.int it, .ref q1, .null, .null, .null, .null, .int 0, .int 0, .int 0])), (q1, .inr (3, [.ref q2, .int 0])), (q2, kx_ai E 24 (fun _ => 0)), (q3, .inr (3, [.null, .int 0]))]) (kx_aA w _ _) ?_
  refine kx_dup d_N_init_24 (by first | rfl | exact kx_rfc _) ?_
  refine kx_w (kx_aA w [(h, .inr (1, [.int it, .ref q1, .null, .null, .null, .null, .int 0, .int 0, .int 0])), (q1, .inr (3, [.ref q2, .int 0])), (q2, kx_ai E 24 (fun _ => 0))] [(q3, .inr (3, [.null, .int 0]))]).symm ?_
  refine kx_callI (as := []) (rest := [.ref q3, .ref h]) d_N_init_25 i_N_17 rfl (by decide) (by decide) (Nat.le_of_ble_eq_true rfl) (by decide) (by decide) rfl m_R_ini (fun X w1 h => by cases h.1) (fun v w1 hq9 => ?_)
  obtain ⟨hv, q4, hw9⟩ := hq9
  cases hv
  subst hw9
  refine kx_w (w1 := w ++ [(h, .inr (1, [.int it, .ref q1, .null, .null, .null, .null, .int 0, .int 0, .int 0])), (q1, .inr (3, [.ref q2, .int 0])), (q2, kx_ai E 24 (fun _ => 0)), (q3, .inr (3, [.ref q4, .int 0])), (q4, kx_ai E 24 (fun _ => 0))]) (kx_aA w _ _) ?_
  refine kx_putF d_N_init_28 f_N_22 (p_N_2 _) rfl rfl rfl (by exact kx_gA w _ 0) (Nat.le_of_ble_eq_true rfl) ?_
  refine kx_w (w1 := w ++ [(h, .inr (1, [.int it, .ref q1, .ref q3, .null, .null, .null, .int 0, .int 0, .int 0])), (q1, .inr (3, [.ref q2, .int 0])), (q2, kx_ai E 24 (fun _ => 0)), (q3, .inr (3, [.ref q4, .int 0])), (q4, kx_ai E 24 (fun _ => 0))]) (kx_sA w _ 0 _) ?_
  refine kx_aload_n d_N_init_31 rfl (by first | rfl | exact kx_rf _) ?_
  refine kx_new d_N_init_32 n_N_25 (by decide) (by decide) (fun q5 => ?_)
  refine kx_w (w1 := w ++ [(h, .inr (1, [.int it, .ref q1, .ref q3, .null, .null, .null, .int 0, .int 0, .int 0])), (q1, .inr (3, [.ref q2, .int 0])), (q2, kx_ai E 24 (fun _ => 0)), (q3, .inr (3, [.ref q4, .int 0])), (q4, kx_ai E 24 (fun _ => 0)), (q5, .inr (2, [.null, .null, .null, .null, .int 0, .int 0]))]) (kx_aA w _ _) ?_
  refine kx_dup d_N_init_35 (by first | rfl | exact kx_rfc _) ?_
  refine kx_w (kx_aA w [(h, .inr (1, [.int it, .ref q1, .ref q3, .null, .null, .null, .int 0, .int 0, .int 0])), (q1, .inr (3, [.ref q2, .int 0])), (q2, kx_ai E 24 (fun _ => 0)), (q3, .inr (3, [.ref q4, .int 0])), (q4, kx_ai E 24 (fun _ => 0))] [(q5, .inr (2, [.null, .null, .null, .null, .int 0, .int 0]))]).symm ?_
  refine kx_callI (as := []) (rest := [.ref q5, .ref h]) d_N_init_36 i_N_27 rfl (by decide) (by decide) (Nat.le_of_ble_eq_true rfl) (by decide) (by decide) rfl m_F_ini (fun X w1 h => by cases h.1) (fun v w1 hq9 => ?_)
  obtain ⟨hv, g, hw9⟩ := hq9
  cases hv
  subst hw9
  refine kx_w (w1 := w ++ [(h, .inr (1, [.int it, .ref q1, .ref q3, .null, .null, .null, .int 0, .int 0, .int 0])), (q1, .inr (3, [.ref q2, .int 0])), (q2, kx_ai E 24 (fun _ => 0)), (q3, .inr (3, [.ref q4, .int 0])), (q4, kx_ai E 24 (fun _ => 0)), (q5, .inr (2, [.ref (g 1), .ref (g 3), .ref (g 5), .ref (g 6), .int 0, .int 0])), ((g 1), .inr (3, [.ref (g 2), .int 0])), ((g 2), kx_ai E 24 (fun _ => 0)), ((g 3), .inr (3, [.ref (g 4), .int 0])), ((g 4), kx_ai E 24 (fun _ => 0)), ((g 5), kx_ai E 24 (fun _ => 0)), ((g 6), kx_ai E 24 (fun _ => 0))]) (kx_aA w _ _) ?_
  refine kx_putF d_N_init_39 f_N_28 (p_N_3 _) rfl rfl rfl (by exact kx_gA w _ 0) (Nat.le_of_ble_eq_true rfl) ?_
  refine kx_w (w1 := w ++ [(h, .inr (1, [.int it, .ref q1, .ref q3, .ref q5, .null, .null, .int 0, .int 0, .int 0])), (q1, .inr (3, [.ref q2, .int 0])), (q2, kx_ai E 24 (fun _ => 0)), (q3, .inr (3, [.ref q4, .int 0])), (q4, kx_ai E 24 (fun _ => 0)), (q5, .inr (2, [.ref (g 1), .ref (g 3), .ref (g 5), .ref (g 6), .int 0, .int 0])), ((g 1), .inr (3, [.ref (g 2), .int 0])), ((g 2), kx_ai E 24 (fun _ => 0)), ((g 3), .inr (3, [.ref (g 4), .int 0])), ((g 4), kx_ai E 24 (fun _ => 0)), ((g 5), kx_ai E 24 (fun _ => 0)), ((g 6), kx_ai E 24 (fun _ => 0))]) (kx_sA w _ 0 _) ?_
  refine kx_aload_n d_N_init_42 rfl (by first | rfl | exact kx_rf _) ?_
  refine kx_iconst (-1) d_N_init_43 (by decide) ?_
  refine kx_put d_N_init_44 f_N_32 (p_N_6 _) (by exact kx_gA w _ 0) (Nat.le_of_ble_eq_true rfl) ?_
  refine kx_w (w1 := w ++ [(h, .inr (1, [.int it, .ref q1, .ref q3, .ref q5, .null, .null, .int (-1), .int 0, .int 0])), (q1, .inr (3, [.ref q2, .int 0])), (q2, kx_ai E 24 (fun _ => 0)), (q3, .inr (3, [.ref q4, .int 0])), (q4, kx_ai E 24 (fun _ => 0)), (q5, .inr (2, [.ref (g 1), .ref (g 3), .ref (g 5), .ref (g 6), .int 0, .int 0])), ((g 1), .inr (3, [.ref (g 2), .int 0])), ((g 2), kx_ai E 24 (fun _ => 0)), ((g 3), .inr (3, [.ref (g 4), .int 0])), ((g 4), kx_ai E 24 (fun _ => 0)), ((g 5), kx_ai E 24 (fun _ => 0)), ((g 6), kx_ai E 24 (fun _ => 0))]) (kx_sA w _ 0 _) ?_
  refine kx_vret d_N_init_47 rfl (by decide) (by decide) ?_
  exact ⟨rfl, fun j => [0, q1, q2, q3, q4, q5, g 1, g 2, g 3, g 4, g 5, g 6].getD j 0, rfl⟩
