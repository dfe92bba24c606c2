/-! The reference: look -/
theorem heaQ_lk {X : Fx} {losses : Int32} {p q : Nat} (h : heaQ X losses p = some q) : xLk X p = some q := by
  unfold heaQ at h
  cases hk : xLk X p with
  | none => rw [hk] at h; cases h
  | some r =>
    rw [hk] at h
    dsimp only at h
    split at h
    · cases h
    · exact h
theorem OldR.fr {n : Nat} {D0 : Dy} {A A1 : Nat → Nat → Int32} (h : OldR n D0 A) (fr : ∀ j, j ≠ 5 → j ≠ 6 → j ≠ 7 → j ≠ 8 → j ≠ 11 → j ≠ 12 → A1 j = A j) : OldR n D0 A1 := h.cg (fun j h1 h2 => fr j (by omega) (by omega) (by omega) (by omega) (by omega) (by omega))
set_option maxRecDepth 20000 in
set_option maxHeartbeats 4000000 in
theorem m_M_look_no {E : kx_E} {w : va_W} {ma : Nat → Nat} {F : Nat → Int32} {A : Nat → Nat → Int32} (hM : Mdl E w ma F A) {n : Nat} {X : Fx} {D : Dy} (hR : ModR n X D A) (hX : WfX n X) (hD : WfD n D) (hn : F 1 = nI n) (hz : Bz A) {D0 : Dy} (hP : OldR n D0 A) (hD0 : WfD n D0) {p : Nat} (hp : p < 2 * n) {losses : Int32} (hh : heaQ X losses p = none) : kx_S E Y_M_look [.ref (ma 0), .int (nI p), .int losses] w (MP E w ma F (fun A1 => ModR n X (lkD X losses D0 D p) A1 ∧ OldR n D0 A1 ∧ Bz A1) none) := by
  refine kx_go (by decide) rfl rfl (Nat.le_of_ble_eq_true rfl) (kx_cc rfl (kx_cc rfl (kx_cc rfl kx_c0))) (fun z => ?_)
  have hO : kx_off w w mdlN := kx_off.rf
  have h24 := hX.1
  have hs8 := hR.sis p hp
  have hv := hR.vws p hp
  have hs6 := hv.1
  have hw7 := hR.whs p hp
  have b := hD.1 p hp
  have b4 := b.2.2
  have b1 := b.2.1
  have bl := b.1.1
  have fin : ∀ (w1 : va_W) (v8 v6 v7 : Int32), Mdl E w1 ma F (up1 (up1 (up1 A 8 (upd (A 8) p v8)) 6 (upd (A 6) p v6)) 7 (upd (A 7) p v7)) → kx_off w w1 mdlN → ∀ s9, s9 = (if dSi D p = 4 then 4 else dSi D p + 1) → v8 = nI s9 → v6 = nI (if s9 = 4 then 0 else (dVw D p).length) → v7 = nI (if dWh D p = 1 ∨ s9 = 4 then 1 else 0) → (MP E w ma F (fun A1 => ModR n X (lkD X losses D0 D p) A1 ∧ OldR n D0 A1 ∧ Bz A1) none) (.inl none) w1 := by
    intro w1 v8 v6 v7 hM1 hO1 s9 hs9 e8 e6 e7
    subst e8 e6 e7
    refine ⟨rfl, _, hM1, ⟨?_, ?_, ?_⟩, hO1⟩
    · unfold lkD lkV lkW lkS lkT
      rw [hh]
      dsimp only
      rw [← hs9]
      refine hR.uEnd hD (fun j hj _ q6 q7 q8 _ _ => ?_) (fun i hi => ?_) (fun x hx => ?_) (fun x hx => ?_) (fun x hx => ?_) (fun i hi => ?_) (fun x hx => ?_) ⟨?_, fun k hk => ?_⟩ ?_ ?_ ?_
      · rw [up1_n q7, up1_n q6, up1_n q8]
      · rw [up1_n (by decide), up1_n (by decide), up1_n (by decide)]
      · rw [up1_n (by decide), up1_s, upd_n hx]
      · rw [up1_s, upd_n hx]
      · rw [up1_n (by decide), up1_n (by decide), up1_s, upd_n hx]
      · rw [up1_n (by decide), up1_n (by decide), up1_n (by decide)]
      · rw [up1_n (by decide), up1_n (by decide), up1_n (by decide)]
      · rw [up1_n (by decide), up1_s, upd_s]
        split <;> rfl
      · rw [up1_n (by decide), up1_n (by decide), up1_n (by decide)]
        by_cases e : s9 = 4
        · rw [if_pos e] at hk; exact absurd hk (Nat.not_lt_zero _)
        · rw [if_neg e] at hk ⊢; exact hv.2 k hk
      · rw [up1_s, upd_s]
      · rw [up1_n (by decide), up1_n (by decide), up1_s, upd_s]
      · rw [up1_n (by decide), up1_n (by decide), up1_n (by decide), up1_n (by decide), up1_n (by decide), up1_n (by decide)]
        exact hR.tos p hp
    · exact hP.fr (fun j _ q6 q7 q8 _ _ => by rw [up1_n q7, up1_n q6, up1_n q8])
    · exact (hz.up (j := 8) (by decide)).up (j := 6) (by decide) |>.put (by split; exact Or.inr rfl; exact Or.inl rfl)
  refine kx_aload_n d_M_look_0 rfl (by first | rfl | exact kx_rf _) ?_
  refine kx_iload_n d_M_look_1 rfl ?_
  refine kx_iload_n d_M_look_2 rfl ?_
  refine kx_callV (as := [.int (nI p), .int losses]) (rest := []) d_M_look_3 v_M_126 rfl hM.1 rfl rfl (by decide) (by decide) (Nat.le_of_ble_eq_true rfl) (by decide) (by decide) rfl (m_M_hears hM hR hX hD hn hp losses) (fun X w1 h => by cases h.1) (fun v w1 hq9 => ?_)
  obtain ⟨hv, hw9⟩ := hq9
  cases hv
  subst hw9
  rw [hh]
  refine kx_stk (st1 := [.int (nI 0)]) rfl ?_
  refine kx_if_ne_n 94 d_M_look_6 (by decide) (by decide) (fun h => absurd rfl h) (fun _ => ?_)
  refine kx_aload_n d_M_look_9 rfl (by first | rfl | exact kx_rf _) ?_
  refine kx_get _ d_M_look_10 f_M_35 hM.1 (by rfl) ?_
  refine kx_iload_n d_M_look_13 rfl ?_
  refine kx_aload_n d_M_look_14 rfl (by first | rfl | exact kx_rf _) ?_
  refine kx_get _ d_M_look_15 f_M_35 hM.1 (by rfl) ?_
  refine kx_iload_n d_M_look_18 rfl ?_
  refine kx_iald d_M_look_19 hM.a8 (by omega) (by decide) ?_
  rw [hs8]
  refine kx_iconst (nI 4) d_M_look_20 (by decide) ?_
  first | refine kx_icmp_ne_n 28 d_M_look_21 (by decide) (by omega) (by omega) ?_ ?_ | refine kx_icmp_ne 28 d_M_look_21 (by decide) ?_ ?_
  · intro h21
    refine kx_aload_n d_M_look_28 rfl (by first | rfl | exact kx_rf _) ?_
    refine kx_get _ d_M_look_29 f_M_35 hM.1 (by rfl) ?_
    refine kx_iload_n d_M_look_32 rfl ?_
    refine kx_iald d_M_look_33 hM.a8 (by omega) (by decide) ?_
    rw [hs8]
    refine kx_iconst (nI 1) d_M_look_34 (by decide) ?_
    first | refine kx_iadd _ d_M_look_35 (nI_add _ _) ?_ | refine kx_iadd _ d_M_look_35 rfl ?_
    refine mA_put (j := 8) d_M_look_36 hM hO (by decide) (len := 48) rfl (by decide) (by omega) (fun w hM hO => ?_)
    refine kx_aload_n d_M_look_37 rfl (by first | rfl | exact kx_rf _) ?_
    refine kx_get _ d_M_look_38 f_M_29 hM.1 (by rfl) ?_
    refine kx_iload_n d_M_look_41 rfl ?_
    refine kx_aload_n d_M_look_42 rfl (by first | rfl | exact kx_rf _) ?_
    refine kx_get _ d_M_look_43 f_M_35 hM.1 (by rfl) ?_
    refine kx_iload_n d_M_look_46 rfl ?_
    refine kx_iald d_M_look_47 hM.a8 (by omega) (by decide) ?_
    rw [up1_s, upd_s]
    refine kx_iconst (nI 4) d_M_look_48 (by decide) ?_
    first | refine kx_icmp_ne_n 56 d_M_look_49 (by decide) (by omega) (by omega) ?_ ?_ | refine kx_icmp_ne 56 d_M_look_49 (by decide) ?_ ?_
    · intro h49
      refine kx_aload_n d_M_look_56 rfl (by first | rfl | exact kx_rf _) ?_
      refine kx_get _ d_M_look_57 f_M_29 hM.1 (by rfl) ?_
      refine kx_iload_n d_M_look_60 rfl ?_
      refine kx_iald d_M_look_61 hM.a6 (by omega) (by decide) ?_
      rw [up1_n (by decide), hs6]
      refine mA_put (j := 6) d_M_look_62 hM hO (by decide) (len := 48) rfl (by decide) (by omega) (fun w hM hO => ?_)
      refine kx_aload_n d_M_look_63 rfl (by first | rfl | exact kx_rf _) ?_
      refine kx_get _ d_M_look_64 f_M_32 hM.1 (by rfl) ?_
      refine kx_iload_n d_M_look_67 rfl ?_
      refine kx_aload_n d_M_look_68 rfl (by first | rfl | exact kx_rf _) ?_
      refine kx_get _ d_M_look_69 f_M_32 hM.1 (by rfl) ?_
      refine kx_iload_n d_M_look_72 rfl ?_
      refine kx_zald d_M_look_73 hM.a7 (by omega) (by decide) ?_
      rw [up1_n (by decide), up1_n (by decide), hw7]
      first | refine kx_if_ne_n 87 d_M_look_74 (by decide) (by omega) ?_ ?_ | refine kx_if_ne 87 d_M_look_74 (by decide) ?_ ?_
      · intro h74
        refine kx_iconst (nI 1) d_M_look_87 (by decide) ?_
        refine kx_goto 92 d_M_look_88 (by decide) ?_
        refine mZ_put (j := 7) d_M_look_92 hM hO (by decide) (len := 48) rfl (by decide) (by omega) (by first | exact Or.inl rfl | exact Or.inr rfl) (fun w hM hO => ?_)
        refine kx_vret d_M_look_93 rfl (by decide) (by decide) ?_
        first
          | (exfalso; omega)
          | exact fin w _ _ _ hM hO 4 (by rw [if_pos (by omega)]) rfl (by rw [if_pos rfl]) (by rw [if_pos (by omega)])
          | exact fin w _ _ _ hM hO (dSi D p + 1) (by rw [if_neg (by omega)]) rfl (by first | rw [if_pos (by omega)] | rw [if_neg (by omega)]) (by first | rw [if_pos (by omega)] | rw [if_neg (by omega)])
          | exact absurd h49 (by omega)
          | exact absurd h84 (by omega)
      · intro h74
        refine kx_aload_n d_M_look_77 rfl (by first | rfl | exact kx_rf _) ?_
        refine kx_get _ d_M_look_78 f_M_35 hM.1 (by rfl) ?_
        refine kx_iload_n d_M_look_81 rfl ?_
        refine kx_iald d_M_look_82 hM.a8 (by omega) (by decide) ?_
        rw [up1_n (by decide), up1_s, upd_s]
        refine kx_iconst (nI 4) d_M_look_83 (by decide) ?_
        first | refine kx_icmp_ne_n 91 d_M_look_84 (by decide) (by omega) (by omega) ?_ ?_ | refine kx_icmp_ne 91 d_M_look_84 (by decide) ?_ ?_
        · intro h84
          refine kx_iconst (nI 0) d_M_look_91 (by decide) ?_
          refine mZ_put (j := 7) d_M_look_92 hM hO (by decide) (len := 48) rfl (by decide) (by omega) (by first | exact Or.inl rfl | exact Or.inr rfl) (fun w hM hO => ?_)
          refine kx_vret d_M_look_93 rfl (by decide) (by decide) ?_
          first
            | (exfalso; omega)
            | exact fin w _ _ _ hM hO 4 (by rw [if_pos (by omega)]) rfl (by rw [if_pos rfl]) (by rw [if_pos (by omega)])
            | exact fin w _ _ _ hM hO (dSi D p + 1) (by rw [if_neg (by omega)]) rfl (by first | rw [if_pos (by omega)] | rw [if_neg (by omega)]) (by first | rw [if_pos (by omega)] | rw [if_neg (by omega)])
            | exact absurd h49 (by omega)
            | exact absurd h84 (by omega)
        · intro h84
          refine kx_iconst (nI 1) d_M_look_87 (by decide) ?_
          refine kx_goto 92 d_M_look_88 (by decide) ?_
          refine mZ_put (j := 7) d_M_look_92 hM hO (by decide) (len := 48) rfl (by decide) (by omega) (by first | exact Or.inl rfl | exact Or.inr rfl) (fun w hM hO => ?_)
          refine kx_vret d_M_look_93 rfl (by decide) (by decide) ?_
          first
            | (exfalso; omega)
            | exact fin w _ _ _ hM hO 4 (by rw [if_pos (by omega)]) rfl (by rw [if_pos rfl]) (by rw [if_pos (by omega)])
            | exact fin w _ _ _ hM hO (dSi D p + 1) (by rw [if_neg (by omega)]) rfl (by first | rw [if_pos (by omega)] | rw [if_neg (by omega)]) (by first | rw [if_pos (by omega)] | rw [if_neg (by omega)])
            | exact absurd h49 (by omega)
            | exact absurd h84 (by omega)
    · intro h49
      refine kx_iconst (nI 0) d_M_look_52 (by decide) ?_
      refine kx_goto 62 d_M_look_53 (by decide) ?_
      refine mA_put (j := 6) d_M_look_62 hM hO (by decide) (len := 48) rfl (by decide) (by omega) (fun w hM hO => ?_)
      refine kx_aload_n d_M_look_63 rfl (by first | rfl | exact kx_rf _) ?_
      refine kx_get _ d_M_look_64 f_M_32 hM.1 (by rfl) ?_
      refine kx_iload_n d_M_look_67 rfl ?_
      refine kx_aload_n d_M_look_68 rfl (by first | rfl | exact kx_rf _) ?_
      refine kx_get _ d_M_look_69 f_M_32 hM.1 (by rfl) ?_
      refine kx_iload_n d_M_look_72 rfl ?_
      refine kx_zald d_M_look_73 hM.a7 (by omega) (by decide) ?_
      rw [up1_n (by decide), up1_n (by decide), hw7]
      first | refine kx_if_ne_n 87 d_M_look_74 (by decide) (by omega) ?_ ?_ | refine kx_if_ne 87 d_M_look_74 (by decide) ?_ ?_
      · intro h74
        refine kx_iconst (nI 1) d_M_look_87 (by decide) ?_
        refine kx_goto 92 d_M_look_88 (by decide) ?_
        refine mZ_put (j := 7) d_M_look_92 hM hO (by decide) (len := 48) rfl (by decide) (by omega) (by first | exact Or.inl rfl | exact Or.inr rfl) (fun w hM hO => ?_)
        refine kx_vret d_M_look_93 rfl (by decide) (by decide) ?_
        first
          | (exfalso; omega)
          | exact fin w _ _ _ hM hO 4 (by rw [if_pos (by omega)]) rfl (by rw [if_pos rfl]) (by rw [if_pos (by omega)])
          | exact fin w _ _ _ hM hO (dSi D p + 1) (by rw [if_neg (by omega)]) rfl (by first | rw [if_pos (by omega)] | rw [if_neg (by omega)]) (by first | rw [if_pos (by omega)] | rw [if_neg (by omega)])
          | exact absurd h49 (by omega)
          | exact absurd h84 (by omega)
      · intro h74
        refine kx_aload_n d_M_look_77 rfl (by first | rfl | exact kx_rf _) ?_
        refine kx_get _ d_M_look_78 f_M_35 hM.1 (by rfl) ?_
        refine kx_iload_n d_M_look_81 rfl ?_
        refine kx_iald d_M_look_82 hM.a8 (by omega) (by decide) ?_
        rw [up1_n (by decide), up1_s, upd_s]
        refine kx_iconst (nI 4) d_M_look_83 (by decide) ?_
        first | refine kx_icmp_ne_n 91 d_M_look_84 (by decide) (by omega) (by omega) ?_ ?_ | refine kx_icmp_ne 91 d_M_look_84 (by decide) ?_ ?_
        · intro h84
          refine kx_iconst (nI 0) d_M_look_91 (by decide) ?_
          refine mZ_put (j := 7) d_M_look_92 hM hO (by decide) (len := 48) rfl (by decide) (by omega) (by first | exact Or.inl rfl | exact Or.inr rfl) (fun w hM hO => ?_)
          refine kx_vret d_M_look_93 rfl (by decide) (by decide) ?_
          first
            | (exfalso; omega)
            | exact fin w _ _ _ hM hO 4 (by rw [if_pos (by omega)]) rfl (by rw [if_pos rfl]) (by rw [if_pos (by omega)])
            | exact fin w _ _ _ hM hO (dSi D p + 1) (by rw [if_neg (by omega)]) rfl (by first | rw [if_pos (by omega)] | rw [if_neg (by omega)]) (by first | rw [if_pos (by omega)] | rw [if_neg (by omega)])
            | exact absurd h49 (by omega)
            | exact absurd h84 (by omega)
        · intro h84
          refine kx_iconst (nI 1) d_M_look_87 (by decide) ?_
          refine kx_goto 92 d_M_look_88 (by decide) ?_
          refine mZ_put (j := 7) d_M_look_92 hM hO (by decide) (len := 48) rfl (by decide) (by omega) (by first | exact Or.inl rfl | exact Or.inr rfl) (fun w hM hO => ?_)
          refine kx_vret d_M_look_93 rfl (by decide) (by decide) ?_
          first
            | (exfalso; omega)
            | exact fin w _ _ _ hM hO 4 (by rw [if_pos (by omega)]) rfl (by rw [if_pos rfl]) (by rw [if_pos (by omega)])
            | exact fin w _ _ _ hM hO (dSi D p + 1) (by rw [if_neg (by omega)]) rfl (by first | rw [if_pos (by omega)] | rw [if_neg (by omega)]) (by first | rw [if_pos (by omega)] | rw [if_neg (by omega)])
            | exact absurd h49 (by omega)
            | exact absurd h84 (by omega)
  · intro h21
    refine kx_iconst (nI 4) d_M_look_24 (by decide) ?_
    refine kx_goto 36 d_M_look_25 (by decide) ?_
    refine mA_put (j := 8) d_M_look_36 hM hO (by decide) (len := 48) rfl (by decide) (by omega) (fun w hM hO => ?_)
    refine kx_aload_n d_M_look_37 rfl (by first | rfl | exact kx_rf _) ?_
    refine kx_get _ d_M_look_38 f_M_29 hM.1 (by rfl) ?_
    refine kx_iload_n d_M_look_41 rfl ?_
    refine kx_aload_n d_M_look_42 rfl (by first | rfl | exact kx_rf _) ?_
    refine kx_get _ d_M_look_43 f_M_35 hM.1 (by rfl) ?_
    refine kx_iload_n d_M_look_46 rfl ?_
    refine kx_iald d_M_look_47 hM.a8 (by omega) (by decide) ?_
    rw [up1_s, upd_s]
    refine kx_iconst (nI 4) d_M_look_48 (by decide) ?_
    first | refine kx_icmp_ne_n 56 d_M_look_49 (by decide) (by omega) (by omega) ?_ ?_ | refine kx_icmp_ne 56 d_M_look_49 (by decide) ?_ ?_
    · intro h49
      refine kx_aload_n d_M_look_56 rfl (by first | rfl | exact kx_rf _) ?_
      refine kx_get _ d_M_look_57 f_M_29 hM.1 (by rfl) ?_
      refine kx_iload_n d_M_look_60 rfl ?_
      refine kx_iald d_M_look_61 hM.a6 (by omega) (by decide) ?_
      rw [up1_n (by decide), hs6]
      refine mA_put (j := 6) d_M_look_62 hM hO (by decide) (len := 48) rfl (by decide) (by omega) (fun w hM hO => ?_)
      refine kx_aload_n d_M_look_63 rfl (by first | rfl | exact kx_rf _) ?_
      refine kx_get _ d_M_look_64 f_M_32 hM.1 (by rfl) ?_
      refine kx_iload_n d_M_look_67 rfl ?_
      refine kx_aload_n d_M_look_68 rfl (by first | rfl | exact kx_rf _) ?_
      refine kx_get _ d_M_look_69 f_M_32 hM.1 (by rfl) ?_
      refine kx_iload_n d_M_look_72 rfl ?_
      refine kx_zald d_M_look_73 hM.a7 (by omega) (by decide) ?_
      rw [up1_n (by decide), up1_n (by decide), hw7]
      first | refine kx_if_ne_n 87 d_M_look_74 (by decide) (by omega) ?_ ?_ | refine kx_if_ne 87 d_M_look_74 (by decide) ?_ ?_
      · intro h74
        refine kx_iconst (nI 1) d_M_look_87 (by decide) ?_
        refine kx_goto 92 d_M_look_88 (by decide) ?_
        refine mZ_put (j := 7) d_M_look_92 hM hO (by decide) (len := 48) rfl (by decide) (by omega) (by first | exact Or.inl rfl | exact Or.inr rfl) (fun w hM hO => ?_)
        refine kx_vret d_M_look_93 rfl (by decide) (by decide) ?_
        first
          | (exfalso; omega)
          | exact fin w _ _ _ hM hO 4 (by rw [if_pos (by omega)]) rfl (by rw [if_pos rfl]) (by rw [if_pos (by omega)])
          | exact fin w _ _ _ hM hO (dSi D p + 1) (by rw [if_neg (by omega)]) rfl (by first | rw [if_pos (by omega)] | rw [if_neg (by omega)]) (by first | rw [if_pos (by omega)] | rw [if_neg (by omega)])
          | exact absurd h49 (by omega)
          | exact absurd h84 (by omega)
      · intro h74
        refine kx_aload_n d_M_look_77 rfl (by first | rfl | exact kx_rf _) ?_
        refine kx_get _ d_M_look_78 f_M_35 hM.1 (by rfl) ?_
        refine kx_iload_n d_M_look_81 rfl ?_
        refine kx_iald d_M_look_82 hM.a8 (by omega) (by decide) ?_
        rw [up1_n (by decide), up1_s, upd_s]
        refine kx_iconst (nI 4) d_M_look_83 (by decide) ?_
        first | refine kx_icmp_ne_n 91 d_M_look_84 (by decide) (by omega) (by omega) ?_ ?_ | refine kx_icmp_ne 91 d_M_look_84 (by decide) ?_ ?_
        · intro h84
          refine kx_iconst (nI 0) d_M_look_91 (by decide) ?_
          refine mZ_put (j := 7) d_M_look_92 hM hO (by decide) (len := 48) rfl (by decide) (by omega) (by first | exact Or.inl rfl | exact Or.inr rfl) (fun w hM hO => ?_)
          refine kx_vret d_M_look_93 rfl (by decide) (by decide) ?_
          first
            | (exfalso; omega)
            | exact fin w _ _ _ hM hO 4 (by rw [if_pos (by omega)]) rfl (by rw [if_pos rfl]) (by rw [if_pos (by omega)])
            | exact fin w _ _ _ hM hO (dSi D p + 1) (by rw [if_neg (by omega)]) rfl (by first | rw [if_pos (by omega)] | rw [if_neg (by omega)]) (by first | rw [if_pos (by omega)] | rw [if_neg (by omega)])
            | exact absurd h49 (by omega)
            | exact absurd h84 (by omega)
        · intro h84
          refine kx_iconst (nI 1) d_M_look_87 (by decide) ?_
          refine kx_goto 92 d_M_look_88 (by decide) ?_
          refine mZ_put (j := 7) d_M_look_92 hM hO (by decide) (len := 48) rfl (by decide) (by omega) (by first | exact Or.inl rfl | exact Or.inr rfl) (fun w hM hO => ?_)
          refine kx_vret d_M_look_93 rfl (by decide) (by decide) ?_
          first
            | (exfalso; omega)
            | exact fin w _ _ _ hM hO 4 (by rw [if_pos (by omega)]) rfl (by rw [if_pos rfl]) (by rw [if_pos (by omega)])
            | exact fin w _ _ _ hM hO (dSi D p + 1) (by rw [if_neg (by omega)]) rfl (by first | rw [if_pos (by omega)] | rw [if_neg (by omega)]) (by first | rw [if_pos (by omega)] | rw [if_neg (by omega)])
            | exact absurd h49 (by omega)
            | exact absurd h84 (by omega)
    · intro h49
      refine kx_iconst (nI 0) d_M_look_52 (by decide) ?_
      refine kx_goto 62 d_M_look_53 (by decide) ?_
      refine mA_put (j := 6) d_M_look_62 hM hO (by decide) (len := 48) rfl (by decide) (by omega) (fun w hM hO => ?_)
      refine kx_aload_n d_M_look_63 rfl (by first | rfl | exact kx_rf _) ?_
      refine kx_get _ d_M_look_64 f_M_32 hM.1 (by rfl) ?_
      refine kx_iload_n d_M_look_67 rfl ?_
      refine kx_aload_n d_M_look_68 rfl (by first | rfl | exact kx_rf _) ?_
      refine kx_get _ d_M_look_69 f_M_32 hM.1 (by rfl) ?_
      refine kx_iload_n d_M_look_72 rfl ?_
      refine kx_zald d_M_look_73 hM.a7 (by omega) (by decide) ?_
      rw [up1_n (by decide), up1_n (by decide), hw7]
      first | refine kx_if_ne_n 87 d_M_look_74 (by decide) (by omega) ?_ ?_ | refine kx_if_ne 87 d_M_look_74 (by decide) ?_ ?_
      · intro h74
        refine kx_iconst (nI 1) d_M_look_87 (by decide) ?_
        refine kx_goto 92 d_M_look_88 (by decide) ?_
        refine mZ_put (j := 7) d_M_look_92 hM hO (by decide) (len := 48) rfl (by decide) (by omega) (by first | exact Or.inl rfl | exact Or.inr rfl) (fun w hM hO => ?_)
        refine kx_vret d_M_look_93 rfl (by decide) (by decide) ?_
        first
          | (exfalso; omega)
          | exact fin w _ _ _ hM hO 4 (by rw [if_pos (by omega)]) rfl (by rw [if_pos rfl]) (by rw [if_pos (by omega)])
          | exact fin w _ _ _ hM hO (dSi D p + 1) (by rw [if_neg (by omega)]) rfl (by first | rw [if_pos (by omega)] | rw [if_neg (by omega)]) (by first | rw [if_pos (by omega)] | rw [if_neg (by omega)])
          | exact absurd h49 (by omega)
          | exact absurd h84 (by omega)
      · intro h74
        refine kx_aload_n d_M_look_77 rfl (by first | rfl | exact kx_rf _) ?_
        refine kx_get _ d_M_look_78 f_M_35 hM.1 (by rfl) ?_
        refine kx_iload_n d_M_look_81 rfl ?_
        refine kx_iald d_M_look_82 hM.a8 (by omega) (by decide) ?_
        rw [up1_n (by decide), up1_s, upd_s]
        refine kx_iconst (nI 4) d_M_look_83 (by decide) ?_
        first | refine kx_icmp_ne_n 91 d_M_look_84 (by decide) (by omega) (by omega) ?_ ?_ | refine kx_icmp_ne 91 d_M_look_84 (by decide) ?_ ?_
        · intro h84
          refine kx_iconst (nI 0) d_M_look_91 (by decide) ?_
          refine mZ_put (j := 7) d_M_look_92 hM hO (by decide) (len := 48) rfl (by decide) (by omega) (by first | exact Or.inl rfl | exact Or.inr rfl) (fun w hM hO => ?_)
          refine kx_vret d_M_look_93 rfl (by decide) (by decide) ?_
          first
            | (exfalso; omega)
            | exact fin w _ _ _ hM hO 4 (by rw [if_pos (by omega)]) rfl (by rw [if_pos rfl]) (by rw [if_pos (by omega)])
            | exact fin w _ _ _ hM hO (dSi D p + 1) (by rw [if_neg (by omega)]) rfl (by first | rw [if_pos (by omega)] | rw [if_neg (by omega)]) (by first | rw [if_pos (by omega)] | rw [if_neg (by omega)])
            | exact absurd h49 (by omega)
            | exact absurd h84 (by omega)
        · intro h84
          refine kx_iconst (nI 1) d_M_look_87 (by decide) ?_
          refine kx_goto 92 d_M_look_88 (by decide) ?_
          refine mZ_put (j := 7) d_M_look_92 hM hO (by decide) (len := 48) rfl (by decide) (by omega) (by first | exact Or.inl rfl | exact Or.inr rfl) (fun w hM hO => ?_)
          refine kx_vret d_M_look_93 rfl (by decide) (by decide) ?_
          first
            | (exfalso; omega)
            | exact fin w _ _ _ hM hO 4 (by rw [if_pos (by omega)]) rfl (by rw [if_pos rfl]) (by rw [if_pos (by omega)])
            | exact fin w _ _ _ hM hO (dSi D p + 1) (by rw [if_neg (by omega)]) rfl (by first | rw [if_pos (by omega)] | rw [if_neg (by omega)]) (by first | rw [if_pos (by omega)] | rw [if_neg (by omega)])
            | exact absurd h49 (by omega)
            | exact absurd h84 (by omega)
set_option maxRecDepth 20000 in
set_option maxHeartbeats 4000000 in
theorem m_M_look_ye {E : kx_E} {w : va_W} {ma : Nat → Nat} {F : Nat → Int32} {A : Nat → Nat → Int32} (hM : Mdl E w ma F A) {n : Nat} {X : Fx} {D : Dy} (hR : ModR n X D A) (hX : WfX n X) (hD : WfD n D) (hn : F 1 = nI n) (hz : Bz A) {D0 : Dy} (hP : OldR n D0 A) (hD0 : WfD n D0) {p : Nat} (hp : p < 2 * n) {losses : Int32} {q : Nat} (hh : heaQ X losses p = some q) : kx_S E Y_M_look [.ref (ma 0), .int (nI p), .int losses] w (MP E w ma F (fun A1 => ModR n X (lkD X losses D0 D p) A1 ∧ OldR n D0 A1 ∧ Bz A1) none) := by
  refine kx_go (by decide) rfl rfl (Nat.le_of_ble_eq_true rfl) (kx_cc rfl (kx_cc rfl (kx_cc rfl kx_c0))) (fun z => ?_)
  have hO : kx_off w w mdlN := kx_off.rf
  obtain ⟨w0, hw0⟩ : ∃ w0, w0 = w := ⟨_, rfl⟩
  have hO : kx_off w0 w mdlN := by rw [hw0]; exact kx_off.rf
  refine kx_q9 (Q := (MP E w0 ma F (fun A1 => ModR n X (lkD X losses D0 D p) A1 ∧ OldR n D0 A1 ∧ Bz A1) none)) (by rw [hw0]) ?_
  have h24 := hX.1
  have hk := heaQ_lk hh
  have hq := hX.lk hp hk
  have hr := x1_lt hq
  have hl : A 2 p = nI q := by rw [hR.lks p hp, hk]; rfl
  have o1 := hP.ovw (q ^^^ 1) hr
  have b := hD0.1 (q ^^^ 1) hr
  have bl := b.1.1
  have b1 := b.2.1
  have o19 := hP.owh (q ^^^ 1) hr
  have hz9 : nI (dWh D0 (q ^^^ 1)) = nI 0 ∨ nI (dWh D0 (q ^^^ 1)) = nI 1 := by rcases (show dWh D0 (q ^^^ 1) = 0 ∨ dWh D0 (q ^^^ 1) = 1 by omega) with e | e <;> rw [e] <;> simp
  have od := hP.odi (q / 2) (by omega)
  have bd := (hD0.2.2 (q / 2) (by omega)).1.1
  obtain ⟨l, hle⟩ : ∃ l, l = (q :: dVw D0 (q ^^^ 1)).take 24 := ⟨_, rfl⟩
  have hll : l.length = min 24 ((dVw D0 (q ^^^ 1)).length + 1) := by rw [hle, List.length_take]; rfl
  have hl0 : l.getD 0 0 = q := by rw [hle]; rfl
  have hlk : ∀ k, 1 ≤ k → k < l.length → l.getD k 0 = (dVw D0 (q ^^^ 1)).getD (k - 1) 0 := fun k h1 h2 => by
    obtain ⟨j, rfl⟩ : ∃ j, k = j + 1 := ⟨k - 1, by omega⟩
    rw [hle, Nat.add_sub_cancel, List.getD_eq_getElem?_getD, List.getElem?_take_of_lt (by omega), List.getElem?_cons_succ, ← List.getD_eq_getElem?_getD]
  have k141 : ∀ w1, Mdl E w1 ma F (up1 A 8 (upd (A 8) p (nI 0))) → kx_off w0 w1 mdlN → kx_R E Y_M_look z 141 [(0, .ref (ma 0)), (1, .int (nI p)), (3, .int (nI q))] [.int (nI l.length), .int (nI p), .ref (ma 7)] w1 0 0 ((MP E w0 ma F (fun A1 => ModR n X (lkD X losses D0 D p) A1 ∧ OldR n D0 A1 ∧ Bz A1) none)) := by
    intro w hM hO
    refine mA_put (j := 6) d_M_look_141 hM hO (by decide) (len := 48) rfl (by decide) (by omega) (fun w hM hO => ?_)
    refine kx_aload_n d_M_look_142 rfl (by first | rfl | exact kx_rf _) ?_
    refine kx_get _ d_M_look_143 f_M_32 hM.1 (by rfl) ?_
    refine kx_iload_n d_M_look_146 rfl ?_
    refine kx_aload_n d_M_look_147 rfl (by first | rfl | exact kx_rf _) ?_
    refine kx_get _ d_M_look_148 f_M_68 hM.1 (by rfl) ?_
    refine kx_iload_n d_M_look_151 rfl ?_
    refine kx_iconst (nI 1) d_M_look_152 (by decide) ?_
    refine kx_ixor _ d_M_look_153 (kx_xor _ _) ?_
    refine kx_zald d_M_look_154 hM.a19 (by omega) (by decide) ?_
    rw [up1_n (by decide), up1_n (by decide), o19]
    refine mZ_put (j := 7) d_M_look_155 hM hO (by decide) (len := 48) rfl (by decide) (by omega) hz9 (fun w hM hO => ?_)
    refine kx_aload_n d_M_look_156 rfl (by first | rfl | exact kx_rf _) ?_
    refine kx_get _ d_M_look_157 f_M_26 hM.1 (by rfl) ?_
    refine kx_bipush (nI 24) d_M_look_160 (by decide) ?_
    refine kx_iload_n d_M_look_162 rfl ?_
    first | refine kx_imul _ d_M_look_163 (pk_mul _ _) ?_ | refine kx_imul _ d_M_look_163 rfl ?_
    refine kx_iload_n d_M_look_164 rfl ?_
    refine mA_put (j := 5) d_M_look_165 hM hO (by decide) (len := 1152) rfl (by decide) (by omega) (fun w hM hO => ?_)
    obtain ⟨B, hB⟩ : ∃ B, B = up1 (up1 (up1 (up1 A 8 (upd (A 8) p (nI 0))) 6 (upd (A 6) p (nI l.length))) 7 (upd (A 7) p (nI (dWh D0 (q ^^^ 1))))) 5 (upd (A 5) (24 * p) (nI q)) := ⟨_, rfl⟩
    have hM : Mdl E w ma F B := by rw [hB]; exact hM
    have B5 : B 5 = upd (A 5) (24 * p) (nI q) := by rw [hB, up1_s]
    have B6 : B 6 = upd (A 6) p (nI l.length) := by rw [hB, up1_n (by decide), up1_n (by decide), up1_s]
    have B7 : B 7 = upd (A 7) p (nI (dWh D0 (q ^^^ 1))) := by rw [hB, up1_n (by decide), up1_s]
    have B8 : B 8 = upd (A 8) p (nI 0) := by rw [hB, up1_n (by decide), up1_n (by decide), up1_n (by decide), up1_s]
    have Bo : ∀ j, j ≠ 5 → j ≠ 6 → j ≠ 7 → j ≠ 8 → B j = A j := fun j q5 q6 q7 q8 => by rw [hB, up1_n q5, up1_n q7, up1_n q6, up1_n q8]
    clear hB
    refine kx_iconst (nI 1) d_M_look_166 (by decide) ?_
    refine kx_istore d_M_look_167 (by decide) ?_
    refine kx_loc (L1 := [(0, .ref (ma 0)), (1, .int (nI p)), (3, .int (nI q)), (4, .int (nI 1))]) ⟨rfl, rfl, rfl, rfl, trivial⟩ ?_
    refine l_M_look1 (B := B) (p := p) (q := q) (l := l) (by omega) (by omega) (by omega) (by rw [B6, upd_s]) (fun k h1 h2 => ?_) (fun w C hM hO hC1 hC2 hC3 => ?_) (l.length - 1) 1 w B (by omega) (by omega) hM hO (fun _ _ => rfl) (fun _ _ => rfl) (fun i hi => ?_)
    · rw [Bo 17 (by decide) (by decide) (by decide) (by decide), hlk k h1 h2, show 24 * (q ^^^ 1) + k - 1 = 24 * (q ^^^ 1) + (k - 1) by omega]
      exact o1.2 (k - 1) (by omega)
    · clear hlk
      refine kx_aload_n d_M_look_214 rfl (by first | rfl | exact kx_rf _) ?_
      refine kx_get _ d_M_look_215 f_M_47 hM.1 (by rfl) ?_
      refine kx_iload_n d_M_look_218 rfl ?_
      refine kx_aload_n d_M_look_219 rfl (by first | rfl | exact kx_rf _) ?_
      refine kx_get _ d_M_look_220 f_M_74 hM.1 (by rfl) ?_
      refine kx_iload_n d_M_look_223 rfl ?_
      refine kx_iconst (nI 2) d_M_look_224 (by decide) ?_
      refine kx_idiv _ d_M_look_225 (by decide) (pk_div (by omega) (by omega) (by omega)) ?_
      refine kx_iald d_M_look_226 hM.a21 (by omega) (by decide) ?_
      rw [hC1 21 (by decide), Bo 21 (by decide) (by decide) (by decide) (by decide), od.1]
      refine mA_put (j := 12) d_M_look_227 hM hO (by decide) (len := 48) rfl (by decide) (by omega) (fun w hM hO => ?_)
      refine kx_iconst (nI 0) d_M_look_228 (by decide) ?_
      refine kx_istore d_M_look_229 (by decide) ?_
      refine kx_loc (L1 := [(0, .ref (ma 0)), (1, .int (nI p)), (3, .int (nI q)), (4, .int (nI 0))]) ⟨rfl, rfl, rfl, rfl, trivial⟩ ?_
      obtain ⟨G, hG⟩ : ∃ G, G = up1 C 12 (upd (C 12) p (nI (dDi D0 (q / 2)).length)) := ⟨_, rfl⟩
      rw [← hG] at hM
      have Go : ∀ j, j ≠ 12 → G j = C j := fun j h => by rw [hG, up1_n h]
      have G12 : G 12 = upd (A 12) p (nI (dDi D0 (q / 2)).length) := by rw [hG, up1_s, hC1 12 (by decide), Bo 12 (by decide) (by decide) (by decide) (by decide)]
      clear hG
      refine l_M_look2 (B := G) (p := p) (q := q) (l := dDi D0 (q / 2)) (by omega) (by omega) (by omega) ?_ (fun k _ hk => ?_) (fun w H hM hO hH1 hH2 hH3 => ?_) (dDi D0 (q / 2)).length 0 w G rfl (Nat.le_refl _) hM hO (fun _ _ => rfl) (fun _ _ => rfl) (fun i hi => absurd hi (Nat.not_lt_zero _))
      · rw [Go 21 (by decide), hC1 21 (by decide), Bo 21 (by decide) (by decide) (by decide) (by decide)]; exact od.1
      · rw [Go 20 (by decide), hC1 20 (by decide), Bo 20 (by decide) (by decide) (by decide) (by decide)]; exact od.2 k hk
      · refine kx_vret d_M_look_276 rfl (by decide) (by decide) ?_
        have Ho : ∀ j, j ≠ 5 → j ≠ 6 → j ≠ 7 → j ≠ 8 → j ≠ 11 → j ≠ 12 → H j = A j := fun j q5 q6 q7 q8 q11 q12 => by rw [hH1 j q11, Go j q12, hC1 j q5, Bo j q5 q6 q7 q8]
        have H5 : H 5 = C 5 := by rw [hH1 5 (by decide), Go 5 (by decide)]
        have H6 : H 6 = upd (A 6) p (nI l.length) := by rw [hH1 6 (by decide), Go 6 (by decide), hC1 6 (by decide), B6]
        have H7 : H 7 = upd (A 7) p (nI (dWh D0 (q ^^^ 1))) := by rw [hH1 7 (by decide), Go 7 (by decide), hC1 7 (by decide), B7]
        have H8 : H 8 = upd (A 8) p (nI 0) := by rw [hH1 8 (by decide), Go 8 (by decide), hC1 8 (by decide), B8]
        have H12 : H 12 = upd (A 12) p (nI (dDi D0 (q / 2)).length) := by rw [hH1 12 (by decide), G12]
        refine ⟨rfl, H, hM, ⟨?_, hP.fr Ho, ?_⟩, hO⟩
        · unfold lkD lkV lkW lkS lkT
          rw [hh]
          dsimp only
          rw [← hle]
          refine hR.uEnd hD (fun j _ q5 q6 q7 q8 q11 q12 => Ho j q5 q6 q7 q8 q11 q12) (fun i hi => ?_) (fun x hx => ?_) (fun x hx => ?_) (fun x hx => ?_) (fun i hi => ?_) (fun x hx => ?_) ⟨?_, fun k hk => ?_⟩ ?_ ?_ ⟨?_, fun u hu k hk => ?_⟩
          · rw [H5, hC2 i hi, B5, upd_n (by omega)]
          · rw [H6, upd_n hx]
          · rw [H7, upd_n hx]
          · rw [H8, upd_n hx]
          · rw [hH2 i hi, Go 11 (by decide), hC1 11 (by decide), Bo 11 (by decide) (by decide) (by decide) (by decide)]
          · rw [H12, upd_n hx]
          · rw [H6, upd_s]
          · rw [H5]; exact hC3 k hk
          · rw [H7, upd_s]
          · rw [H8, upd_s]
          · rw [H12, upd_s]; rfl
          · cases hu; exact hH3 k hk
        · intro i hi
          rw [H7]
          by_cases e : i = p
          · subst e; rw [upd_s]; exact hz9
          · rw [upd_n e]; exact hz i hi
    · have : i = 0 := by omega
      subst this
      rw [B5, hl0, Nat.add_zero, upd_s]
  refine kx_aload_n d_M_look_0 rfl (by first | rfl | exact kx_rf _) ?_
  refine kx_iload_n d_M_look_1 rfl ?_
  refine kx_iload_n d_M_look_2 rfl ?_
  refine kx_callV (as := [.int (nI p), .int losses]) (rest := []) d_M_look_3 v_M_126 rfl hM.1 rfl rfl (by decide) (by decide) (Nat.le_of_ble_eq_true rfl) (by decide) (by decide) rfl (m_M_hears hM hR hX hD hn hp losses) (fun X w1 h => by cases h.1) (fun v w1 hq9 => ?_)
  obtain ⟨hv, hw9⟩ := hq9
  cases hv
  subst hw9
  rw [hh]
  refine kx_stk (st1 := [.int (nI 1)]) rfl ?_
  refine kx_if_ne_n 94 d_M_look_6 (by decide) (by decide) (fun _ => ?_) (fun h => absurd h (by decide))
  refine kx_aload_n d_M_look_94 rfl (by first | rfl | exact kx_rf _) ?_
  refine kx_get _ d_M_look_95 f_M_16 hM.1 (by rfl) ?_
  refine kx_iload_n d_M_look_98 rfl ?_
  refine kx_iald d_M_look_99 hM.a2 (by omega) (by decide) ?_
  rw [hl]
  refine kx_istore_n d_M_look_100 (by decide) ?_
  refine kx_aload_n d_M_look_101 rfl (by first | rfl | exact kx_rf _) ?_
  refine kx_get _ d_M_look_102 f_M_35 hM.1 (by rfl) ?_
  refine kx_iload_n d_M_look_105 rfl ?_
  refine kx_iconst (nI 0) d_M_look_106 (by decide) ?_
  refine mA_put (j := 8) d_M_look_107 hM hO (by decide) (len := 48) rfl (by decide) (by omega) (fun w hM hO => ?_)
  refine kx_aload_n d_M_look_108 rfl (by first | rfl | exact kx_rf _) ?_
  refine kx_get _ d_M_look_109 f_M_29 hM.1 (by rfl) ?_
  refine kx_iload_n d_M_look_112 rfl ?_
  refine kx_aload_n d_M_look_113 rfl (by first | rfl | exact kx_rf _) ?_
  refine kx_get _ d_M_look_114 f_M_65 hM.1 (by rfl) ?_
  refine kx_iload_n d_M_look_117 rfl ?_
  refine kx_iconst (nI 1) d_M_look_118 (by decide) ?_
  refine kx_ixor _ d_M_look_119 (kx_xor _ _) ?_
  refine kx_iald d_M_look_120 hM.a18 (by omega) (by decide) ?_
  rw [up1_n (by decide), o1.1]
  refine kx_bipush (nI 24) d_M_look_121 (by decide) ?_
  first | refine kx_icmp_ne_n 131 d_M_look_123 (by decide) (by omega) (by omega) ?_ ?_ | refine kx_icmp_ne 131 d_M_look_123 (by decide) ?_ ?_
  · intro h123
    refine kx_aload_n d_M_look_131 rfl (by first | rfl | exact kx_rf _) ?_
    refine kx_get _ d_M_look_132 f_M_65 hM.1 (by rfl) ?_
    refine kx_iload_n d_M_look_135 rfl ?_
    refine kx_iconst (nI 1) d_M_look_136 (by decide) ?_
    refine kx_ixor _ d_M_look_137 (kx_xor _ _) ?_
    refine kx_iald d_M_look_138 hM.a18 (by omega) (by decide) ?_
    rw [up1_n (by decide), o1.1]
    refine kx_iconst (nI 1) d_M_look_139 (by decide) ?_
    first | refine kx_iadd _ d_M_look_140 (nI_add _ _) ?_ | refine kx_iadd _ d_M_look_140 rfl ?_
    refine kx_loc (L1 := [(0, .ref (ma 0)), (1, .int (nI p)), (3, .int (nI q))]) ⟨rfl, rfl, rfl, trivial⟩ ?_
    first
      | exact kx_stk (st1 := [.int (nI l.length), .int (nI p), .ref (ma 7)]) (by rw [show l.length = 24 by omega]) (k141 w hM hO)
      | exact kx_stk (st1 := [.int (nI l.length), .int (nI p), .ref (ma 7)]) (by rw [show l.length = (dVw D0 (q ^^^ 1)).length + 1 by omega]) (k141 w hM hO)
  · intro h123
    refine kx_bipush (nI 24) d_M_look_126 (by decide) ?_
    refine kx_goto 141 d_M_look_128 (by decide) ?_
    refine kx_loc (L1 := [(0, .ref (ma 0)), (1, .int (nI p)), (3, .int (nI q))]) ⟨rfl, rfl, rfl, trivial⟩ ?_
    first
      | exact kx_stk (st1 := [.int (nI l.length), .int (nI p), .ref (ma 7)]) (by rw [show l.length = 24 by omega]) (k141 w hM hO)
      | exact kx_stk (st1 := [.int (nI l.length), .int (nI p), .ref (ma 7)]) (by rw [show l.length = (dVw D0 (q ^^^ 1)).length + 1 by omega]) (k141 w hM hO)
theorem m_M_look {E : kx_E} {w : va_W} {ma : Nat → Nat} {F : Nat → Int32} {A : Nat → Nat → Int32} (hM : Mdl E w ma F A) {n : Nat} {X : Fx} {D : Dy} (hR : ModR n X D A) (hX : WfX n X) (hD : WfD n D) (hn : F 1 = nI n) (hz : Bz A) {D0 : Dy} (hP : OldR n D0 A) (hD0 : WfD n D0) {p : Nat} (hp : p < 2 * n) {losses : Int32} : kx_S E Y_M_look [.ref (ma 0), .int (nI p), .int losses] w (MP E w ma F (fun A1 => ModR n X (lkD X losses D0 D p) A1 ∧ OldR n D0 A1 ∧ Bz A1) none) := by
  cases hh : heaQ X losses p with
  | none => exact m_M_look_no hM hR hX hD hn hz hP hD0 hp hh
  | some q => exact m_M_look_ye hM hR hX hD hn hz hP hD0 hp hh
