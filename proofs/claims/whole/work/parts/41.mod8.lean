/-! The reference: copy, look -/
def cpO (A A1 : Nat → Nat → Int32) : Prop := (∀ j, j < 17 ∨ 24 ≤ j → A1 j = A j) ∧ (∀ i, i < 48 → A1 18 i = A 6 i) ∧ (∀ i, i < 48 → A1 19 i = A 7 i) ∧ (∀ i, i < 24 → A1 21 i = A 10 i) ∧ (∀ i, i < 1152 → A1 17 i = A 5 i) ∧ (∀ i, i < 576 → A1 20 i = A 9 i) ∧ (∀ i, i < 576 → A1 22 i = A 13 i) ∧ (∀ i, i < 2304 → A1 23 i = A 14 i)
theorem cpO.old {n : Nat} {X : Fx} {D : Dy} {A A1 : Nat → Nat → Int32} (h : cpO A A1) (hR : ModR n X D A) (hX : WfX n X) (hD : WfD n D) : OldR n D A1 := by
  have h24 := hX.1
  obtain ⟨h0, h1, h2, h3, h4, h5, h6, h7⟩ := h
  refine ⟨fun p hp => ?_, fun p hp => ?_, fun c hc => ?_, fun c k hc hk => ?_, fun c k i hc hk hi => ?_⟩
  · obtain ⟨g1, g2⟩ := hR.vws p hp
    have := (hD.1 p hp).1.1
    exact ⟨(h1 p (by omega)).trans g1, fun k hk => (h4 _ (by omega)).trans (g2 k hk)⟩
  · exact (h2 p (by omega)).trans (hR.whs p hp)
  · obtain ⟨g1, g2⟩ := hR.dis c hc
    have := (hD.2.2 c hc).1.1
    exact ⟨(h3 c (by omega)).trans g1, fun k hk => (h5 _ (by omega)).trans (g2 k hk)⟩
  · exact (h6 _ (by omega)).trans (hR.ags c k hc hk)
  · exact (h7 _ (by omega)).trans (hR.bys c k i hc hk hi)
set_option maxRecDepth 20000 in
set_option maxHeartbeats 4000000 in
theorem m_M_copy {E : kx_E} {w : va_W} {ma : Nat → Nat} {F : Nat → Int32} {A : Nat → Nat → Int32} (hM : Mdl E w ma F A) (hz : Bz A) : kx_S E Y_M_copy [.ref (ma 0)] w (MP E w ma F (cpO A) none) := by
  refine kx_go (by decide) rfl rfl (Nat.le_of_ble_eq_true rfl) (kx_cc rfl kx_c0) (fun z => ?_)
  have hO : kx_off w w mdlN := kx_off.rf
  refine kx_iconst (nI 0) d_M_copy_0 (by decide) ?_
  refine kx_istore_n d_M_copy_1 (by decide) ?_
  refine kx_loc (L1 := [(0, .ref (ma 0)), (1, .int (nI 0))]) ⟨rfl, rfl, trivial⟩ ?_
  refine l_M_copy1 (A0 := A) hz (fun w A1 hM hO f1 c18 c19 => ?_) 48 0 w A rfl hM hO (fun _ _ _ => rfl) (fun i hi => absurd hi (Nat.not_lt_zero _)) (fun i hi => absurd hi (Nat.not_lt_zero _))
  refine kx_iconst (nI 0) d_M_copy_38 (by decide) ?_
  refine kx_istore_n d_M_copy_39 (by decide) ?_
  refine kx_loc (L1 := [(0, .ref (ma 0)), (1, .int (nI 0))]) ⟨rfl, rfl, trivial⟩ ?_
  refine l_M_copy2 (A0 := A1) (fun w A2 hM hO f2 c21 => ?_) 24 0 w A1 rfl hM hO (fun _ _ => rfl) (fun i hi => absurd hi (Nat.not_lt_zero _))
  refine kx_iconst (nI 0) d_M_copy_64 (by decide) ?_
  refine kx_istore_n d_M_copy_65 (by decide) ?_
  refine kx_loc (L1 := [(0, .ref (ma 0)), (1, .int (nI 0))]) ⟨rfl, rfl, trivial⟩ ?_
  refine l_M_copy3 (A0 := A2) (fun w A3 hM hO f3 c17 => ?_) 1152 0 w A2 rfl hM hO (fun _ _ => rfl) (fun i hi => absurd hi (Nat.not_lt_zero _))
  refine kx_iconst (nI 0) d_M_copy_91 (by decide) ?_
  refine kx_istore_n d_M_copy_92 (by decide) ?_
  refine kx_loc (L1 := [(0, .ref (ma 0)), (1, .int (nI 0))]) ⟨rfl, rfl, trivial⟩ ?_
  refine l_M_copy4 (A0 := A3) (fun w A4 hM hO f4 c20 c22 => ?_) 576 0 w A3 rfl hM hO (fun _ _ _ => rfl) (fun i hi => absurd hi (Nat.not_lt_zero _)) (fun i hi => absurd hi (Nat.not_lt_zero _))
  refine kx_iconst (nI 0) d_M_copy_130 (by decide) ?_
  refine kx_istore_n d_M_copy_131 (by decide) ?_
  refine kx_loc (L1 := [(0, .ref (ma 0)), (1, .int (nI 0))]) ⟨rfl, rfl, trivial⟩ ?_
  refine l_M_copy5 (A0 := A4) (fun w A5 hM hO f5 c23 => ?_) 2304 0 w A4 rfl hM hO (fun _ _ => rfl) (fun i hi => absurd hi (Nat.not_lt_zero _))
  refine kx_vret d_M_copy_157 rfl (by decide) (by decide) ?_
  refine ⟨rfl, A5, hM, ⟨fun j hj => ?_, fun i hi => ?_, fun i hi => ?_, fun i hi => ?_, fun i hi => ?_, fun i hi => ?_, fun i hi => ?_, fun i hi => ?_⟩, hO⟩
  · rw [f5 j (by omega), f4 j (by omega) (by omega), f3 j (by omega), f2 j (by omega), f1 j (by omega) (by omega)]
  · rw [f5 18 (by decide), f4 18 (by decide) (by decide), f3 18 (by decide), f2 18 (by decide)]; exact c18 i hi
  · rw [f5 19 (by decide), f4 19 (by decide) (by decide), f3 19 (by decide), f2 19 (by decide)]; exact c19 i hi
  · rw [f5 21 (by decide), f4 21 (by decide) (by decide), f3 21 (by decide), c21 i hi, f1 10 (by decide) (by decide)]
  · rw [f5 17 (by decide), f4 17 (by decide) (by decide), c17 i hi, f2 5 (by decide), f1 5 (by decide) (by decide)]
  · rw [f5 20 (by decide), c20 i hi, f3 9 (by decide), f2 9 (by decide), f1 9 (by decide) (by decide)]
  · rw [f5 22 (by decide), c22 i hi, f3 13 (by decide), f2 13 (by decide), f1 13 (by decide) (by decide)]
  · rw [c23 i hi, f4 14 (by decide) (by decide), f3 14 (by decide), f2 14 (by decide), f1 14 (by decide) (by decide)]
def lkS (X : Fx) (losses : Int32) (D : Dy) (p : Nat) : Nat := match heaQ X losses p with
  | none => if dSi D p = 4 then 4 else dSi D p + 1
  | some _ => 0
def lkV (X : Fx) (losses : Int32) (D0 D : Dy) (p : Nat) : List Nat := match heaQ X losses p with
  | none => if (if dSi D p = 4 then 4 else dSi D p + 1) = 4 then [] else dVw D p
  | some q => (q :: dVw D0 (q ^^^ 1)).take 24
def lkW (X : Fx) (losses : Int32) (D0 D : Dy) (p : Nat) : Nat := match heaQ X losses p with
  | none => if dWh D p = 1 ∨ (if dSi D p = 4 then 4 else dSi D p + 1) = 4 then 1 else 0
  | some q => dWh D0 (q ^^^ 1)
def lkT (X : Fx) (losses : Int32) (D0 D : Dy) (p : Nat) : Option (List Nat) := match heaQ X losses p with
  | none => dTo D p
  | some q => some (dDi D0 (q / 2))
def lkD (X : Fx) (losses : Int32) (D0 D : Dy) (p : Nat) : Dy := (up1 (dVw D) p (lkV X losses D0 D p), up1 (dWh D) p (lkW X losses D0 D p), up1 (dSi D) p (lkS X losses D p), up1 (dTo D) p (lkT X losses D0 D p), dDi D, dAg D, dBy D, dCr D, dCh D)
theorem ModR.uEnd {n : Nat} {X : Fx} {D : Dy} {A A1 : Nat → Nat → Int32} (hR : ModR n X D A) (hD : WfD n D) {p : Nat}
    (fr : ∀ j, j < 17 → j ≠ 5 → j ≠ 6 → j ≠ 7 → j ≠ 8 → j ≠ 11 → j ≠ 12 → A1 j = A j)
    (h5 : ∀ i, (i < 24 * p ∨ 24 * p + 24 ≤ i) → A1 5 i = A 5 i) (h6 : ∀ x, x ≠ p → A1 6 x = A 6 x) (h7 : ∀ x, x ≠ p → A1 7 x = A 7 x) (h8 : ∀ x, x ≠ p → A1 8 x = A 8 x) (h11 : ∀ i, (i < 24 * p ∨ 24 * p + 24 ≤ i) → A1 11 i = A 11 i) (h12 : ∀ x, x ≠ p → A1 12 x = A 12 x)
    {l : List Nat} {b s : Nat} {t : Option (List Nat)} (hv : LisR (A1 5) (A1 6) p l) (hb : A1 7 p = nI b) (hs : A1 8 p = nI s) (ht : TolR (A1 11) (A1 12) p t) :
    ModR n X (up1 (dVw D) p l, up1 (dWh D) p b, up1 (dSi D) p s, up1 (dTo D) p t, dDi D, dAg D, dBy D, dCr D, dCh D) A1 := by
  have f : ∀ j, j < 17 → j ≠ 5 → j ≠ 6 → j ≠ 7 → j ≠ 8 → j ≠ 11 → j ≠ 12 → A1 j = A j := fr
  refine ⟨?_, ?_, ?_, ?_, ?_, ?_, ?_, ?_, ?_, ?_, ?_, ?_, ?_, ?_⟩
  · rw [f 0 (by decide) (by decide) (by decide) (by decide) (by decide) (by decide) (by decide)]; exact hR.ids
  · rw [f 1 (by decide) (by decide) (by decide) (by decide) (by decide) (by decide) (by decide)]; exact hR.mks
  · rw [f 2 (by decide) (by decide) (by decide) (by decide) (by decide) (by decide) (by decide)]; exact hR.lks
  · rw [f 3 (by decide) (by decide) (by decide) (by decide) (by decide) (by decide) (by decide)]; exact hR.nus
  · rw [f 4 (by decide) (by decide) (by decide) (by decide) (by decide) (by decide) (by decide)]; exact hR.uss
  · intro x hx
    show LisR (A1 5) (A1 6) x (up1 (dVw D) p l x)
    by_cases e : x = p
    · subst e; rw [up1_s]; exact hv
    · rw [up1_n e]
      obtain ⟨g1, g2⟩ := hR.vws x hx
      have := (hD.1 x hx).1.1
      exact ⟨(h6 x e).trans g1, fun k hk => (h5 _ (by omega)).trans (g2 k hk)⟩
  · intro x hx
    show A1 7 x = nI (up1 (dWh D) p b x)
    by_cases e : x = p
    · subst e; rw [up1_s]; exact hb
    · rw [up1_n e, h7 x e]; exact hR.whs x hx
  · intro x hx
    show A1 8 x = nI (up1 (dSi D) p s x)
    by_cases e : x = p
    · subst e; rw [up1_s]; exact hs
    · rw [up1_n e, h8 x e]; exact hR.sis x hx
  · rw [f 9 (by decide) (by decide) (by decide) (by decide) (by decide) (by decide) (by decide), f 10 (by decide) (by decide) (by decide) (by decide) (by decide) (by decide) (by decide)]; exact hR.dis
  · intro x hx
    show TolR (A1 11) (A1 12) x (up1 (dTo D) p t x)
    by_cases e : x = p
    · subst e; rw [up1_s]; exact ht
    · rw [up1_n e]
      obtain ⟨g1, g2⟩ := hR.tos x hx
      exact ⟨(h12 x e).trans g1, fun l hl k hk => by have := (hD.2.1 x hx l hl).1; exact (h11 _ (by omega)).trans (g2 l hl k hk)⟩
  · rw [f 13 (by decide) (by decide) (by decide) (by decide) (by decide) (by decide) (by decide)]; exact hR.ags
  · rw [f 14 (by decide) (by decide) (by decide) (by decide) (by decide) (by decide) (by decide)]; exact hR.bys
  · rw [f 15 (by decide) (by decide) (by decide) (by decide) (by decide) (by decide) (by decide)]; exact hR.crs
  · rw [f 16 (by decide) (by decide) (by decide) (by decide) (by decide) (by decide) (by decide)]; exact hR.chs
theorem d_M_look_0 : decode c_M_look 0 = .ok (.aload_n 0, 1) := by decide +kernel
theorem d_M_look_1 : decode c_M_look 1 = .ok (.iload_n 1, 1) := by decide +kernel
theorem d_M_look_2 : decode c_M_look 2 = .ok (.iload_n 2, 1) := by decide +kernel
theorem d_M_look_3 : decode c_M_look 3 = .ok (.invokevirtual 126, 3) := by decide +kernel
theorem d_M_look_6 : decode c_M_look 6 = .ok (.ifCond .ne 88, 3) := by decide +kernel
theorem d_M_look_9 : decode c_M_look 9 = .ok (.aload_n 0, 1) := by decide +kernel
theorem d_M_look_10 : decode c_M_look 10 = .ok (.getfield 35, 3) := by decide +kernel
theorem d_M_look_13 : decode c_M_look 13 = .ok (.iload_n 1, 1) := by decide +kernel
theorem d_M_look_14 : decode c_M_look 14 = .ok (.aload_n 0, 1) := by decide +kernel
theorem d_M_look_15 : decode c_M_look 15 = .ok (.getfield 35, 3) := by decide +kernel
theorem d_M_look_18 : decode c_M_look 18 = .ok (.iload_n 1, 1) := by decide +kernel
theorem d_M_look_19 : decode c_M_look 19 = .ok (.iaload, 1) := by decide +kernel
theorem d_M_look_20 : decode c_M_look 20 = .ok (.iconst 4, 1) := by decide +kernel
theorem d_M_look_21 : decode c_M_look 21 = .ok (.if_icmp .ne 7, 3) := by decide +kernel
theorem d_M_look_24 : decode c_M_look 24 = .ok (.iconst 4, 1) := by decide +kernel
theorem d_M_look_25 : decode c_M_look 25 = .ok (.goto 11, 3) := by decide +kernel
theorem d_M_look_28 : decode c_M_look 28 = .ok (.aload_n 0, 1) := by decide +kernel
theorem d_M_look_29 : decode c_M_look 29 = .ok (.getfield 35, 3) := by decide +kernel
theorem d_M_look_32 : decode c_M_look 32 = .ok (.iload_n 1, 1) := by decide +kernel
theorem d_M_look_33 : decode c_M_look 33 = .ok (.iaload, 1) := by decide +kernel
theorem d_M_look_34 : decode c_M_look 34 = .ok (.iconst 1, 1) := by decide +kernel
theorem d_M_look_35 : decode c_M_look 35 = .ok (.iadd, 1) := by decide +kernel
theorem d_M_look_36 : decode c_M_look 36 = .ok (.iastore, 1) := by decide +kernel
theorem d_M_look_37 : decode c_M_look 37 = .ok (.aload_n 0, 1) := by decide +kernel
theorem d_M_look_38 : decode c_M_look 38 = .ok (.getfield 29, 3) := by decide +kernel
theorem d_M_look_41 : decode c_M_look 41 = .ok (.iload_n 1, 1) := by decide +kernel
theorem d_M_look_42 : decode c_M_look 42 = .ok (.aload_n 0, 1) := by decide +kernel
theorem d_M_look_43 : decode c_M_look 43 = .ok (.getfield 35, 3) := by decide +kernel
theorem d_M_look_46 : decode c_M_look 46 = .ok (.iload_n 1, 1) := by decide +kernel
theorem d_M_look_47 : decode c_M_look 47 = .ok (.iaload, 1) := by decide +kernel
theorem d_M_look_48 : decode c_M_look 48 = .ok (.iconst 4, 1) := by decide +kernel
theorem d_M_look_49 : decode c_M_look 49 = .ok (.if_icmp .ne 7, 3) := by decide +kernel
theorem d_M_look_52 : decode c_M_look 52 = .ok (.iconst 0, 1) := by decide +kernel
theorem d_M_look_53 : decode c_M_look 53 = .ok (.goto 9, 3) := by decide +kernel
theorem d_M_look_56 : decode c_M_look 56 = .ok (.aload_n 0, 1) := by decide +kernel
theorem d_M_look_57 : decode c_M_look 57 = .ok (.getfield 29, 3) := by decide +kernel
theorem d_M_look_60 : decode c_M_look 60 = .ok (.iload_n 1, 1) := by decide +kernel
theorem d_M_look_61 : decode c_M_look 61 = .ok (.iaload, 1) := by decide +kernel
theorem d_M_look_62 : decode c_M_look 62 = .ok (.iastore, 1) := by decide +kernel
theorem d_M_look_63 : decode c_M_look 63 = .ok (.aload_n 0, 1) := by decide +kernel
theorem d_M_look_64 : decode c_M_look 64 = .ok (.getfield 32, 3) := by decide +kernel
theorem d_M_look_67 : decode c_M_look 67 = .ok (.iload_n 1, 1) := by decide +kernel
theorem d_M_look_68 : decode c_M_look 68 = .ok (.aload_n 0, 1) := by decide +kernel
theorem d_M_look_69 : decode c_M_look 69 = .ok (.getfield 32, 3) := by decide +kernel
theorem d_M_look_72 : decode c_M_look 72 = .ok (.iload_n 1, 1) := by decide +kernel
theorem d_M_look_73 : decode c_M_look 73 = .ok (.baload, 1) := by decide +kernel
theorem d_M_look_74 : decode c_M_look 74 = .ok (.ifCond .ne 13, 3) := by decide +kernel
theorem d_M_look_77 : decode c_M_look 77 = .ok (.aload_n 0, 1) := by decide +kernel
theorem d_M_look_78 : decode c_M_look 78 = .ok (.getfield 35, 3) := by decide +kernel
theorem d_M_look_81 : decode c_M_look 81 = .ok (.iload_n 1, 1) := by decide +kernel
theorem d_M_look_82 : decode c_M_look 82 = .ok (.iaload, 1) := by decide +kernel
theorem d_M_look_83 : decode c_M_look 83 = .ok (.iconst 4, 1) := by decide +kernel
theorem d_M_look_84 : decode c_M_look 84 = .ok (.if_icmp .ne 7, 3) := by decide +kernel
theorem d_M_look_87 : decode c_M_look 87 = .ok (.iconst 1, 1) := by decide +kernel
theorem d_M_look_88 : decode c_M_look 88 = .ok (.goto 4, 3) := by decide +kernel
theorem d_M_look_91 : decode c_M_look 91 = .ok (.iconst 0, 1) := by decide +kernel
theorem d_M_look_92 : decode c_M_look 92 = .ok (.bastore, 1) := by decide +kernel
theorem d_M_look_93 : decode c_M_look 93 = .ok (.return_, 1) := by decide +kernel
theorem d_M_look_94 : decode c_M_look 94 = .ok (.aload_n 0, 1) := by decide +kernel
theorem d_M_look_95 : decode c_M_look 95 = .ok (.getfield 16, 3) := by decide +kernel
theorem d_M_look_98 : decode c_M_look 98 = .ok (.iload_n 1, 1) := by decide +kernel
theorem d_M_look_99 : decode c_M_look 99 = .ok (.iaload, 1) := by decide +kernel
theorem d_M_look_100 : decode c_M_look 100 = .ok (.istore_n 3, 1) := by decide +kernel
theorem d_M_look_101 : decode c_M_look 101 = .ok (.aload_n 0, 1) := by decide +kernel
theorem d_M_look_102 : decode c_M_look 102 = .ok (.getfield 35, 3) := by decide +kernel
theorem d_M_look_105 : decode c_M_look 105 = .ok (.iload_n 1, 1) := by decide +kernel
theorem d_M_look_106 : decode c_M_look 106 = .ok (.iconst 0, 1) := by decide +kernel
theorem d_M_look_107 : decode c_M_look 107 = .ok (.iastore, 1) := by decide +kernel
theorem d_M_look_108 : decode c_M_look 108 = .ok (.aload_n 0, 1) := by decide +kernel
theorem d_M_look_109 : decode c_M_look 109 = .ok (.getfield 29, 3) := by decide +kernel
theorem d_M_look_112 : decode c_M_look 112 = .ok (.iload_n 1, 1) := by decide +kernel
theorem d_M_look_113 : decode c_M_look 113 = .ok (.aload_n 0, 1) := by decide +kernel
theorem d_M_look_114 : decode c_M_look 114 = .ok (.getfield 65, 3) := by decide +kernel
theorem d_M_look_117 : decode c_M_look 117 = .ok (.iload_n 3, 1) := by decide +kernel
theorem d_M_look_118 : decode c_M_look 118 = .ok (.iconst 1, 1) := by decide +kernel
theorem d_M_look_119 : decode c_M_look 119 = .ok (.ixor, 1) := by decide +kernel
theorem d_M_look_120 : decode c_M_look 120 = .ok (.iaload, 1) := by decide +kernel
theorem d_M_look_121 : decode c_M_look 121 = .ok (.bipush 24, 2) := by decide +kernel
theorem d_M_look_123 : decode c_M_look 123 = .ok (.if_icmp .ne 8, 3) := by decide +kernel
theorem d_M_look_126 : decode c_M_look 126 = .ok (.bipush 24, 2) := by decide +kernel
theorem d_M_look_128 : decode c_M_look 128 = .ok (.goto 13, 3) := by decide +kernel
theorem d_M_look_131 : decode c_M_look 131 = .ok (.aload_n 0, 1) := by decide +kernel
theorem d_M_look_132 : decode c_M_look 132 = .ok (.getfield 65, 3) := by decide +kernel
theorem d_M_look_135 : decode c_M_look 135 = .ok (.iload_n 3, 1) := by decide +kernel
theorem d_M_look_136 : decode c_M_look 136 = .ok (.iconst 1, 1) := by decide +kernel
theorem d_M_look_137 : decode c_M_look 137 = .ok (.ixor, 1) := by decide +kernel
theorem d_M_look_138 : decode c_M_look 138 = .ok (.iaload, 1) := by decide +kernel
theorem d_M_look_139 : decode c_M_look 139 = .ok (.iconst 1, 1) := by decide +kernel
theorem d_M_look_140 : decode c_M_look 140 = .ok (.iadd, 1) := by decide +kernel
theorem d_M_look_141 : decode c_M_look 141 = .ok (.iastore, 1) := by decide +kernel
theorem d_M_look_142 : decode c_M_look 142 = .ok (.aload_n 0, 1) := by decide +kernel
theorem d_M_look_143 : decode c_M_look 143 = .ok (.getfield 32, 3) := by decide +kernel
theorem d_M_look_146 : decode c_M_look 146 = .ok (.iload_n 1, 1) := by decide +kernel
theorem d_M_look_147 : decode c_M_look 147 = .ok (.aload_n 0, 1) := by decide +kernel
theorem d_M_look_148 : decode c_M_look 148 = .ok (.getfield 68, 3) := by decide +kernel
theorem d_M_look_151 : decode c_M_look 151 = .ok (.iload_n 3, 1) := by decide +kernel
theorem d_M_look_152 : decode c_M_look 152 = .ok (.iconst 1, 1) := by decide +kernel
theorem d_M_look_153 : decode c_M_look 153 = .ok (.ixor, 1) := by decide +kernel
theorem d_M_look_154 : decode c_M_look 154 = .ok (.baload, 1) := by decide +kernel
theorem d_M_look_155 : decode c_M_look 155 = .ok (.bastore, 1) := by decide +kernel
theorem d_M_look_156 : decode c_M_look 156 = .ok (.aload_n 0, 1) := by decide +kernel
theorem d_M_look_157 : decode c_M_look 157 = .ok (.getfield 26, 3) := by decide +kernel
theorem d_M_look_160 : decode c_M_look 160 = .ok (.bipush 24, 2) := by decide +kernel
theorem d_M_look_162 : decode c_M_look 162 = .ok (.iload_n 1, 1) := by decide +kernel
theorem d_M_look_163 : decode c_M_look 163 = .ok (.imul, 1) := by decide +kernel
theorem d_M_look_164 : decode c_M_look 164 = .ok (.iload_n 3, 1) := by decide +kernel
theorem d_M_look_165 : decode c_M_look 165 = .ok (.iastore, 1) := by decide +kernel
theorem d_M_look_166 : decode c_M_look 166 = .ok (.iconst 1, 1) := by decide +kernel
theorem d_M_look_167 : decode c_M_look 167 = .ok (.istore 4, 2) := by decide +kernel
theorem d_M_look_169 : decode c_M_look 169 = .ok (.iload 4, 2) := by decide +kernel
theorem d_M_look_171 : decode c_M_look 171 = .ok (.aload_n 0, 1) := by decide +kernel
theorem d_M_look_172 : decode c_M_look 172 = .ok (.getfield 29, 3) := by decide +kernel
theorem d_M_look_175 : decode c_M_look 175 = .ok (.iload_n 1, 1) := by decide +kernel
theorem d_M_look_176 : decode c_M_look 176 = .ok (.iaload, 1) := by decide +kernel
theorem d_M_look_177 : decode c_M_look 177 = .ok (.if_icmp .ge 37, 3) := by decide +kernel
theorem d_M_look_180 : decode c_M_look 180 = .ok (.aload_n 0, 1) := by decide +kernel
theorem d_M_look_181 : decode c_M_look 181 = .ok (.getfield 26, 3) := by decide +kernel
theorem d_M_look_184 : decode c_M_look 184 = .ok (.bipush 24, 2) := by decide +kernel
theorem d_M_look_186 : decode c_M_look 186 = .ok (.iload_n 1, 1) := by decide +kernel
theorem d_M_look_187 : decode c_M_look 187 = .ok (.imul, 1) := by decide +kernel
theorem d_M_look_188 : decode c_M_look 188 = .ok (.iload 4, 2) := by decide +kernel
theorem d_M_look_190 : decode c_M_look 190 = .ok (.iadd, 1) := by decide +kernel
theorem d_M_look_191 : decode c_M_look 191 = .ok (.aload_n 0, 1) := by decide +kernel
theorem d_M_look_192 : decode c_M_look 192 = .ok (.getfield 62, 3) := by decide +kernel
theorem d_M_look_195 : decode c_M_look 195 = .ok (.bipush 24, 2) := by decide +kernel
theorem d_M_look_197 : decode c_M_look 197 = .ok (.iload_n 3, 1) := by decide +kernel
theorem d_M_look_198 : decode c_M_look 198 = .ok (.iconst 1, 1) := by decide +kernel
theorem d_M_look_199 : decode c_M_look 199 = .ok (.ixor, 1) := by decide +kernel
theorem d_M_look_200 : decode c_M_look 200 = .ok (.imul, 1) := by decide +kernel
theorem d_M_look_201 : decode c_M_look 201 = .ok (.iload 4, 2) := by decide +kernel
theorem d_M_look_203 : decode c_M_look 203 = .ok (.iadd, 1) := by decide +kernel
theorem d_M_look_204 : decode c_M_look 204 = .ok (.iconst 1, 1) := by decide +kernel
theorem d_M_look_205 : decode c_M_look 205 = .ok (.isub, 1) := by decide +kernel
theorem d_M_look_206 : decode c_M_look 206 = .ok (.iaload, 1) := by decide +kernel
theorem d_M_look_207 : decode c_M_look 207 = .ok (.iastore, 1) := by decide +kernel
theorem d_M_look_208 : decode c_M_look 208 = .ok (.iinc 4 1, 3) := by decide +kernel
theorem d_M_look_211 : decode c_M_look 211 = .ok (.goto (-42), 3) := by decide +kernel
theorem d_M_look_214 : decode c_M_look 214 = .ok (.aload_n 0, 1) := by decide +kernel
theorem d_M_look_215 : decode c_M_look 215 = .ok (.getfield 47, 3) := by decide +kernel
theorem d_M_look_218 : decode c_M_look 218 = .ok (.iload_n 1, 1) := by decide +kernel
theorem d_M_look_219 : decode c_M_look 219 = .ok (.aload_n 0, 1) := by decide +kernel
theorem d_M_look_220 : decode c_M_look 220 = .ok (.getfield 74, 3) := by decide +kernel
theorem d_M_look_223 : decode c_M_look 223 = .ok (.iload_n 3, 1) := by decide +kernel
theorem d_M_look_224 : decode c_M_look 224 = .ok (.iconst 2, 1) := by decide +kernel
theorem d_M_look_225 : decode c_M_look 225 = .ok (.idiv, 1) := by decide +kernel
theorem d_M_look_226 : decode c_M_look 226 = .ok (.iaload, 1) := by decide +kernel
theorem d_M_look_227 : decode c_M_look 227 = .ok (.iastore, 1) := by decide +kernel
theorem d_M_look_228 : decode c_M_look 228 = .ok (.iconst 0, 1) := by decide +kernel
theorem d_M_look_229 : decode c_M_look 229 = .ok (.istore 4, 2) := by decide +kernel
theorem d_M_look_231 : decode c_M_look 231 = .ok (.iload 4, 2) := by decide +kernel
theorem d_M_look_233 : decode c_M_look 233 = .ok (.aload_n 0, 1) := by decide +kernel
theorem d_M_look_234 : decode c_M_look 234 = .ok (.getfield 74, 3) := by decide +kernel
theorem d_M_look_237 : decode c_M_look 237 = .ok (.iload_n 3, 1) := by decide +kernel
theorem d_M_look_238 : decode c_M_look 238 = .ok (.iconst 2, 1) := by decide +kernel
theorem d_M_look_239 : decode c_M_look 239 = .ok (.idiv, 1) := by decide +kernel
theorem d_M_look_240 : decode c_M_look 240 = .ok (.iaload, 1) := by decide +kernel
theorem d_M_look_241 : decode c_M_look 241 = .ok (.if_icmp .ge 35, 3) := by decide +kernel
theorem d_M_look_244 : decode c_M_look 244 = .ok (.aload_n 0, 1) := by decide +kernel
theorem d_M_look_245 : decode c_M_look 245 = .ok (.getfield 44, 3) := by decide +kernel
theorem d_M_look_248 : decode c_M_look 248 = .ok (.bipush 24, 2) := by decide +kernel
theorem d_M_look_250 : decode c_M_look 250 = .ok (.iload_n 1, 1) := by decide +kernel
theorem d_M_look_251 : decode c_M_look 251 = .ok (.imul, 1) := by decide +kernel
theorem d_M_look_252 : decode c_M_look 252 = .ok (.iload 4, 2) := by decide +kernel
theorem d_M_look_254 : decode c_M_look 254 = .ok (.iadd, 1) := by decide +kernel
theorem d_M_look_255 : decode c_M_look 255 = .ok (.aload_n 0, 1) := by decide +kernel
theorem d_M_look_256 : decode c_M_look 256 = .ok (.getfield 71, 3) := by decide +kernel
theorem d_M_look_259 : decode c_M_look 259 = .ok (.bipush 24, 2) := by decide +kernel
theorem d_M_look_261 : decode c_M_look 261 = .ok (.iload_n 3, 1) := by decide +kernel
theorem d_M_look_262 : decode c_M_look 262 = .ok (.iconst 2, 1) := by decide +kernel
theorem d_M_look_263 : decode c_M_look 263 = .ok (.idiv, 1) := by decide +kernel
theorem d_M_look_264 : decode c_M_look 264 = .ok (.imul, 1) := by decide +kernel
theorem d_M_look_265 : decode c_M_look 265 = .ok (.iload 4, 2) := by decide +kernel
theorem d_M_look_267 : decode c_M_look 267 = .ok (.iadd, 1) := by decide +kernel
theorem d_M_look_268 : decode c_M_look 268 = .ok (.iaload, 1) := by decide +kernel
theorem d_M_look_269 : decode c_M_look 269 = .ok (.iastore, 1) := by decide +kernel
theorem d_M_look_270 : decode c_M_look 270 = .ok (.iinc 4 1, 3) := by decide +kernel
theorem d_M_look_273 : decode c_M_look 273 = .ok (.goto (-42), 3) := by decide +kernel
theorem d_M_look_276 : decode c_M_look 276 = .ok (.return_, 1) := by decide +kernel
set_option maxRecDepth 20000 in
set_option maxHeartbeats 4000000 in
theorem l_M_look1 {E : kx_E} {w0 : va_W} {ma : Nat → Nat} {F : Nat → Int32} {B : Nat → Nat → Int32} {p q : Nat} (hp : p < 48) (hq : q < 48) {l : List Nat} (hl24 : l.length ≤ 24) (hl : B 6 p = nI l.length) (hs : ∀ k, 1 ≤ k → k < l.length → B 17 (24 * (q ^^^ 1) + k - 1) = nI (l.getD k 0)) {z : kx_Z} {Q : kx_O → va_W → Prop}
    (hQ : ∀ w A, Mdl E w ma F A → kx_off w0 w mdlN → (∀ j, j ≠ 5 → A j = B j) → (∀ i, (i < 24 * p ∨ 24 * p + 24 ≤ i) → A 5 i = B 5 i) → (∀ i, i < l.length → A 5 (24 * p + i) = nI (l.getD i 0)) → kx_R E Y_M_look z 214 [(0, .ref (ma 0)), (1, .int (nI p)), (3, .int (nI q))] [] w 0 0 Q) :
    ∀ (m k : Nat) (w : va_W) (A : Nat → Nat → Int32), m + k = l.length → 1 ≤ k → Mdl E w ma F A → kx_off w0 w mdlN → (∀ j, j ≠ 5 → A j = B j) → (∀ i, (i < 24 * p ∨ 24 * p + 24 ≤ i) → A 5 i = B 5 i) → (∀ i, i < k → A 5 (24 * p + i) = nI (l.getD i 0)) → kx_R E Y_M_look z 169 [(0, .ref (ma 0)), (1, .int (nI p)), (3, .int (nI q)), (4, .int (nI k))] [] w 0 0 Q := by
  have hx1 := x1_lt (n := 24) (x := q) (by omega)
  intro m
  induction m with
  | zero =>
    intro k w A hk hk0 hM hO hA hB hr
    have hk : k = l.length := by omega
    subst hk
    have hQ9 := hQ w A hM hO hA hB hr
    have hlen : A 6 p = nI l.length := by rw [hA 6 (by decide)]; exact hl
    clear hr hB
    refine kx_iload d_M_look_169 rfl ?_
    refine kx_aload_n d_M_look_171 rfl (by first | rfl | exact kx_rf _) ?_
    refine kx_get _ d_M_look_172 f_M_29 hM.1 (by rfl) ?_
    refine kx_iload_n d_M_look_175 rfl ?_
    refine kx_iald d_M_look_176 hM.a6 (by omega) (by decide) ?_
    rw [hlen]
    first | refine kx_icmp_ge_n 214 d_M_look_177 (by decide) (by omega) (by omega) ?_ ?_ | refine kx_icmp_ge 214 d_M_look_177 (by decide) ?_ ?_
    · intro h177
      exact kx_loc (L1 := [(0, .ref (ma 0)), (1, .int (nI p)), (3, .int (nI q))]) ⟨rfl, rfl, rfl, trivial⟩ hQ9
    · intro h177
      exact absurd h177 (by omega)
  | succ m ih =>
    intro k w A hk hk0 hM hO hA hB hr
    have hkl : k < l.length := by omega
    have hlen : A 6 p = nI l.length := by rw [hA 6 (by decide)]; exact hl
    have hv : A 17 (24 * (q ^^^ 1) + k - 1) = nI (l.getD k 0) := by rw [hA 17 (by decide)]; exact hs k hk0 hkl
    have g1 : ∀ i, i < k + 1 → up1 A 5 (upd (A 5) (24 * p + k) (nI (l.getD k 0))) 5 (24 * p + i) = nI (l.getD i 0) := fun i hi => by
      rw [up1_s]
      by_cases e : i = k
      · subst e; rw [upd_s]
      · rw [upd_n (by omega)]; exact hr i (by omega)
    have g2 : ∀ i, (i < 24 * p ∨ 24 * p + 24 ≤ i) → up1 A 5 (upd (A 5) (24 * p + k) (nI (l.getD k 0))) 5 i = B 5 i := fun i hi => by rw [up1_s, upd_n (by omega)]; exact hB i hi
    have g3 : ∀ f, ∀ j, j ≠ 5 → up1 A 5 f j = B j := fun f j hj => by rw [up1_n hj]; exact hA j hj
    have hih := fun w => ih (k + 1) w (up1 A 5 (upd (A 5) (24 * p + k) (nI (l.getD k 0)))) (by omega) (by omega)
    clear hr hB ih
    refine kx_iload d_M_look_169 rfl ?_
    refine kx_aload_n d_M_look_171 rfl (by first | rfl | exact kx_rf _) ?_
    refine kx_get _ d_M_look_172 f_M_29 hM.1 (by rfl) ?_
    refine kx_iload_n d_M_look_175 rfl ?_
    refine kx_iald d_M_look_176 hM.a6 (by omega) (by decide) ?_
    rw [hlen]
    first | refine kx_icmp_ge_n 214 d_M_look_177 (by decide) (by omega) (by omega) ?_ ?_ | refine kx_icmp_ge 214 d_M_look_177 (by decide) ?_ ?_
    · intro h177
      exact absurd h177 (by omega)
    · intro h177
      refine kx_aload_n d_M_look_180 rfl (by first | rfl | exact kx_rf _) ?_
      refine kx_get _ d_M_look_181 f_M_26 hM.1 (by rfl) ?_
      refine kx_bipush (nI 24) d_M_look_184 (by decide) ?_
      refine kx_iload_n d_M_look_186 rfl ?_
      first | refine kx_imul _ d_M_look_187 (pk_mul _ _) ?_ | refine kx_imul _ d_M_look_187 rfl ?_
      refine kx_iload d_M_look_188 rfl ?_
      first | refine kx_iadd _ d_M_look_190 (nI_add _ _) ?_ | refine kx_iadd _ d_M_look_190 rfl ?_
      refine kx_aload_n d_M_look_191 rfl (by first | rfl | exact kx_rf _) ?_
      refine kx_get _ d_M_look_192 f_M_62 hM.1 (by rfl) ?_
      refine kx_bipush (nI 24) d_M_look_195 (by decide) ?_
      refine kx_iload_n d_M_look_197 rfl ?_
      refine kx_iconst (nI 1) d_M_look_198 (by decide) ?_
      refine kx_ixor _ d_M_look_199 (kx_xor _ _) ?_
      first | refine kx_imul _ d_M_look_200 (pk_mul _ _) ?_ | refine kx_imul _ d_M_look_200 rfl ?_
      refine kx_iload d_M_look_201 rfl ?_
      first | refine kx_iadd _ d_M_look_203 (nI_add _ _) ?_ | refine kx_iadd _ d_M_look_203 rfl ?_
      refine kx_iconst (nI 1) d_M_look_204 (by decide) ?_
      refine kx_isub _ d_M_look_205 (pk_sub (by omega)) ?_
      refine kx_iald d_M_look_206 hM.a17 (by omega) (by decide) ?_
      rw [hv]
      refine mA_put (j := 5) d_M_look_207 hM hO (by decide) (len := 1152) rfl (by decide) (by omega) (fun w hM hO => ?_)
      refine kx_iinc _ d_M_look_208 rfl (by decide) (nI_1 _) ?_
      refine kx_goto 169 d_M_look_211 (by decide) ?_
      refine kx_loc (L1 := [(0, .ref (ma 0)), (1, .int (nI p)), (3, .int (nI q)), (4, .int (nI (k + 1)))]) ⟨rfl, rfl, rfl, rfl, trivial⟩ ?_
      exact hih w hM hO (g3 _) g2 g1
set_option maxRecDepth 20000 in
set_option maxHeartbeats 4000000 in
theorem l_M_look2 {E : kx_E} {w0 : va_W} {ma : Nat → Nat} {F : Nat → Int32} {B : Nat → Nat → Int32} {p q : Nat} (hp : p < 48) (hq : q < 48) {l : List Nat} (hl24 : l.length ≤ 24) (hl : B 21 (q / 2) = nI l.length) (hs : ∀ k, 0 ≤ k → k < l.length → B 20 (24 * (q / 2) + k) = nI (l.getD k 0)) {z : kx_Z} {Q : kx_O → va_W → Prop}
    (hQ : ∀ w A, Mdl E w ma F A → kx_off w0 w mdlN → (∀ j, j ≠ 11 → A j = B j) → (∀ i, (i < 24 * p ∨ 24 * p + 24 ≤ i) → A 11 i = B 11 i) → (∀ i, i < l.length → A 11 (24 * p + i) = nI (l.getD i 0)) → kx_R E Y_M_look z 276 [(0, .ref (ma 0)), (1, .int (nI p)), (3, .int (nI q))] [] w 0 0 Q) :
    ∀ (m k : Nat) (w : va_W) (A : Nat → Nat → Int32), m + k = l.length → 0 ≤ k → Mdl E w ma F A → kx_off w0 w mdlN → (∀ j, j ≠ 11 → A j = B j) → (∀ i, (i < 24 * p ∨ 24 * p + 24 ≤ i) → A 11 i = B 11 i) → (∀ i, i < k → A 11 (24 * p + i) = nI (l.getD i 0)) → kx_R E Y_M_look z 231 [(0, .ref (ma 0)), (1, .int (nI p)), (3, .int (nI q)), (4, .int (nI k))] [] w 0 0 Q := by
  have hx1 := x1_lt (n := 24) (x := q) (by omega)
  intro m
  induction m with
  | zero =>
    intro k w A hk hk0 hM hO hA hB hr
    have hk : k = l.length := by omega
    subst hk
    have hQ9 := hQ w A hM hO hA hB hr
    have hlen : A 21 (q / 2) = nI l.length := by rw [hA 21 (by decide)]; exact hl
    clear hr hB
    refine kx_iload d_M_look_231 rfl ?_
    refine kx_aload_n d_M_look_233 rfl (by first | rfl | exact kx_rf _) ?_
    refine kx_get _ d_M_look_234 f_M_74 hM.1 (by rfl) ?_
    refine kx_iload_n d_M_look_237 rfl ?_
    refine kx_iconst (nI 2) d_M_look_238 (by decide) ?_
    refine kx_idiv _ d_M_look_239 (by decide) (pk_div (by omega) (by omega) (by omega)) ?_
    refine kx_iald d_M_look_240 hM.a21 (by omega) (by decide) ?_
    rw [hlen]
    first | refine kx_icmp_ge_n 276 d_M_look_241 (by decide) (by omega) (by omega) ?_ ?_ | refine kx_icmp_ge 276 d_M_look_241 (by decide) ?_ ?_
    · intro h241
      exact kx_loc (L1 := [(0, .ref (ma 0)), (1, .int (nI p)), (3, .int (nI q))]) ⟨rfl, rfl, rfl, trivial⟩ hQ9
    · intro h241
      exact absurd h241 (by omega)
  | succ m ih =>
    intro k w A hk hk0 hM hO hA hB hr
    have hkl : k < l.length := by omega
    have hlen : A 21 (q / 2) = nI l.length := by rw [hA 21 (by decide)]; exact hl
    have hv : A 20 (24 * (q / 2) + k) = nI (l.getD k 0) := by rw [hA 20 (by decide)]; exact hs k hk0 hkl
    have g1 : ∀ i, i < k + 1 → up1 A 11 (upd (A 11) (24 * p + k) (nI (l.getD k 0))) 11 (24 * p + i) = nI (l.getD i 0) := fun i hi => by
      rw [up1_s]
      by_cases e : i = k
      · subst e; rw [upd_s]
      · rw [upd_n (by omega)]; exact hr i (by omega)
    have g2 : ∀ i, (i < 24 * p ∨ 24 * p + 24 ≤ i) → up1 A 11 (upd (A 11) (24 * p + k) (nI (l.getD k 0))) 11 i = B 11 i := fun i hi => by rw [up1_s, upd_n (by omega)]; exact hB i hi
    have g3 : ∀ f, ∀ j, j ≠ 11 → up1 A 11 f j = B j := fun f j hj => by rw [up1_n hj]; exact hA j hj
    have hih := fun w => ih (k + 1) w (up1 A 11 (upd (A 11) (24 * p + k) (nI (l.getD k 0)))) (by omega) (by omega)
    clear hr hB ih
    refine kx_iload d_M_look_231 rfl ?_
    refine kx_aload_n d_M_look_233 rfl (by first | rfl | exact kx_rf _) ?_
    refine kx_get _ d_M_look_234 f_M_74 hM.1 (by rfl) ?_
    refine kx_iload_n d_M_look_237 rfl ?_
    refine kx_iconst (nI 2) d_M_look_238 (by decide) ?_
    refine kx_idiv _ d_M_look_239 (by decide) (pk_div (by omega) (by omega) (by omega)) ?_
    refine kx_iald d_M_look_240 hM.a21 (by omega) (by decide) ?_
    rw [hlen]
    first | refine kx_icmp_ge_n 276 d_M_look_241 (by decide) (by omega) (by omega) ?_ ?_ | refine kx_icmp_ge 276 d_M_look_241 (by decide) ?_ ?_
    · intro h241
      exact absurd h241 (by omega)
    · intro h241
      refine kx_aload_n d_M_look_244 rfl (by first | rfl | exact kx_rf _) ?_
      refine kx_get _ d_M_look_245 f_M_44 hM.1 (by rfl) ?_
      refine kx_bipush (nI 24) d_M_look_248 (by decide) ?_
      refine kx_iload_n d_M_look_250 rfl ?_
      first | refine kx_imul _ d_M_look_251 (pk_mul _ _) ?_ | refine kx_imul _ d_M_look_251 rfl ?_
      refine kx_iload d_M_look_252 rfl ?_
      first | refine kx_iadd _ d_M_look_254 (nI_add _ _) ?_ | refine kx_iadd _ d_M_look_254 rfl ?_
      refine kx_aload_n d_M_look_255 rfl (by first | rfl | exact kx_rf _) ?_
      refine kx_get _ d_M_look_256 f_M_71 hM.1 (by rfl) ?_
      refine kx_bipush (nI 24) d_M_look_259 (by decide) ?_
      refine kx_iload_n d_M_look_261 rfl ?_
      refine kx_iconst (nI 2) d_M_look_262 (by decide) ?_
      refine kx_idiv _ d_M_look_263 (by decide) (pk_div (by omega) (by omega) (by omega)) ?_
      first | refine kx_imul _ d_M_look_264 (pk_mul _ _) ?_ | refine kx_imul _ d_M_look_264 rfl ?_
      refine kx_iload d_M_look_265 rfl ?_
      first | refine kx_iadd _ d_M_look_267 (nI_add _ _) ?_ | refine kx_iadd _ d_M_look_267 rfl ?_
      refine kx_iald d_M_look_268 hM.a20 (by omega) (by decide) ?_
      rw [hv]
      refine mA_put (j := 11) d_M_look_269 hM hO (by decide) (len := 1152) rfl (by decide) (by omega) (fun w hM hO => ?_)
      refine kx_iinc _ d_M_look_270 rfl (by decide) (nI_1 _) ?_
      refine kx_goto 231 d_M_look_273 (by decide) ?_
      refine kx_loc (L1 := [(0, .ref (ma 0)), (1, .int (nI p)), (3, .int (nI q)), (4, .int (nI (k + 1)))]) ⟨rfl, rfl, rfl, rfl, trivial⟩ ?_
      exact hih w hM hO (g3 _) g2 g1
