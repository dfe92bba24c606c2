/-! Car: frames, draft, directory -/
def fillL (L : Nat → List Nat) (c e : Nat) : Nat → List Nat := up1 (up1 L (e + 5 + 1) (L (opp e + 1))) (e + 5 + 3) (L (carB c + 26))
def fillS (S : Nat → Nat → Int32) (e : Nat) : Nat → Nat → Int32 := up2 (up2 S (e + 5) 4 (S e 0)) (e + 5) 5 (S (opp e) 7)
def fillA (A G : Nat → Int32) (own : Int32) (num m : Nat) : Nat → Int32 := fun i => if i + 1 = num then own else if i < m then A i else G i
def fillV (L : Nat → List Nat) (V : Nat → Nat → Int32) (own : Int32) (num c e : Nat) : Nat → Nat → Int32 := up1 (up1 V (e + 5 + 5) (fillA (V (carB c + 30)) (V (e + 5 + 5)) (nI 0) num (L (carB c + 26)).length)) (e + 5 + 6) (fillA (V (carB c + 31)) (V (e + 5 + 6)) own num (L (carB c + 26)).length)
theorem fillA_s {A G : Nat → Int32} {own : Int32} {num m : Nat} (h : 0 < num) : upd (fun i => if i < m then A i else G i) (num - 1) own = fillA A G own num m := by
  funext i
  unfold fillA
  by_cases e : i = num - 1
  · rw [e, pk_us, if_pos (by omega)]
  · rw [pk_un e]
    exact (if_neg (show ¬ i + 1 = num by omega)).symm
theorem fillA_0 {A G : Nat → Int32} {own : Int32} {m : Nat} : (fun i => if i < m then A i else G i) = fillA A G own 0 m := by
  funext i
  unfold fillA
  exact (if_neg (show ¬ i + 1 = 0 by omega)).symm
theorem d_C_fillFrame_0 : decode c_C_fillFrame 0 = .ok (.aload_n 1, 1) := by decide +kernel
theorem d_C_fillFrame_1 : decode c_C_fillFrame 1 = .ok (.getfield 115, 3) := by decide +kernel
theorem d_C_fillFrame_4 : decode c_C_fillFrame 4 = .ok (.astore_n 2, 1) := by decide +kernel
theorem d_C_fillFrame_5 : decode c_C_fillFrame 5 = .ok (.aload_n 2, 1) := by decide +kernel
theorem d_C_fillFrame_6 : decode c_C_fillFrame 6 = .ok (.aload_n 1, 1) := by decide +kernel
theorem d_C_fillFrame_7 : decode c_C_fillFrame 7 = .ok (.getfield 119, 3) := by decide +kernel
theorem d_C_fillFrame_10 : decode c_C_fillFrame 10 = .ok (.putfield 122, 3) := by decide +kernel
theorem d_C_fillFrame_13 : decode c_C_fillFrame 13 = .ok (.aload_n 2, 1) := by decide +kernel
theorem d_C_fillFrame_14 : decode c_C_fillFrame 14 = .ok (.getfield 127, 3) := by decide +kernel
theorem d_C_fillFrame_17 : decode c_C_fillFrame 17 = .ok (.aload_n 1, 1) := by decide +kernel
theorem d_C_fillFrame_18 : decode c_C_fillFrame 18 = .ok (.getfield 27, 3) := by decide +kernel
theorem d_C_fillFrame_21 : decode c_C_fillFrame 21 = .ok (.getfield 90, 3) := by decide +kernel
theorem d_C_fillFrame_24 : decode c_C_fillFrame 24 = .ok (.invokevirtual 128, 3) := by decide +kernel
theorem d_C_fillFrame_27 : decode c_C_fillFrame 27 = .ok (.aload_n 2, 1) := by decide +kernel
theorem d_C_fillFrame_28 : decode c_C_fillFrame 28 = .ok (.aload_n 1, 1) := by decide +kernel
theorem d_C_fillFrame_29 : decode c_C_fillFrame 29 = .ok (.getfield 27, 3) := by decide +kernel
theorem d_C_fillFrame_32 : decode c_C_fillFrame 32 = .ok (.getfield 93, 3) := by decide +kernel
theorem d_C_fillFrame_35 : decode c_C_fillFrame 35 = .ok (.putfield 132, 3) := by decide +kernel
theorem d_C_fillFrame_38 : decode c_C_fillFrame 38 = .ok (.aload_n 2, 1) := by decide +kernel
theorem d_C_fillFrame_39 : decode c_C_fillFrame 39 = .ok (.getfield 133, 3) := by decide +kernel
theorem d_C_fillFrame_42 : decode c_C_fillFrame 42 = .ok (.aload_n 0, 1) := by decide +kernel
theorem d_C_fillFrame_43 : decode c_C_fillFrame 43 = .ok (.getfield 34, 3) := by decide +kernel
theorem d_C_fillFrame_46 : decode c_C_fillFrame 46 = .ok (.invokevirtual 128, 3) := by decide +kernel
theorem d_C_fillFrame_49 : decode c_C_fillFrame 49 = .ok (.aload_n 0, 1) := by decide +kernel
theorem d_C_fillFrame_50 : decode c_C_fillFrame 50 = .ok (.getfield 41, 3) := by decide +kernel
theorem d_C_fillFrame_53 : decode c_C_fillFrame 53 = .ok (.iconst 0, 1) := by decide +kernel
theorem d_C_fillFrame_54 : decode c_C_fillFrame 54 = .ok (.aload_n 2, 1) := by decide +kernel
theorem d_C_fillFrame_55 : decode c_C_fillFrame 55 = .ok (.getfield 134, 3) := by decide +kernel
theorem d_C_fillFrame_58 : decode c_C_fillFrame 58 = .ok (.iconst 0, 1) := by decide +kernel
theorem d_C_fillFrame_59 : decode c_C_fillFrame 59 = .ok (.aload_n 0, 1) := by decide +kernel
theorem d_C_fillFrame_60 : decode c_C_fillFrame 60 = .ok (.getfield 34, 3) := by decide +kernel
theorem d_C_fillFrame_63 : decode c_C_fillFrame 63 = .ok (.getfield 76, 3) := by decide +kernel
theorem d_C_fillFrame_66 : decode c_C_fillFrame 66 = .ok (.invokestatic 135, 3) := by decide +kernel
theorem d_C_fillFrame_69 : decode c_C_fillFrame 69 = .ok (.aload_n 0, 1) := by decide +kernel
theorem d_C_fillFrame_70 : decode c_C_fillFrame 70 = .ok (.getfield 45, 3) := by decide +kernel
theorem d_C_fillFrame_73 : decode c_C_fillFrame 73 = .ok (.iconst 0, 1) := by decide +kernel
theorem d_C_fillFrame_74 : decode c_C_fillFrame 74 = .ok (.aload_n 2, 1) := by decide +kernel
theorem d_C_fillFrame_75 : decode c_C_fillFrame 75 = .ok (.getfield 141, 3) := by decide +kernel
theorem d_C_fillFrame_78 : decode c_C_fillFrame 78 = .ok (.iconst 0, 1) := by decide +kernel
theorem d_C_fillFrame_79 : decode c_C_fillFrame 79 = .ok (.aload_n 0, 1) := by decide +kernel
theorem d_C_fillFrame_80 : decode c_C_fillFrame 80 = .ok (.getfield 34, 3) := by decide +kernel
theorem d_C_fillFrame_83 : decode c_C_fillFrame 83 = .ok (.getfield 76, 3) := by decide +kernel
theorem d_C_fillFrame_86 : decode c_C_fillFrame 86 = .ok (.invokestatic 135, 3) := by decide +kernel
theorem d_C_fillFrame_89 : decode c_C_fillFrame 89 = .ok (.aload_n 0, 1) := by decide +kernel
theorem d_C_fillFrame_90 : decode c_C_fillFrame 90 = .ok (.getfield 60, 3) := by decide +kernel
theorem d_C_fillFrame_93 : decode c_C_fillFrame 93 = .ok (.ifCond .le 30, 3) := by decide +kernel
theorem d_C_fillFrame_96 : decode c_C_fillFrame 96 = .ok (.aload_n 2, 1) := by decide +kernel
theorem d_C_fillFrame_97 : decode c_C_fillFrame 97 = .ok (.getfield 134, 3) := by decide +kernel
theorem d_C_fillFrame_100 : decode c_C_fillFrame 100 = .ok (.aload_n 0, 1) := by decide +kernel
theorem d_C_fillFrame_101 : decode c_C_fillFrame 101 = .ok (.getfield 60, 3) := by decide +kernel
theorem d_C_fillFrame_104 : decode c_C_fillFrame 104 = .ok (.iconst 1, 1) := by decide +kernel
theorem d_C_fillFrame_105 : decode c_C_fillFrame 105 = .ok (.isub, 1) := by decide +kernel
theorem d_C_fillFrame_106 : decode c_C_fillFrame 106 = .ok (.iconst 0, 1) := by decide +kernel
theorem d_C_fillFrame_107 : decode c_C_fillFrame 107 = .ok (.iastore, 1) := by decide +kernel
theorem d_C_fillFrame_108 : decode c_C_fillFrame 108 = .ok (.aload_n 2, 1) := by decide +kernel
theorem d_C_fillFrame_109 : decode c_C_fillFrame 109 = .ok (.getfield 141, 3) := by decide +kernel
theorem d_C_fillFrame_112 : decode c_C_fillFrame 112 = .ok (.aload_n 0, 1) := by decide +kernel
theorem d_C_fillFrame_113 : decode c_C_fillFrame 113 = .ok (.getfield 60, 3) := by decide +kernel
theorem d_C_fillFrame_116 : decode c_C_fillFrame 116 = .ok (.iconst 1, 1) := by decide +kernel
theorem d_C_fillFrame_117 : decode c_C_fillFrame 117 = .ok (.isub, 1) := by decide +kernel
theorem d_C_fillFrame_118 : decode c_C_fillFrame 118 = .ok (.aload_n 0, 1) := by decide +kernel
theorem d_C_fillFrame_119 : decode c_C_fillFrame 119 = .ok (.getfield 69, 3) := by decide +kernel
theorem d_C_fillFrame_122 : decode c_C_fillFrame 122 = .ok (.iastore, 1) := by decide +kernel
theorem d_C_fillFrame_123 : decode c_C_fillFrame 123 = .ok (.return_, 1) := by decide +kernel
set_option maxRecDepth 20000 in
set_option maxHeartbeats 2000000 in
theorem m_C_fillFrame {E : kx_E} {w : va_W} {n : Nat} {ad : Nat → Nat} {L : Nat → List Nat} {V S : Nat → Nat → Int32} {pe bi : Nat → Option Nat} (hC : Cls E w n ad L V S pe bi) {c e num : Nat} (hc : c < n) (he : endN n e) (hn : S (carB c) 7 = nI num) (h24 : num ≤ 24) (hw : S (opp e) 7 = nI 0 ∨ S (opp e) 7 = nI 1) : kx_S E Y_C_fillFrame [.ref (ad (carB c)), .ref (ad e)] w (CQ E w n ad (fillL L c e) (fillV L V (S (carB c) 8) num c e) (fillS S e) pe bi none) := by
  refine kx_go (by decide) rfl rfl (Nat.le_of_ble_eq_true rfl) (kx_cc rfl (kx_cc rfl kx_c0)) (fun z => ?_)
  have hO : kx_off w w clsN := kx_off.rf
  have hl := (hC.row _ (rowN_26 hc)).2.2.1
  have ho := oppN he
  have n1 : opp e ≠ e + 5 := by unfold endN at he ho; omega
  have n2 : e + 5 + 1 ≠ opp e + 1 := by unfold endN at he ho; omega
  have n3 : e + 5 + 3 ≠ carB c + 26 := by unfold endN at he; simp only [carB]; omega
  have n4 : carB c + 26 ≠ e + 5 + 1 := by unfold endN at he; simp only [carB]; omega
  have n5 : carB c + 30 ≠ e + 5 + 5 := by unfold endN at he; simp only [carB]; omega
  have n6 : carB c + 31 ≠ e + 5 + 5 := by unfold endN at he; simp only [carB]; omega
  have n7 : carB c ≠ e + 5 := by unfold endN at he; simp only [carB]; omega
  have n8 : carB c + 26 ≠ e + 5 + 3 := Ne.symm n3
  refine kx_aload_n d_C_fillFrame_0 rfl (by first | rfl | exact kx_rf _) ?_
  refine kx_get _ d_C_fillFrame_1 f_C_115 (hC.endAt he) (by rfl) ?_
  refine kx_astore_n d_C_fillFrame_4 (by decide) (by first | rfl | exact kx_rf _) ?_
  refine kx_aload_n d_C_fillFrame_5 rfl (by first | rfl | exact kx_rf _) ?_
  refine kx_aload_n d_C_fillFrame_6 rfl (by first | rfl | exact kx_rf _) ?_
  refine kx_get _ d_C_fillFrame_7 f_C_119 (hC.endAt he) (by rfl) ?_
  refine cF_put4 d_C_fillFrame_10 f_C_122 (p_F_4 _) hC hO he (fun w hC hO => ?_)
  refine kx_aload_n d_C_fillFrame_13 rfl (by first | rfl | exact kx_rf _) ?_
  refine kx_get _ d_C_fillFrame_14 f_C_127 (hC.frm e he) (by rfl) ?_
  refine kx_aload_n d_C_fillFrame_17 rfl (by first | rfl | exact kx_rf _) ?_
  refine kx_get _ d_C_fillFrame_18 f_C_27 (hC.endAt he) (by rfl) ?_
  refine kx_get _ d_C_fillFrame_21 f_C_90 (hC.endAt (oppN he)) (by rfl) ?_
  refine cR_copyFrom d_C_fillFrame_24 v_C_128 hC hO (rowN_e6 he) (rowN_e1 ho) n2 (by decide) (Nat.le_of_ble_eq_true rfl) (by decide) (by decide) (fun w hC hO => ?_)
  refine kx_aload_n d_C_fillFrame_27 rfl (by first | rfl | exact kx_rf _) ?_
  refine kx_aload_n d_C_fillFrame_28 rfl (by first | rfl | exact kx_rf _) ?_
  refine kx_get _ d_C_fillFrame_29 f_C_27 (hC.endAt he) (by rfl) ?_
  refine kx_get _ d_C_fillFrame_32 f_C_93 (hC.endAt ho) (by rfl) ?_
  rw [up2_n n1]
  refine cF_put5 d_C_fillFrame_35 f_C_132 (by rcases hw with h | h <;> rw [h]; exact p_F_5_0; exact p_F_5_1) hC hO he (fun w hC hO => ?_)
  refine kx_aload_n d_C_fillFrame_38 rfl (by first | rfl | exact kx_rf _) ?_
  refine kx_get _ d_C_fillFrame_39 f_C_133 (hC.frm e he) (by rfl) ?_
  refine kx_aload_n d_C_fillFrame_42 rfl (by first | rfl | exact kx_rf _) ?_
  refine kx_get _ d_C_fillFrame_43 f_C_34 (hC.car c hc) (by rfl) ?_
  refine cR_copyFrom d_C_fillFrame_46 v_C_128 hC hO (rowN_e8 he) (rowN_26 hc) n3 (by decide) (Nat.le_of_ble_eq_true rfl) (by decide) (by decide) (fun w hC hO => ?_)
  rw [up1_n n4] at hC
  refine kx_aload_n d_C_fillFrame_49 rfl (by first | rfl | exact kx_rf _) ?_
  refine kx_get _ d_C_fillFrame_50 f_C_41 (hC.car c hc) (by rfl) ?_
  refine kx_iconst (nI 0) d_C_fillFrame_53 (by decide) ?_
  refine kx_aload_n d_C_fillFrame_54 rfl (by first | rfl | exact kx_rf _) ?_
  refine kx_get _ d_C_fillFrame_55 f_C_134 (hC.frm e he) (by rfl) ?_
  refine kx_iconst (nI 0) d_C_fillFrame_58 (by decide) ?_
  refine kx_aload_n d_C_fillFrame_59 rfl (by first | rfl | exact kx_rf _) ?_
  refine kx_get _ d_C_fillFrame_60 f_C_34 (hC.car c hc) (by rfl) ?_
  refine kx_get _ d_C_fillFrame_63 f_C_76 (hC.rowObj (rowN_26 hc)) (by rfl) ?_
  rw [up1_n n8, up1_n n4]
  refine cV_copy d_C_fillFrame_66 cp_C_135 hC hO (intN_30 hc) (intN_f5 he) hl (by decide) (by decide) (fun w hC hO => ?_)
  refine kx_aload_n d_C_fillFrame_69 rfl (by first | rfl | exact kx_rf _) ?_
  refine kx_get _ d_C_fillFrame_70 f_C_45 (hC.car c hc) (by rfl) ?_
  refine kx_iconst (nI 0) d_C_fillFrame_73 (by decide) ?_
  refine kx_aload_n d_C_fillFrame_74 rfl (by first | rfl | exact kx_rf _) ?_
  refine kx_get _ d_C_fillFrame_75 f_C_141 (hC.frm e he) (by rfl) ?_
  refine kx_iconst (nI 0) d_C_fillFrame_78 (by decide) ?_
  refine kx_aload_n d_C_fillFrame_79 rfl (by first | rfl | exact kx_rf _) ?_
  refine kx_get _ d_C_fillFrame_80 f_C_34 (hC.car c hc) (by rfl) ?_
  refine kx_get _ d_C_fillFrame_83 f_C_76 (hC.rowObj (rowN_26 hc)) (by rfl) ?_
  rw [up1_n n8, up1_n n4]
  refine cV_copy d_C_fillFrame_86 cp_C_135 hC hO (intN_31 hc) (intN_f6 he) hl (by decide) (by decide) (fun w hC hO => ?_)
  rw [up1_n n6, up1_n (show e + 5 + 6 ≠ e + 5 + 5 by omega)] at hC
  refine kx_aload_n d_C_fillFrame_89 rfl (by first | rfl | exact kx_rf _) ?_
  refine kx_get _ d_C_fillFrame_90 f_C_60 (hC.car c hc) (by rfl) ?_
  rw [up2_n n7, up2_n n7, hn]
  refine kx_if_le_n 123 d_C_fillFrame_93 (by decide) (by omega) ?_ ?_
  · intro h93
    refine kx_vret d_C_fillFrame_123 rfl (by decide) (by decide) ?_
    first
      | (subst h93
         refine ⟨rfl, hC.cgV ?_, hO⟩
         unfold fillV
         rw [← fillA_0, ← fillA_0])
      | (refine ⟨rfl, hC.cgV ?_, hO⟩
         unfold fillV
         rw [fillA_s h93, fillA_s h93, up1_c (f := up1 V (e + 5 + 5) _) (x := e + 5 + 6) (y := e + 5 + 5) (by omega), up1_up1, up1_up1])
  · intro h93
    refine kx_aload_n d_C_fillFrame_96 rfl (by first | rfl | exact kx_rf _) ?_
    refine kx_get _ d_C_fillFrame_97 f_C_134 (hC.frm e he) (by rfl) ?_
    refine kx_aload_n d_C_fillFrame_100 rfl (by first | rfl | exact kx_rf _) ?_
    refine kx_get _ d_C_fillFrame_101 f_C_60 (hC.car c hc) (by rfl) ?_
    rw [up2_n n7, up2_n n7, hn]
    refine kx_iconst (nI 1) d_C_fillFrame_104 (by decide) ?_
    first | refine kx_isub _ d_C_fillFrame_105 (pk_sub (by omega)) ?_ | refine kx_isub _ d_C_fillFrame_105 rfl ?_
    refine kx_iconst (nI 0) d_C_fillFrame_106 (by decide) ?_
    refine cV_put d_C_fillFrame_107 hC hO (intN_f5 he) (by omega) (fun w hC hO => ?_)
    rw [up1_n (show e + 5 + 5 ≠ e + 5 + 6 by omega), up1_s] at hC
    refine kx_aload_n d_C_fillFrame_108 rfl (by first | rfl | exact kx_rf _) ?_
    refine kx_get _ d_C_fillFrame_109 f_C_141 (hC.frm e he) (by rfl) ?_
    refine kx_aload_n d_C_fillFrame_112 rfl (by first | rfl | exact kx_rf _) ?_
    refine kx_get _ d_C_fillFrame_113 f_C_60 (hC.car c hc) (by rfl) ?_
    rw [up2_n n7, up2_n n7, hn]
    refine kx_iconst (nI 1) d_C_fillFrame_116 (by decide) ?_
    first | refine kx_isub _ d_C_fillFrame_117 (pk_sub (by omega)) ?_ | refine kx_isub _ d_C_fillFrame_117 rfl ?_
    refine kx_aload_n d_C_fillFrame_118 rfl (by first | rfl | exact kx_rf _) ?_
    refine kx_get _ d_C_fillFrame_119 f_C_69 (hC.car c hc) (by rfl) ?_
    rw [up2_n n7, up2_n n7]
    refine cV_put d_C_fillFrame_122 hC hO (intN_f6 he) (by omega) (fun w hC hO => ?_)
    rw [up1_n (show e + 5 + 6 ≠ e + 5 + 5 by omega), up1_s] at hC
    refine kx_vret d_C_fillFrame_123 rfl (by decide) (by decide) ?_
    first
      | (subst h93
         refine ⟨rfl, hC.cgV ?_, hO⟩
         unfold fillV
         rw [← fillA_0, ← fillA_0])
      | (refine ⟨rfl, hC.cgV ?_, hO⟩
         unfold fillV
         rw [fillA_s h93, fillA_s h93, up1_c (f := up1 V (e + 5 + 5) _) (x := e + 5 + 6) (y := e + 5 + 5) (by omega), up1_up1, up1_up1])
abbrev LVS : Type := (Nat → List Nat) × (Nat → Nat → Int32) × (Nat → Nat → Int32)
def clN (x : Int32) : Nat := x.toNatClampNeg
theorem clN_nI {k : Nat} (h : k < 2 ^ 31) : clN (nI k) = k := nI_clamp h
def mkE (pe : Nat → Option Nat) (c i : Nat) (T : LVS) : LVS := if pe (carE c i) = none then T else (fillL T.1 c (carE c i), fillV T.1 T.2.1 (T.2.2 (carB c) 8) (clN (T.2.2 (carB c) 7)) c (carE c i), fillS T.2.2 (carE c i))
def okUp (n x k : Nat) (v : Int32) : Prop := (endN n x → (k = 8 → ∃ s, s ≤ 4 ∧ v = nI s) ∧ (k = 7 → v = nI 0 ∨ v = nI 1) ∧ (k = 0 → ∃ i, i < 512 ∧ v = nI i)) ∧ (∀ e, endN n e → x = e + 5 → (k = 4 → ∃ s, s < 512 ∧ v = nI s) ∧ (k = 5 → v = nI 0 ∨ v = nI 1)) ∧ (∀ c, c < n → x = carB c → (k = 7 → ∃ m, m ≤ 24 ∧ v = nI m) ∧ (k = 0 → ∃ i, i < 256 ∧ v = nI i))
/-- what the numbers of the bus keep to -/
def InvS (n : Nat) (S : Nat → Nat → Int32) : Prop := ∀ x k, okUp n x k (S x k)
theorem InvS.up {n : Nat} {S : Nat → Nat → Int32} {x k : Nat} {v : Int32} (h : InvS n S) (hv : okUp n x k v) : InvS n (up2 S x k v) := by
  intro y j
  unfold up2
  by_cases e : y = x
  · subst e
    rw [if_pos rfl]
    by_cases e2 : j = k
    · subst e2; rw [if_pos rfl]; exact hv
    · rw [if_neg e2]; exact h y j
  · rw [if_neg e]; exact h y j
theorem InvS.sil {n : Nat} {S : Nat → Nat → Int32} (h : InvS n S) {e : Nat} (he : endN n e) : ∃ s, s ≤ 4 ∧ S e 8 = nI s := ((h e 8).1 he).1 rfl
theorem InvS.whl {n : Nat} {S : Nat → Nat → Int32} (h : InvS n S) {e : Nat} (he : endN n e) : S e 7 = nI 0 ∨ S e 7 = nI 1 := ((h e 7).1 he).2.1 rfl
theorem InvS.item {n : Nat} {S : Nat → Nat → Int32} (h : InvS n S) {e : Nat} (he : endN n e) : ∃ i, i < 512 ∧ S e 0 = nI i := ((h e 0).1 he).2.2 rfl
theorem InvS.snd {n : Nat} {S : Nat → Nat → Int32} (h : InvS n S) {e : Nat} (he : endN n e) : ∃ s, s < 512 ∧ S (e + 5) 4 = nI s := ((h (e + 5) 4).2.1 e he rfl).1 rfl
theorem InvS.fwh {n : Nat} {S : Nat → Nat → Int32} (h : InvS n S) {e : Nat} (he : endN n e) : S (e + 5) 5 = nI 0 ∨ S (e + 5) 5 = nI 1 := ((h (e + 5) 5).2.1 e he rfl).2 rfl
theorem InvS.num {n : Nat} {S : Nat → Nat → Int32} (h : InvS n S) {c : Nat} (hc : c < n) : ∃ m, m ≤ 24 ∧ S (carB c) 7 = nI m := ((h (carB c) 7).2.2 c hc rfl).1 rfl
theorem InvS.id {n : Nat} {S : Nat → Nat → Int32} (h : InvS n S) {c : Nat} (hc : c < n) : ∃ i, i < 256 ∧ S (carB c) 0 = nI i := ((h (carB c) 0).2.2 c hc rfl).2 rfl
theorem okUp_e {n e k : Nat} {v : Int32} (he : endN n e) (h8 : k = 8 → ∃ s, s ≤ 4 ∧ v = nI s) (h7 : k = 7 → v = nI 0 ∨ v = nI 1) (h0 : k ≠ 0) : okUp n e k v :=
  ⟨fun _ => ⟨h8, h7, fun h => absurd h h0⟩, fun q hq h => by clear h8 h7; unfold endN at he hq; omega, fun c hc h => by clear h8 h7; unfold endN at he; simp only [carB] at h; omega⟩
theorem okUp_f {n e k : Nat} {v : Int32} (he : endN n e) (h4 : k = 4 → ∃ s, s < 512 ∧ v = nI s) (h5 : k = 5 → v = nI 0 ∨ v = nI 1) : okUp n (e + 5) k v :=
  ⟨fun h => by clear h4 h5; unfold endN at he h; omega, fun q hq h => ⟨h4, h5⟩, fun c hc h => by clear h4 h5; unfold endN at he; simp only [carB] at h; omega⟩
theorem okUp_c {n c k : Nat} {v : Int32} (h7 : k = 7 → ∃ m, m ≤ 24 ∧ v = nI m) (h0 : k ≠ 0) : okUp n (carB c) k v :=
  ⟨fun h => by clear h7; unfold endN at h; simp only [carB] at h; omega, fun q hq h => by clear h7; unfold endN at hq; simp only [carB] at h; omega, fun c hc h => ⟨h7, fun q => absurd q h0⟩⟩
theorem InvS.fill {n : Nat} {S : Nat → Nat → Int32} (h : InvS n S) {e : Nat} (he : endN n e) : InvS n (fillS S e) :=
  (h.up (okUp_f he (fun _ => h.item he) (fun q => by cases q))).up (okUp_f he (fun q => by cases q) (fun _ => h.whl (oppN he)))
theorem mkE_inv {n c i : Nat} {pe : Nat → Option Nat} {T : LVS} (h : InvS n T.2.2) (hc : c < n) : InvS n (mkE pe c i T).2.2 := by
  unfold mkE
  by_cases e : pe (carE c i) = none
  · rw [if_pos e]; exact h
  · rw [if_neg e]; exact h.fill (carE_N hc)
theorem d_C_makeFrames_0 : decode c_C_makeFrames 0 = .ok (.iconst 0, 1) := by decide +kernel
theorem d_C_makeFrames_1 : decode c_C_makeFrames 1 = .ok (.istore_n 1, 1) := by decide +kernel
theorem d_C_makeFrames_2 : decode c_C_makeFrames 2 = .ok (.iload_n 1, 1) := by decide +kernel
theorem d_C_makeFrames_3 : decode c_C_makeFrames 3 = .ok (.iconst 2, 1) := by decide +kernel
theorem d_C_makeFrames_4 : decode c_C_makeFrames 4 = .ok (.if_icmp .ge 31, 3) := by decide +kernel
theorem d_C_makeFrames_7 : decode c_C_makeFrames 7 = .ok (.aload_n 0, 1) := by decide +kernel
theorem d_C_makeFrames_8 : decode c_C_makeFrames 8 = .ok (.getfield 20, 3) := by decide +kernel
theorem d_C_makeFrames_11 : decode c_C_makeFrames 11 = .ok (.iload_n 1, 1) := by decide +kernel
theorem d_C_makeFrames_12 : decode c_C_makeFrames 12 = .ok (.aaload, 1) := by decide +kernel
theorem d_C_makeFrames_13 : decode c_C_makeFrames 13 = .ok (.getfield 108, 3) := by decide +kernel
theorem d_C_makeFrames_16 : decode c_C_makeFrames 16 = .ok (.ifnull 13, 3) := by decide +kernel
theorem d_C_makeFrames_19 : decode c_C_makeFrames 19 = .ok (.aload_n 0, 1) := by decide +kernel
theorem d_C_makeFrames_20 : decode c_C_makeFrames 20 = .ok (.aload_n 0, 1) := by decide +kernel
theorem d_C_makeFrames_21 : decode c_C_makeFrames 21 = .ok (.getfield 20, 3) := by decide +kernel
theorem d_C_makeFrames_24 : decode c_C_makeFrames 24 = .ok (.iload_n 1, 1) := by decide +kernel
theorem d_C_makeFrames_25 : decode c_C_makeFrames 25 = .ok (.aaload, 1) := by decide +kernel
theorem d_C_makeFrames_26 : decode c_C_makeFrames 26 = .ok (.invokevirtual 111, 3) := by decide +kernel
theorem d_C_makeFrames_29 : decode c_C_makeFrames 29 = .ok (.iinc 1 1, 3) := by decide +kernel
theorem d_C_makeFrames_32 : decode c_C_makeFrames 32 = .ok (.goto (-30), 3) := by decide +kernel
theorem d_C_makeFrames_35 : decode c_C_makeFrames 35 = .ok (.return_, 1) := by decide +kernel
set_option maxRecDepth 20000 in
set_option maxHeartbeats 2000000 in
theorem s_C_makeFrames {E : kx_E} {w w0 : va_W} {n : Nat} {ad : Nat → Nat} {pe bi : Nat → Option Nat} {T : LVS} (hC : Cls E w n ad T.1 T.2.1 T.2.2 pe bi) (hO : kx_off w0 w clsN) {c i : Nat} (hc : c < n) (hI : InvS n T.2.2) (hi : i < 2) {z : kx_Z} {Q : kx_O → va_W → Prop}
    (kk : ∀ w, Cls E w n ad (mkE pe c i T).1 (mkE pe c i T).2.1 (mkE pe c i T).2.2 pe bi → kx_off w0 w clsN → kx_R E Y_C_makeFrames z 2 [(0, .ref (ad (carB c))), (1, .int (nI (i + 1)))] [] w 0 0 Q) : kx_R E Y_C_makeFrames z 2 [(0, .ref (ad (carB c))), (1, .int (nI i))] [] w 0 0 Q := by
  refine kx_iload_n d_C_makeFrames_2 rfl ?_
  refine kx_iconst (nI 2) d_C_makeFrames_3 (by decide) ?_
  first | refine kx_icmp_ge_n 35 d_C_makeFrames_4 (by decide) (by omega) (by omega) ?_ ?_ | refine kx_icmp_ge 35 d_C_makeFrames_4 (by decide) ?_ ?_
  · intro h4
    exact absurd h4 (by omega)
  · intro h4
    refine kx_aload_n d_C_makeFrames_7 rfl (by first | rfl | exact kx_rf _) ?_
    refine kx_get _ d_C_makeFrames_8 f_C_20 (hC.car c hc) (by rfl) ?_
    refine kx_iload_n d_C_makeFrames_11 rfl ?_
    refine cA_end d_C_makeFrames_12 hC hc (by first | decide | omega) ?_
    refine kx_get _ d_C_makeFrames_13 f_C_108 (hC.endAt (carE_N hc)) (by rfl) ?_
    refine kx_ifnull 29 d_C_makeFrames_16 (by decide) ?_ ?_
    · intro h16
      have hp : pe (carE c i) = none := by
        cases hpe : pe (carE c i) with
        | none => rfl
        | some q => rw [hpe] at h16; cases h16
      have hC : Cls E w n ad (mkE pe c i T).1 (mkE pe c i T).2.1 (mkE pe c i T).2.2 pe bi := by unfold mkE; rw [if_pos hp]; exact hC
      refine kx_iinc _ d_C_makeFrames_29 rfl (by decide) (nI_1 _) ?_
      refine kx_goto 2 d_C_makeFrames_32 (by decide) ?_
      refine kx_loc (L1 := [(0, .ref (ad (carB c))), (1, .int (nI (i + 1)))]) ⟨rfl, rfl, trivial⟩ ?_
      exact kk w hC hO
    · intro a16 h16
      have hp : ¬ pe (carE c i) = none := fun e => by rw [e] at h16; cases h16
      obtain ⟨num, hn1, hn⟩ := hI.num hc
      refine kx_aload_n d_C_makeFrames_19 rfl (by first | rfl | exact kx_rf _) ?_
      refine kx_aload_n d_C_makeFrames_20 rfl (by first | rfl | exact kx_rf _) ?_
      refine kx_get _ d_C_makeFrames_21 f_C_20 (hC.car c hc) (by rfl) ?_
      refine kx_iload_n d_C_makeFrames_24 rfl ?_
      refine cA_end d_C_makeFrames_25 hC hc (by first | decide | omega) ?_
      refine kx_callV (as := [.ref (ad (carE c i))]) (rest := []) d_C_makeFrames_26 v_C_111 rfl (hC.car c hc) rfl rfl (by decide) (by decide) (by decide) (by decide) (by decide) rfl (m_C_fillFrame hC hc (carE_N hc) hn hn1 (hI.whl (oppN (carE_N hc)))) (fun X w1 h => by cases h.1) (fun v w hq9 => ?_)
      obtain ⟨hv, hC, hO9⟩ := hq9
      cases hv
      have hO := hO.tr hO9 (fun _ h => h) (fun _ h => h)
      have hC : Cls E w n ad (mkE pe c i T).1 (mkE pe c i T).2.1 (mkE pe c i T).2.2 pe bi := by unfold mkE; rw [if_neg hp, hn, clN_nI (by omega)]; exact hC
      refine kx_stk (st1 := []) rfl ?_
      refine kx_iinc _ d_C_makeFrames_29 rfl (by decide) (nI_1 _) ?_
      refine kx_goto 2 d_C_makeFrames_32 (by decide) ?_
      refine kx_loc (L1 := [(0, .ref (ad (carB c))), (1, .int (nI (i + 1)))]) ⟨rfl, rfl, trivial⟩ ?_
      exact kk w hC hO
set_option maxRecDepth 20000 in
set_option maxHeartbeats 2000000 in
theorem m_C_makeFrames {E : kx_E} {w : va_W} {n : Nat} {ad : Nat → Nat} {L : Nat → List Nat} {V S : Nat → Nat → Int32} {pe bi : Nat → Option Nat} (hC : Cls E w n ad L V S pe bi) {c : Nat} (hc : c < n) (hI : InvS n S) : kx_S E Y_C_makeFrames [.ref (ad (carB c))] w (CQ E w n ad (mkE pe c 1 (mkE pe c 0 (L, V, S))).1 (mkE pe c 1 (mkE pe c 0 (L, V, S))).2.1 (mkE pe c 1 (mkE pe c 0 (L, V, S))).2.2 pe bi none) := by
  refine kx_go (by decide) rfl rfl (Nat.le_of_ble_eq_true rfl) (kx_cc rfl kx_c0) (fun z => ?_)
  have hO : kx_off w w clsN := kx_off.rf
  refine kx_iconst (nI 0) d_C_makeFrames_0 (by decide) ?_
  refine kx_istore_n d_C_makeFrames_1 (by decide) ?_
  refine kx_loc (L1 := [(0, .ref (ad (carB c))), (1, .int (nI 0))]) ⟨rfl, rfl, trivial⟩ ?_
  refine s_C_makeFrames (T := (L, V, S)) hC hO hc hI (by decide) (fun w hC hO => ?_)
  refine s_C_makeFrames (i := 1) hC hO hc (mkE_inv (T := (L, V, S)) hI hc) (by decide) (fun w hC hO => ?_)
  refine kx_iload_n d_C_makeFrames_2 rfl ?_
  refine kx_iconst (nI 2) d_C_makeFrames_3 (by decide) ?_
  refine kx_icmp_ge_n 35 d_C_makeFrames_4 (by decide) (by decide) (by decide) ?_ ?_
  · intro h4
    refine kx_vret d_C_makeFrames_35 rfl (by decide) (by decide) ?_
    exact ⟨rfl, hC, hO⟩
  · intro h4
    exact absurd h4 (by decide)
