/-! The calls that ask, on both sides -/
set_option maxHeartbeats 1000000 in
theorem op_directory {E : kx_E} {a0 m0 : Nat} {w : va_W} {n : Nat} {ad : Nat → Nat} {X : Fx} {D : Dy} {F : Nat → Int32} {T : LVS} {pe bi : Nat → Option Nat} {ma : Nat → Nat} {A : Nat → Nat → Int32} (hS : St E a0 m0 w n ad X D F T pe bi ma A) (p0 p1 : Int32) : Op E a0 m0 w Y_B_directory Y_M_directory [.int p0, .int p1] rI (R1 kx_nse) := by
  have hS1 := hS
  obtain ⟨rfl, rfl, hC, hM, hI, hR, hZ⟩ := hS1
  have hn := hI.co.2.1
  have ok := hI.bi.ok
  cases hc0 : carI bi p0 with
  | none => exact Op.bad hS 1 (by omega) rfl (m_B_directory_no hC hc0) (fun w2 h2 => m_M_directory_no h2 hR hI.wx hI.wd hn hI.bi hc0)
  | some c =>
    have hc := hI.bi.c hc0
    have hca := hI.ca c hc
    have hL := hca.2.2.1
    have len : (T.1 (carB c + 26)).length = (dDi D c).length := by rw [hL, List.length_map]
    have l24 := (hI.wd.2.2 c hc).1.1
    rcases rng1 p1 (m := (dDi D c).length) (by omega) with hj | ⟨j, hj, rfl⟩
    · exact Op.ask hS (m_B_directory_out hC ok hc0 (by rw [len]; exact hj)) (fun w2 h2 => m_M_directory_out h2 hR hI.wx hI.wd hn hI.bi hc0 hj)
    · refine Op.ask hS ?_ (fun w2 h2 => m_M_directory h2 hR hI.wx hI.wd hn hI.bi hc0 hj)
      have h := m_B_directory hC ok hc0 (j := j) (by rw [len]; exact hj)
      rw [hL, getD_map X hj, itm_div] at h
      exact h
set_option maxHeartbeats 1000000 in
theorem op_coupling {E : kx_E} {a0 m0 : Nat} {w : va_W} {n : Nat} {ad : Nat → Nat} {X : Fx} {D : Dy} {F : Nat → Int32} {T : LVS} {pe bi : Nat → Option Nat} {ma : Nat → Nat} {A : Nat → Nat → Int32} (hS : St E a0 m0 w n ad X D F T pe bi ma A) (p0 p1 : Int32) : Op E a0 m0 w Y_B_coupling Y_M_coupling [.int p0, .int p1] rI (R1 kx_nse) := by
  have hS1 := hS
  obtain ⟨rfl, rfl, hC, hM, hI, hR, hZ⟩ := hS1
  have hn := hI.co.2.1
  have ok := hI.bi.ok
  cases hc0 : carI bi p0 with
  | none => exact Op.bad hS 1 (by omega) rfl (m_B_coupling_no hC ok (endQ_car hc0)) (fun w2 h2 => m_M_coupling_no h2 hR hI.wx hI.wd hn hI.bi hc0)
  | some c =>
    have hc := hI.bi.c hc0
    have hca := hI.ca c hc
    have hL := hca.2.2.1
    have len : (T.1 (carB c + 26)).length = (dDi D c).length := by rw [hL, List.length_map]
    have l24 := (hI.wd.2.2 c hc).1.1
    rcases isE_c p1 with he | ⟨i, hi, rfl⟩
    · exact Op.bad hS 1 (by omega) rfl (m_B_coupling_no hC ok (endQ_ne hc0 he)) (fun w2 h2 => m_M_coupling_ne h2 hR hI.wx hI.wd hn hI.bi hc0 he)
    · have hp : 2 * c + i < 2 * n := by omega
      have hx := endQ_ok hc0 hi
      have hE := hca.e (p := 2 * c + i) (by omega)
      refine Op.ask hS ?_ (fun w2 h2 => m_M_coupling h2 hR hI.wx hI.wd hn hI.bi hc0 hi)
      have h := m_B_coupling hC ok hx
      rw [hI.st.2.2.2.2 (2 * c + i) hp] at h
      exact h
set_option maxHeartbeats 1000000 in
theorem op_about {E : kx_E} {a0 m0 : Nat} {w : va_W} {n : Nat} {ad : Nat → Nat} {X : Fx} {D : Dy} {F : Nat → Int32} {T : LVS} {pe bi : Nat → Option Nat} {ma : Nat → Nat} {A : Nat → Nat → Int32} (hS : St E a0 m0 w n ad X D F T pe bi ma A) (p0 p1 : Int32) : Op E a0 m0 w Y_B_about Y_M_about [.int p0, .int p1] rI (R2 kx_nse kx_iae) := by
  have hS1 := hS
  obtain ⟨rfl, rfl, hC, hM, hI, hR, hZ⟩ := hS1
  have hn := hI.co.2.1
  have ok := hI.bi.ok
  cases hc0 : carI bi p0 with
  | none => exact Op.bad hS 1 (by omega) rfl (m_B_about_no hC hc0) (fun w2 h2 => m_M_about_no h2 hR hI.wx hI.wd hn hI.bi hc0)
  | some c =>
    have hc := hI.bi.c hc0
    have hca := hI.ca c hc
    have hL := hca.2.2.1
    have len : (T.1 (carB c + 26)).length = (dDi D c).length := by rw [hL, List.length_map]
    have l24 := (hI.wd.2.2 c hc).1.1
    rcases rng0 p1 (m := 12) (by omega) with hj | ⟨k, hk, rfl⟩
    · exact Op.bad hS 2 (by omega) rfl (m_B_about_bad hC hc0 (hj.imp id i32_nlt.mpr)) (fun w2 h2 => m_M_about_bad h2 hR hI.wx hI.wd hn hI.bi hc0 (hj.imp id (fun h => (i32_s (by omega)).mpr h)))
    · refine Op.ask hS ?_ (fun w2 h2 => m_M_about h2 hR hI.wx hI.wd hn hI.bi hc0 hk)
      have h := m_B_about hC ok hI.is hc0 hk
      rw [fac_eq hI.wx hI.wd hc hca hk] at h
      exact h
set_option maxHeartbeats 1000000 in
theorem op_view {E : kx_E} {a0 m0 : Nat} {w : va_W} {n : Nat} {ad : Nat → Nat} {X : Fx} {D : Dy} {F : Nat → Int32} {T : LVS} {pe bi : Nat → Option Nat} {ma : Nat → Nat} {A : Nat → Nat → Int32} (hS : St E a0 m0 w n ad X D F T pe bi ma A) (p0 p1 p2 : Int32) : Op E a0 m0 w Y_B_view Y_M_view [.int p0, .int p1, .int p2] rI (R1 kx_nse) := by
  have hS1 := hS
  obtain ⟨rfl, rfl, hC, hM, hI, hR, hZ⟩ := hS1
  have hn := hI.co.2.1
  have ok := hI.bi.ok
  cases hc0 : carI bi p0 with
  | none => exact Op.bad hS 1 (by omega) rfl (m_B_view_no hC ok (endQ_car hc0)) (fun w2 h2 => m_M_view_no h2 hR hI.wx hI.wd hn hI.bi hc0)
  | some c =>
    have hc := hI.bi.c hc0
    have hca := hI.ca c hc
    have hL := hca.2.2.1
    have len : (T.1 (carB c + 26)).length = (dDi D c).length := by rw [hL, List.length_map]
    have l24 := (hI.wd.2.2 c hc).1.1
    rcases isE_c p1 with he | ⟨i, hi, rfl⟩
    · exact Op.bad hS 1 (by omega) rfl (m_B_view_no hC ok (endQ_ne hc0 he)) (fun w2 h2 => m_M_view_ne h2 hR hI.wx hI.wd hn hI.bi hc0 he)
    · have hp : 2 * c + i < 2 * n := by omega
      have hx := endQ_ok hc0 hi
      have hE := hca.e (p := 2 * c + i) (by omega)
      have hv := hE.2.2.1
      have lv : (T.1 (eN (2 * c + i) + 1)).length = (dVw D (2 * c + i)).length := by rw [hv, List.length_map]
      have v24 := (hI.wd.1 (2 * c + i) hp).1.1
      rcases rng0 p2 (m := (dVw D (2 * c + i)).length) (by omega) with hj | ⟨j, hj, rfl⟩
      · exact Op.ask hS (m_B_view_out hC ok hx (by rw [lv]; exact hj)) (fun w2 h2 => m_M_view_out h2 hR hI.wx hI.wd hn hI.bi hc0 hi hj)
      · refine Op.ask hS ?_ (fun w2 h2 => m_M_view h2 hR hI.wx hI.wd hn hI.bi hc0 hi hj)
        have h := m_B_view hC ok hx (j := j) (by rw [lv]; exact hj)
        rw [hv, getD_map X hj] at h
        exact h
set_option maxHeartbeats 1000000 in
theorem op_get {E : kx_E} {a0 m0 : Nat} {w : va_W} {n : Nat} {ad : Nat → Nat} {X : Fx} {D : Dy} {F : Nat → Int32} {T : LVS} {pe bi : Nat → Option Nat} {ma : Nat → Nat} {A : Nat → Nat → Int32} (hS : St E a0 m0 w n ad X D F T pe bi ma A) (p0 p1 p2 : Int32) : Op E a0 m0 w Y_B_get Y_M_get [.int p0, .int p1, .int p2] rI (R2 kx_nse kx_iae) := by
  have hS1 := hS
  obtain ⟨rfl, rfl, hC, hM, hI, hR, hZ⟩ := hS1
  have hn := hI.co.2.1
  have ok := hI.bi.ok
  cases hc0 : carI bi p0 with
  | none => exact Op.bad hS 1 (by omega) rfl (m_B_get_no hC hc0) (fun w2 h2 => m_M_get_no h2 hR hI.wx hI.wd hn hI.bi hc0)
  | some c =>
    have hc := hI.bi.c hc0
    have hca := hI.ca c hc
    have hL := hca.2.2.1
    have len : (T.1 (carB c + 26)).length = (dDi D c).length := by rw [hL, List.length_map]
    have l24 := (hI.wd.2.2 c hc).1.1
    by_cases hv : p2 < 0 ∨ nI 4 < p2
    · exact Op.bad hS 2 (by omega) rfl (m_B_get_bad hC hc0 hv) (fun w2 h2 => m_M_get_bad h2 hR hI.wx hI.wd hn hI.bi hc0 hv)
    · obtain ⟨i, -, hi, rfl⟩ := i32_in (a := 0) (b := 4) (by omega) (by omega) (fun h => hv (Or.inl (by rw [← nI_0]; exact h))) (fun h => hv (Or.inr h))
      rcases rng1 p1 (m := (dDi D c).length) (by omega) with hj | ⟨j, hj, rfl⟩
      · exact Op.ask hS (m_B_get_out hC ok hc0 hv (by rw [len]; exact hj)) (fun w2 h2 => m_M_get_out h2 hR hI.wx hI.wd hn hI.bi hc0 hi hj)
      · refine Op.ask hS ?_ (fun w2 h2 => m_M_get h2 hR hI.wx hI.wd hn hI.bi hc0 hi hj)
        have no := rowNo_le c (dDi D c) 0
        have h := m_B_get hC ok hc0 hv hca.2.2.2.1 (by omega) (j := j) (by rw [len]; exact hj)
        rw [kn_eq hI.wd hc hca hj hi] at h
        exact h
set_option maxHeartbeats 1000000 in
theorem op_side {E : kx_E} {a0 m0 : Nat} {w : va_W} {n : Nat} {ad : Nat → Nat} {X : Fx} {D : Dy} {F : Nat → Int32} {T : LVS} {pe bi : Nat → Option Nat} {ma : Nat → Nat} {A : Nat → Nat → Int32} (hS : St E a0 m0 w n ad X D F T pe bi ma A) (p0 p1 p2 : Int32) : Op E a0 m0 w Y_B_side Y_M_side [.int p0, .int p1, .int p2] rI (R2 kx_nse kx_iae) := by
  have hS1 := hS
  obtain ⟨rfl, rfl, hC, hM, hI, hR, hZ⟩ := hS1
  have hn := hI.co.2.1
  have ok := hI.bi.ok
  cases hc0 : carI bi p0 with
  | none => exact Op.bad hS 1 (by omega) rfl (m_B_side_no hC hc0) (fun w2 h2 => m_M_side_no h2 hR hI.wx hI.wd hn hI.bi hc0)
  | some c =>
    have hc := hI.bi.c hc0
    have hca := hI.ca c hc
    have hL := hca.2.2.1
    have len : (T.1 (carB c + 26)).length = (dDi D c).length := by rw [hL, List.length_map]
    have l24 := (hI.wd.2.2 c hc).1.1
    rcases rng0 p2 (m := 16) (by omega) with hv | ⟨f, hf, rfl⟩
    · exact Op.bad hS 2 (by omega) rfl (m_B_side_bad hC ok hc0 (hv.imp id i32_nlt.mpr)) (fun w2 h2 => m_M_side_bad h2 hR hI.wx hI.wd hn hI.bi hc0 hv)
    · rcases rng1 p1 (m := (dDi D c).length) (by omega) with hj | ⟨j, hj, rfl⟩
      · exact Op.ask hS (m_B_side_out hC ok hc0 hf (by rw [len]; exact hj)) (fun w2 h2 => m_M_side_out h2 hR hI.wx hI.wd hn hI.bi hc0 hf hj)
      · refine Op.ask hS ?_ (fun w2 h2 => m_M_side h2 hR hI.wx hI.wd hn hI.bi hc0 hf hj)
        have lt := (hI.wd.2.2 c hc).1.get hj
        have h2 : carI bi (nI ((T.1 (carB c + 26)).getD j 0 / 2)) = some ((dDi D c).getD j 0 / 2) := by
          have b := hI.wx.2.1 ((dDi D c).getD j 0 / 2) (by omega)
          rw [hL, getD_map X hj, itm_div, carI_j bi b.1 b.2]
          exact hI.bi.2 _ (by omega)
        have h := m_B_side hC ok hc0 hf (j := j) (by rw [len]; exact hj) h2
        rw [hI.st.2.1 _ (by omega), hL, getD_map X hj, sid_eq _ _ _ f (itm_mod X _)] at h
        exact h
set_option maxHeartbeats 1000000 in
theorem op_count {E : kx_E} {a0 m0 : Nat} {w : va_W} {n : Nat} {ad : Nat → Nat} {X : Fx} {D : Dy} {F : Nat → Int32} {T : LVS} {pe bi : Nat → Option Nat} {ma : Nat → Nat} {A : Nat → Nat → Int32} (hS : St E a0 m0 w n ad X D F T pe bi ma A) (p0 : Int32) : Op E a0 m0 w Y_B_count Y_M_count [.int p0] rI (R1 kx_iae) := by
  have hS1 := hS
  obtain ⟨rfl, rfl, hC, hM, hI, hR, hZ⟩ := hS1
  have hn := hI.co.2.1
  have ok := hI.bi.ok
  rcases rng0 p0 (m := 5) (by omega) with hv | ⟨k, hk, rfl⟩
  · exact Op.bad hS 1 (by omega) rfl (m_B_count_bad hC (hv.imp id i32_nlt.mpr)) (fun w2 h2 => m_M_count_bad h2 (hv.imp id (fun h => (i32_s (by omega)).mpr h)))
  · refine Op.ask hS ?_ (fun w2 h2 => m_M_count h2 hk)
    have h := m_B_count hC hk
    have co := hI.co
    have e : cntI T.2.2 k = cntM F k := by unfold cntI cntM; rw [co.1, co.2.1, co.2.2.1, co.2.2.2.1, co.2.2.2.2]
    rw [e] at h
    exact h
/-! The calls that walk a run -/
theorem ModR.lnZ {A A1 : Nat → Nat → Int32} (h : Bz A) (l : lnO A A1) : Bz A1 := fun i hi => by rw [l 7 (by omega) (by omega)]; exact h i hi

set_option maxHeartbeats 1000000 in
theorem op_order {E : kx_E} {a0 m0 : Nat} {w : va_W} {n : Nat} {ad : Nat → Nat} {X : Fx} {D : Dy} {F : Nat → Int32} {T : LVS} {pe bi : Nat → Option Nat} {ma : Nat → Nat} {A : Nat → Nat → Int32} (hS : St E a0 m0 w n ad X D F T pe bi ma A) (p0 p1 : Int32) : Op E a0 m0 w Y_B_order Y_M_order [.int p0, .int p1] rI (R1 kx_nse) := by
  have hS1 := hS
  obtain ⟨rfl, rfl, hC, hM, hI, hR, hZ⟩ := hS1
  have hn := hI.co.2.1
  have ok := hI.bi.ok
  cases hc0 : carI bi p0 with
  | none => exact Op.bad hS 1 (by omega) rfl (m_B_order_no hC hc0) (fun w2 h2 => m_M_order_no h2 hR hI.wx hI.wd hn hI.bi hc0)
  | some c =>
    have hc := hI.bi.c hc0
    have hca := hI.ca c hc
    have hL := hca.2.2.1
    have len : (T.1 (carB c + 26)).length = (dDi D c).length := by rw [hL, List.length_map]
    have l24 := (hI.wd.2.2 c hc).1.1
    have ht := tru_tr hI.wx hI.st hI.rn hc
    have lt : (truL pe T.2.2 c).length = (trR X c).length := by rw [ht, List.length_map]
    have t24 := trR_24 X c
    have hY := hI.rn.acy hI.wx.1
    rcases rng1 p1 (m := (trR X c).length) (by omega) with hj | ⟨j, hj, rfl⟩
    · refine Op.mk hS 0 (-1) (m_B_order_out hC ok hI.pe hI.is hc0 (by rw [lt]; exact hj)) (fun o w1 h => ?_)
      obtain ⟨rfl, h1, h2⟩ := h
      refine ⟨Or.inl ⟨rfl, rfl⟩, h2.modK, n, ad, X, (up1 T.1 4 (truL pe T.2.2 c), T.2.1, T.2.2), pe, bi, rfl, h1, fun w2 h2 => ⟨_, m_M_order_out h2 hR hI.wx hI.wd hn hI.bi hY hc0 hj, fun o w3 h3 => ?_⟩⟩
      obtain ⟨e1, A1, e2, e3, e4⟩ := h3
      exact ⟨-1, _, A1, D, e1, fun _ => rfl, up1_s, e2, e4, hR.ln e3, ModR.lnZ hZ e3, (hI.l4 _).t0⟩
    · refine Op.mk hS 0 (nI (xId X ((trR X c).getD j 0 / 2))) (m_B_order hC ok hI.pe hI.is hc0 (j := j) (by rw [lt]; exact hj)) (fun o w1 h => ?_)
      obtain ⟨rfl, h1, h2⟩ := h
      refine ⟨Or.inl ⟨rfl, by rw [ht, getD_map X hj, itm_div]⟩, h2.modK, n, ad, X, (up1 T.1 4 (truL pe T.2.2 c), T.2.1, T.2.2), pe, bi, rfl, h1, fun w2 h2 => ⟨_, m_M_order h2 hR hI.wx hI.wd hn hI.bi hY hc0 hj, fun o w3 h3 => ?_⟩⟩
      obtain ⟨e1, A1, e2, e3, e4⟩ := h3
      exact ⟨_, _, A1, D, e1, fun _ => rfl, up1_s, e2, e4, hR.ln e3, ModR.lnZ hZ e3, (hI.l4 _).t0⟩
set_option maxHeartbeats 1000000 in
theorem op_settled {E : kx_E} {a0 m0 : Nat} {w : va_W} {n : Nat} {ad : Nat → Nat} {X : Fx} {D : Dy} {F : Nat → Int32} {T : LVS} {pe bi : Nat → Option Nat} {ma : Nat → Nat} {A : Nat → Nat → Int32} (hS : St E a0 m0 w n ad X D F T pe bi ma A) : Op E a0 m0 w Y_B_settled Y_M_settled [] rI R0 := by
  have hS1 := hS
  obtain ⟨rfl, rfl, hC, hM, hI, hR, hZ⟩ := hS1
  have hn := hI.co.2.1
  have ok := hI.bi.ok
  have hY := hI.rn.acy hI.wx.1
  have e := set_eq hI.wx hI.wd hI.st hI.rn hI.ca n (Nat.le_refl _)
  refine Op.mk hS 0 (nI (sumM X D n)) (m_B_settled hC hI.pe hI.is hI.wx.1 hI.co.1) (fun o w1 h => ?_)
  obtain ⟨rfl, l, h1, h2⟩ := h
  refine ⟨Or.inl ⟨rfl, by rw [e]⟩, h2.modK, n, ad, X, (up1 T.1 4 l, T.2.1, T.2.2), pe, bi, rfl, h1, fun w2 h2 => ⟨_, m_M_settled h2 hR hI.wx hI.wd hn hY, fun o w3 h3 => ?_⟩⟩
  obtain ⟨e1, A1, e2, e3, e4⟩ := h3
  exact ⟨_, _, A1, D, e1, fun _ => rfl, up1_s, e2, e4, hR.ln e3, ModR.lnZ hZ e3, (hI.l4 _).t0⟩
