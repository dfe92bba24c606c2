/-! The calls that change things, on both sides -/
set_option maxHeartbeats 1000000 in
theorem op_reset {E : kx_E} {a0 m0 : Nat} {w : va_W} {n : Nat} {ad : Nat → Nat} {X : Fx} {D : Dy} {F : Nat → Int32} {T : LVS} {pe bi : Nat → Option Nat} {ma : Nat → Nat} {A : Nat → Nat → Int32} (hS : St E a0 m0 w n ad X D F T pe bi ma A) (p0 : Int32) : Op E a0 m0 w Y_B_reset Y_M_reset [.int p0] rV (R1 kx_nse) := by
  have hS1 := hS
  obtain ⟨rfl, rfl, hC, hM, hI, hR, hZ⟩ := hS1
  have hn := hI.co.2.1
  have ok := hI.bi.ok
  cases hc0 : carI bi p0 with
  | none => exact Op.bad hS 1 (by omega) rfl (m_B_reset_no hC hc0) (fun w2 h2 => m_M_reset_no h2 hR hI.wx hI.wd hn hI.bi hc0)
  | some c =>
    have hc := hI.bi.c hc0
    have hca := hI.ca c hc
    have hL := hca.2.2.1
    have len : (T.1 (carB c + 26)).length = (dDi D c).length := by rw [hL, List.length_map]
    have l24 := (hI.wd.2.2 c hc).1.1
    refine Op.mk hS 0 0 (m_B_reset hC ok hc0) (fun o w1 h => ?_)
    obtain ⟨rfl, h1, h2⟩ := h
    refine ⟨Or.inl ⟨rfl, rfl⟩, h2.modK, n, ad, X, (forL T.1 c, up1 T.2.1 (carB c + 30) (fun _ => -1), forS T.2.2 c), pe, bi, rfl, h1, fun w2 h2 => ⟨_, m_M_reset h2 hR hI.wx hI.wd hn hI.bi hc0, fun o w3 h3 => ?_⟩⟩
    obtain ⟨e1, e2, e3⟩ := h3
    exact ⟨0, _, _, forD c D, e1, fun _ => rfl, up1_s, e2, e3, hR.for, hZ.for, (hI.for hc).t0⟩
set_option maxHeartbeats 1000000 in
theorem op_put {E : kx_E} {a0 m0 : Nat} {w : va_W} {n : Nat} {ad : Nat → Nat} {X : Fx} {D : Dy} {F : Nat → Int32} {T : LVS} {pe bi : Nat → Option Nat} {ma : Nat → Nat} {A : Nat → Nat → Int32} (hS : St E a0 m0 w n ad X D F T pe bi ma A) (p0 p1 p2 : Int32) : Op E a0 m0 w Y_B_put Y_M_put [.int p0, .int p1, .int p2] rI (R2 kx_nse kx_iae) := by
  have hS1 := hS
  obtain ⟨rfl, rfl, hC, hM, hI, hR, hZ⟩ := hS1
  have hn := hI.co.2.1
  have ok := hI.bi.ok
  cases hc0 : carI bi p0 with
  | none => exact Op.bad hS 1 (by omega) rfl (m_B_put_no hC hc0) (fun w2 h2 => m_M_put_no h2 hR hI.wx hI.wd hn hI.bi hc0)
  | some c =>
    have hc := hI.bi.c hc0
    have hca := hI.ca c hc
    have hL := hca.2.2.1
    have len : (T.1 (carB c + 26)).length = (dDi D c).length := by rw [hL, List.length_map]
    have l24 := (hI.wd.2.2 c hc).1.1
    by_cases hv : p1 < 0 ∨ nI 4 ≤ p1 ∨ p2 < 0 ∨ nI 255 < p2
    · exact Op.bad hS 2 (by omega) rfl (m_B_put_bad hC hc0 hv) (fun w2 h2 => m_M_put_bad h2 hR hI.wx hI.wd hn hI.bi hc0 (hv.imp id (Or.imp id (Or.imp id (fun h => (i32_s (by omega)).mp h)))))
    · obtain ⟨i, hi, rfl⟩ := (rng0 p1 (m := 4) (by omega)).resolve_left (fun h => hv (h.elim (fun a => Or.inl a) (fun a => Or.inr (Or.inl a))))
      obtain ⟨v, -, hv2, rfl⟩ := i32_in (a := 0) (b := 255) (by omega) (by omega) (fun h => hv (Or.inr (Or.inr (Or.inl (by rw [← nI_0]; exact h))))) (fun h => hv (Or.inr (Or.inr (Or.inr h))))
      refine Op.mk hS 0 (dBy D c c i) (m_B_put hC ok hc0 hv) (fun o w1 h => ?_)
      obtain ⟨rfl, h1, h2⟩ := h
      refine ⟨Or.inl ⟨rfl, by rw [hca.2.2.2.2.2.2.1 i hi]⟩, h2.modK, n, ad, X, (T.1, T.2.1, up2 T.2.2 (carB c) 8 (T.2.2 (carB c) 8 &&& (nI 255 <<< (nI 8 * nI i &&& 31) ^^^ -1) ||| nI v <<< (nI 8 * nI i &&& 31))), pe, bi, rfl, h1, fun w2 h2 => ⟨_, m_M_put h2 hR hI.wx hI.wd hn hI.bi hc0 hi (show v < 256 by omega), fun o w3 h3 => ?_⟩⟩
      obtain ⟨e1, e2, e3⟩ := h3
      exact ⟨_, _, _, putD D c i (nI v), e1, fun _ => rfl, up1_s, e2, e3, hR.put hI.wx.1 hc hi, hZ.up (by omega), (hI.put hc hi (by omega)).t0⟩
set_option maxHeartbeats 1000000 in
theorem op_rounds {E : kx_E} {a0 m0 : Nat} {w : va_W} {n : Nat} {ad : Nat → Nat} {X : Fx} {D : Dy} {F : Nat → Int32} {T : LVS} {pe bi : Nat → Option Nat} {ma : Nat → Nat} {A : Nat → Nat → Int32} (hS : St E a0 m0 w n ad X D F T pe bi ma A) (p0 p1 : Int32) : Op E a0 m0 w Y_B_rounds Y_M_rounds [.int p0, .int p1] rI (R1 kx_iae) := by
  have hS1 := hS
  obtain ⟨rfl, rfl, hC, hM, hI, hR, hZ⟩ := hS1
  have hn := hI.co.2.1
  have ok := hI.bi.ok
  by_cases hv : p0 < 0 ∨ nI 200 < p0
  · exact Op.bad hS 1 (by omega) rfl (m_B_rounds_no hv) (fun w2 h2 => m_M_rounds_no h2 hv)
  · obtain ⟨r, -, hr, rfl⟩ := i32_in (a := 0) (b := 200) (by omega) (by omega) (fun h => hv (Or.inl (by rw [← nI_0]; exact h))) (fun h => hv (Or.inr h))
    refine Op.mk hS 0 (nI (r * cnM X p1 (2 * n))) (m_B_rounds hC hI.pe hI.is hI.wx.1 hI.co.1 hr p1) (fun o w1 h => ?_)
    obtain ⟨⟨rfl, h1, h2⟩, hIS⟩ := h
    obtain ⟨i1, i2⟩ := hI.rds r p1 hIS
    refine ⟨Or.inl ⟨rfl, by rw [i2]⟩, h2.modK, n, ad, X, rdT n pe p1 r T, pe, bi, rfl, h1, fun w2 h2 => ⟨_, m_M_rounds h2 hR hI.wx hI.wd hn hZ hr p1, fun o w3 h3 => ?_⟩⟩
    obtain ⟨e1, A1, e2, e3, e4⟩ := h3
    refine ⟨_, _, A1, _, e1, fun _ => rfl, ?_, e2, e4, e3.1, e3.2, i1.th (fun j hj => ?_)⟩
    · unfold rdF; rw [up1_n (by omega), up1_n (by omega), up1_s]
    · have e7 : up1 F 0 (nI 0) 8 = F 8 := up1_n (by omega)
      have e8 : up1 F 0 (nI 0) 9 = F 9 := up1_n (by omega)
      unfold rdF
      rw [e7, e8]
      by_cases q9 : j = 9
      · subst q9; rw [up1_s, up1_s]
      · rw [up1_n q9, up1_n q9]
        by_cases q8 : j = 8
        · subst q8; rw [up1_s, up1_s]
        · rw [up1_n q8, up1_n q8, up1_n hj]
set_option maxHeartbeats 1000000 in
theorem op_uncouple {E : kx_E} {a0 m0 : Nat} {w : va_W} {n : Nat} {ad : Nat → Nat} {X : Fx} {D : Dy} {F : Nat → Int32} {T : LVS} {pe bi : Nat → Option Nat} {ma : Nat → Nat} {A : Nat → Nat → Int32} (hS : St E a0 m0 w n ad X D F T pe bi ma A) (p0 p1 : Int32) : Op E a0 m0 w Y_B_uncouple Y_M_uncouple [.int p0, .int p1] rI (R2 kx_nse kx_ise) := by
  have hS1 := hS
  obtain ⟨rfl, rfl, hC, hM, hI, hR, hZ⟩ := hS1
  have hn := hI.co.2.1
  have ok := hI.bi.ok
  cases hc0 : carI bi p0 with
  | none => exact Op.bad hS 1 (by omega) rfl (m_B_uncouple_no hC ok (endQ_car hc0)) (fun w2 h2 => m_M_uncouple_no h2 hR hI.wx hI.wd hn hI.bi hc0)
  | some c =>
    have hc := hI.bi.c hc0
    have hca := hI.ca c hc
    have hL := hca.2.2.1
    have len : (T.1 (carB c + 26)).length = (dDi D c).length := by rw [hL, List.length_map]
    have l24 := (hI.wd.2.2 c hc).1.1
    rcases isE_c p1 with he | ⟨i, hi, rfl⟩
    · exact Op.bad hS 1 (by omega) rfl (m_B_uncouple_no hC ok (endQ_ne hc0 he)) (fun w2 h2 => m_M_uncouple_ne h2 hR hI.wx hI.wd hn hI.bi hc0 he)
    · have hp : 2 * c + i < 2 * n := by omega
      have hx := endQ_ok hc0 hi
      have hE := hca.e (p := 2 * c + i) (by omega)
      have hpe := hI.st.2.2.2.1 (2 * c + i) hp
      cases hl : xLk X (2 * c + i) with
      | none =>
        rw [hl] at hpe
        exact Op.bad hS 2 (by omega) rfl (m_B_uncouple_fre hC ok hx hpe) (fun w2 h2 => m_M_uncouple_fre h2 hR hI.wx hI.wd hn hI.bi hc0 hi hl)
      | some q =>
        rw [hl] at hpe
        have s6 : T.2.2 (eN (2 * c + i)) 6 = nI (xNu X (2 * c + i)) := by rw [hI.st.2.2.2.2 _ hp]; exact couM_e hl
        refine Op.mk hS 0 (nI (xNu X (2 * c + i))) (m_B_uncouple hC ok hx hI.pe hpe) (fun o w1 h => ?_)
        obtain ⟨rfl, h1, h2⟩ := h
        refine ⟨Or.inl ⟨rfl, by rw [s6]⟩, h2.modK, n, ad, uncX X (2 * c + i) q, (T.1, T.2.1, uncS T.2.2 (eN (2 * c + i)) (eN q)), _, bi, rfl, h1, fun w2 h2 => ⟨_, m_M_uncouple h2 hR hI.wx hI.wd hn hI.bi hc0 hi hl, fun o w3 h3 => ?_⟩⟩
        obtain ⟨e1, A1, e2, e3, e4⟩ := h3
        exact ⟨_, _, A1, D, e1, fun _ => rfl, by rw [up1_n (by omega), up1_s], e2, e4, e3.1, fun k hk => by rw [e3.2]; exact hZ k hk, hI.unc hp hl (by rw [up1_n (by omega), up1_n (by omega)]) up1_s (by rw [up1_n (by omega), up1_n (by omega)]) (by rw [up1_n (by omega), up1_n (by omega)])⟩
set_option maxHeartbeats 1000000 in
theorem op_couple {E : kx_E} {a0 m0 : Nat} {w : va_W} {n : Nat} {ad : Nat → Nat} {X : Fx} {D : Dy} {F : Nat → Int32} {T : LVS} {pe bi : Nat → Option Nat} {ma : Nat → Nat} {A : Nat → Nat → Int32} (hS : St E a0 m0 w n ad X D F T pe bi ma A) (p0 p1 p2 p3 : Int32) : Op E a0 m0 w Y_B_couple Y_M_couple [.int p0, .int p1, .int p2, .int p3] rI (R2 kx_nse kx_ise) := by
  have hS1 := hS
  obtain ⟨rfl, rfl, hC, hM, hI, hR, hZ⟩ := hS1
  have hn := hI.co.2.1
  have ok := hI.bi.ok
  cases ha : carI bi p0 with
  | none => exact Op.bad hS 1 (by omega) rfl (m_B_couple_no1 hC ok (endQ_car ha)) (fun w2 h2 => m_M_couple_a h2 hR hI.wx hI.wd hn hI.bi ha)
  | some x =>
    cases hb : carI bi p2 with
    | none =>
      cases hq : endQ bi p0 p1 with
      | none => exact Op.bad hS 1 (by omega) rfl (m_B_couple_no1 hC ok hq) (fun w2 h2 => m_M_couple_b h2 hR hI.wx hI.wd hn hI.bi ha hb)
      | some e => exact Op.bad hS 1 (by omega) rfl (m_B_couple_no2 hC ok hq (endQ_car hb)) (fun w2 h2 => m_M_couple_b h2 hR hI.wx hI.wd hn hI.bi ha hb)
    | some y =>
      rcases isE_c p1 with he | ⟨i, hi, rfl⟩
      · exact Op.bad hS 1 (by omega) rfl (m_B_couple_no1 hC ok (endQ_ne ha he)) (fun w2 h2 => m_M_couple_ea h2 hR hI.wx hI.wd hn hI.bi ha hb he)
      · have hx := endQ_ok ha hi
        rcases isE_c p3 with he | ⟨j, hj, rfl⟩
        · exact Op.bad hS 1 (by omega) rfl (m_B_couple_no2 hC ok hx (endQ_ne hb he)) (fun w2 h2 => m_M_couple_eb h2 hR hI.wx hI.wd hn hI.bi ha hb (isE_i hi) he)
        · have hy := endQ_ok hb hj
          have hxn := hI.bi.c ha
          have hyn := hI.bi.c hb
          have hp : 2 * x + i < 2 * n := by omega
          have hq : 2 * y + j < 2 * n := by omega
          have pp := hI.st.2.2.2.1 _ hp
          have pq := hI.st.2.2.2.1 _ hq
          have mn : ∀ o : Option Nat, o.map eN = none ↔ o = none := fun o => by cases o <;> simp
          by_cases hf : xLk X (2 * x + i) = none ∧ xLk X (2 * y + j) = none
          · have hpx : pe (eN (2 * x + i)) = none := by rw [pp, hf.1]; rfl
            have hpy : pe (eN (2 * y + j)) = none := by rw [pq, hf.2]; rfl
            have hY := hI.rn.acy hI.wx.1
            obtain ⟨jj, g1, g2, e3, g4⟩ := carI_in hb
            have hid := (hI.bi.1 jj y g4).2
            have ht := tru_tr hI.wx hI.st hI.rn hxn
            have hno : rowNo jj (truL pe T.2.2 x) 0 = rowNo y (trR X x) 0 := by rw [ht, ← hid]; exact no_map hI.wx hyn 0 (trR_lt hI.wx hxn)
            by_cases hT : rowNo y (trR X x) 0 = 0
            · obtain ⟨r, r1, r2, r3⟩ := hI.nu.free hI.wx hp hf.1
              have hd : (2 * y + j) / 2 ∉ rowIds (trM X ((2 * x + i) / 2)) := by
                rw [show (2 * y + j) / 2 = y by omega, show (2 * x + i) / 2 = x by omega, ← hI.rn.cars hI.wx.1 hxn]
                exact rowNo_0.mp hT
              have hne : 2 * x + i ≠ 2 * y + j := by
                intro e
                have e1 : x = y := by omega
                subst e1
                obtain ⟨-, -, -, k9, k1, k2⟩ := hI.rn.tr hI.wx.1 hxn
                refine (rowNo_0.mp hT) ((hI.rn.cars hI.wx.1 hxn x).mpr (at_rowIds k1 ?_))
                rw [k2]; omega
              obtain ⟨c1, c2⟩ := hI.cou (F' := up1 (up1 F 0 (nI 0)) 7 (F 7 + nI 1)) hp hq hne hf.1 hf.2 r1 r2 r3 hd (by rw [up1_n (by omega), up1_n (by omega)]) up1_s (by rw [up1_n (by omega), up1_n (by omega)]) (by rw [up1_n (by omega), up1_n (by omega)])
              refine Op.mk hS 0 (nI r) (m_B_couple hC ok hx hy hI.pe hI.is hpx hpy ha e3 g2 (by rw [hno]; exact hT)) (fun o w1 h => ?_)
              obtain ⟨rfl, h1, h2⟩ := h
              refine ⟨Or.inl ⟨rfl, by rw [c1]⟩, h2.modK, n, ad, couX X (2 * x + i) (2 * y + j) r, (up1 T.1 4 (truL pe T.2.2 x), T.2.1, couS T.2.2 (eN (2 * x + i)) (eN (2 * y + j))), _, bi, rfl, h1, fun w2 h2 => ⟨_, m_M_couple h2 hR hI.wx hI.wd hn hI.bi ha hb hi hj hf.1 hf.2 hY hT (show r < 32 by omega) r2 r3, fun o w3 h3 => ?_⟩⟩
              obtain ⟨e1, A1, e2, e3, e4⟩ := h3
              exact ⟨_, _, A1, D, e1, fun _ => rfl, by rw [up1_n (by omega), up1_s], e2, e4, e3.1, fun k hk => by rw [e3.2]; exact hZ k hk, c2.l4 _⟩
            · refine Op.mk hS 2 0 (m_B_couple_run hC ok hx hy hI.pe hI.is hpx hpy ha e3 g2 (by rw [hno]; exact hT)) (fun o w1 h => ?_)
              obtain ⟨rfl, h1, h2⟩ := h
              refine ⟨Or.inr ⟨by omega, _, rfl, rfl⟩, h2.modK, n, ad, X, (up1 T.1 4 (truL pe T.2.2 x), T.2.1, T.2.2), pe, bi, rfl, h1, fun w2 h2 => ⟨_, m_M_couple_run h2 hR hI.wx hI.wd hn hI.bi ha hb hi hj hf.1 hf.2 hY hT, fun o w3 h3 => ?_⟩⟩
              obtain ⟨e1, A1, e2, e3, e4⟩ := h3
              exact ⟨nI 0, _, A1, D, e1, fun e => by omega, up1_s, e2, e4, hR.ln e3, ModR.lnZ hZ e3, (hI.l4 _).t0⟩
          · exact Op.bad hS 2 (by omega) rfl (m_B_couple_cou hC ok hx hy (fun h => hf ⟨(mn _).mp (pp ▸ h.1), (mn _).mp (pq ▸ h.2)⟩)) (fun w2 h2 => m_M_couple_cou h2 hR hI.wx hI.wd hn hI.bi ha hb hi hj hf)
set_option maxHeartbeats 1000000 in
theorem op_add {E : kx_E} {a0 m0 : Nat} {w : va_W} {n : Nat} {ad : Nat → Nat} {X : Fx} {D : Dy} {F : Nat → Int32} {T : LVS} {pe bi : Nat → Option Nat} {ma : Nat → Nat} {A : Nat → Nat → Int32} (hS : St E a0 m0 w n ad X D F T pe bi ma A) (p0 p1 : Int32) : Op E a0 m0 w Y_B_add Y_M_add [.int p0, .int p1] rI (R2 kx_iae kx_ise) := by
  have hS1 := hS
  obtain ⟨rfl, rfl, hC, hM, hI, hR, hZ⟩ := hS1
  have hn := hI.co.2.1
  have ok := hI.bi.ok
  by_cases hv : p0 < nI 1 ∨ nI 255 < p0 ∨ p1 < 0 ∨ nI 65535 < p1
  · exact Op.bad hS 1 (by omega) rfl (m_B_add_bad hC hv) (fun w2 h2 => m_M_add_bad h2 hR hI.wx hI.wd hn hI.bi hv)
  · obtain ⟨id, i1, i2, rfl⟩ := i32_in (a := 1) (b := 255) (by omega) (by omega) (fun h => hv (Or.inl h)) (fun h => hv (Or.inr (Or.inl h)))
    obtain ⟨mask, -, k2, rfl⟩ := i32_in (a := 0) (b := 65535) (by omega) (by omega) (fun h => hv (Or.inr (Or.inr (Or.inl (by rw [← nI_0]; exact h))))) (fun h => hv (Or.inr (Or.inr (Or.inr h))))
    by_cases hb : bi id ≠ none ∨ 24 ≤ n
    · exact Op.bad hS 2 (by omega) rfl (m_B_add_full hC i1 i2 k2 hI.wx.1 hI.co.1 hb) (fun w2 h2 => m_M_add_full h2 hR hI.wx hI.wd hn hI.bi i1 i2 k2 hb)
    · have hb0 : bi id = none := Classical.byContradiction (fun e => hb (Or.inl e))
      have h24 : n < 24 := by
        rcases Nat.lt_or_ge n 24 with e | e
        · exact e
        · exact absurd (Or.inr e) hb
      refine Op.mk hS 0 (nI (n + 1)) (m_B_add hC hI.pe ok i1 i2 k2 h24 hI.co.1 hb0) (fun o w1 h => ?_)
      obtain ⟨rfl, a, h1, h2⟩ := h
      refine ⟨Or.inl ⟨rfl, rfl⟩, h2, n + 1, gAd n ad a, addX n X id mask, (gL n T.1, gV n T.2.1, gS n (up2 T.2.2 0 4 (nI (n + 1))) id (nI mask)), gP n pe, up1 bi id (some n), gAd_o (by omega), h1, fun w2 h2 => ⟨_, m_M_add h2 hR hI.wx hI.wd hn hI.bi i1 i2 k2 h24 hb0, fun o w3 h3 => ?_⟩⟩
      obtain ⟨e1, e2, e3⟩ := h3
      exact ⟨_, _, _, newD n D, e1, fun _ => rfl, by rw [up1_n (by omega), up1_s], e2, e3, hR.add, (Bz.ad hZ).for, hI.add h24 i1 i2 k2 hb0 up1_s (by rw [up1_n (by omega), up1_n (by omega)]) (by rw [up1_n (by omega), up1_n (by omega)]) (by rw [up1_n (by omega), up1_n (by omega)])⟩
