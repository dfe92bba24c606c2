/-! Car's methods, the small ones -/
theorem rowN_26 {n c : Nat} (hc : c < n) : rowN n (carB c + 26) := by unfold rowN; simp only [carB]; omega
theorem rowN_28 {n c : Nat} (hc : c < n) : rowN n (carB c + 28) := by unfold rowN; simp only [carB]; omega
theorem intN_30 {n c : Nat} (hc : c < n) : intN n (carB c + 30) := by unfold intN; simp only [carB]; omega
theorem intN_31 {n c : Nat} (hc : c < n) : intN n (carB c + 31) := by unfold intN; simp only [carB]; omega
theorem intN_f5 {n q : Nat} (hq : endN n q) : intN n (q + 5 + 5) := by unfold endN at hq; unfold intN; omega
theorem intN_f6 {n q : Nat} (hq : endN n q) : intN n (q + 5 + 6) := by unfold endN at hq; unfold intN; omega
def byI (word i : Int32) : Int32 := word >>> (nI 8 * i &&& 31) &&& nI 255
def hasI (mask f : Int32) : Nat := if mask >>> (f &&& 31) &&& nI 1 = 0 then 0 else 1
theorem d_C_byteOf_0 : decode c_C_byteOf 0 = .ok (.iload_n 0, 1) := by decide +kernel
theorem d_C_byteOf_1 : decode c_C_byteOf 1 = .ok (.bipush 8, 2) := by decide +kernel
theorem d_C_byteOf_3 : decode c_C_byteOf 3 = .ok (.iload_n 1, 1) := by decide +kernel
theorem d_C_byteOf_4 : decode c_C_byteOf 4 = .ok (.imul, 1) := by decide +kernel
theorem d_C_byteOf_5 : decode c_C_byteOf 5 = .ok (.ishr, 1) := by decide +kernel
theorem d_C_byteOf_6 : decode c_C_byteOf 6 = .ok (.sipush 255, 3) := by decide +kernel
theorem d_C_byteOf_9 : decode c_C_byteOf 9 = .ok (.iand, 1) := by decide +kernel
theorem d_C_byteOf_10 : decode c_C_byteOf 10 = .ok (.ireturn, 1) := by decide +kernel
set_option maxHeartbeats 2000000 in
theorem m_C_byteOf {E : kx_E} {w : va_W} (u i : Int32) : kx_S E Y_C_byteOf [.int u, .int i] w (kx_Qi w (byI u i)) := by
  refine kx_go (by decide) rfl rfl (Nat.le_of_ble_eq_true rfl) (kx_cc rfl (kx_cc rfl kx_c0)) (fun z => ?_)
  refine kx_iload_n d_C_byteOf_0 rfl ?_
  refine kx_bipush (nI 8) d_C_byteOf_1 (by decide) ?_
  refine kx_iload_n d_C_byteOf_3 rfl ?_
  refine kx_imul _ d_C_byteOf_4 rfl ?_
  refine kx_ishr _ d_C_byteOf_5 rfl ?_
  refine kx_sipush (nI 255) d_C_byteOf_6 (by decide) ?_
  refine kx_iand _ d_C_byteOf_9 rfl ?_
  refine kx_iret d_C_byteOf_10 rfl (by decide) (by decide) ?_
  exact ⟨rfl, rfl⟩
theorem d_C_hasFunction_0 : decode c_C_hasFunction 0 = .ok (.aload_n 0, 1) := by decide +kernel
theorem d_C_hasFunction_1 : decode c_C_hasFunction 1 = .ok (.getfield 15, 3) := by decide +kernel
theorem d_C_hasFunction_4 : decode c_C_hasFunction 4 = .ok (.iload_n 1, 1) := by decide +kernel
theorem d_C_hasFunction_5 : decode c_C_hasFunction 5 = .ok (.ishr, 1) := by decide +kernel
theorem d_C_hasFunction_6 : decode c_C_hasFunction 6 = .ok (.iconst 1, 1) := by decide +kernel
theorem d_C_hasFunction_7 : decode c_C_hasFunction 7 = .ok (.iand, 1) := by decide +kernel
theorem d_C_hasFunction_8 : decode c_C_hasFunction 8 = .ok (.ifCond .eq 7, 3) := by decide +kernel
theorem d_C_hasFunction_11 : decode c_C_hasFunction 11 = .ok (.iconst 1, 1) := by decide +kernel
theorem d_C_hasFunction_12 : decode c_C_hasFunction 12 = .ok (.goto 4, 3) := by decide +kernel
theorem d_C_hasFunction_15 : decode c_C_hasFunction 15 = .ok (.iconst 0, 1) := by decide +kernel
theorem d_C_hasFunction_16 : decode c_C_hasFunction 16 = .ok (.ireturn, 1) := by decide +kernel
set_option maxHeartbeats 2000000 in
theorem m_C_hasFunction {E : kx_E} {w : va_W} {n : Nat} {ad : Nat → Nat} {L : Nat → List Nat} {V S : Nat → Nat → Int32} {pe bi : Nat → Option Nat} (hC : Cls E w n ad L V S pe bi) {c : Nat} (hc : c < n) (f : Int32) : kx_S E Y_C_hasFunction [.ref (ad (carB c)), .int f] w (kx_Qi w (nI (hasI (S (carB c) 1) f))) := by
  refine kx_go (by decide) rfl rfl (Nat.le_of_ble_eq_true rfl) (kx_cc rfl (kx_cc rfl kx_c0)) (fun z => ?_)
  have hO : kx_off w w clsN := kx_off.rf
  refine kx_aload_n d_C_hasFunction_0 rfl (by first | rfl | exact kx_rf _) ?_
  refine kx_get _ d_C_hasFunction_1 f_C_15 (hC.car c hc) (by rfl) ?_
  refine kx_iload_n d_C_hasFunction_4 rfl ?_
  refine kx_ishr _ d_C_hasFunction_5 rfl ?_
  refine kx_iconst (nI 1) d_C_hasFunction_6 (by decide) ?_
  refine kx_iand _ d_C_hasFunction_7 rfl ?_
  refine kx_if_eq 15 d_C_hasFunction_8 (by decide) ?_ ?_
  · intro h8
    refine kx_iconst (nI 0) d_C_hasFunction_15 (by decide) ?_
    refine kx_zret d_C_hasFunction_16 rfl (by decide) (by decide) (by decide) ?_
    unfold hasI
    first
      | (rw [if_pos h8]; exact ⟨rfl, rfl⟩)
      | (rw [if_neg h8]; exact ⟨rfl, rfl⟩)
  · intro h8
    refine kx_iconst (nI 1) d_C_hasFunction_11 (by decide) ?_
    refine kx_goto 16 d_C_hasFunction_12 (by decide) ?_
    refine kx_zret d_C_hasFunction_16 rfl (by decide) (by decide) (by decide) ?_
    unfold hasI
    first
      | (rw [if_pos h8]; exact ⟨rfl, rfl⟩)
      | (rw [if_neg h8]; exact ⟨rfl, rfl⟩)
theorem d_C_replaceByte_0 : decode c_C_replaceByte 0 = .ok (.aload_n 0, 1) := by decide +kernel
theorem d_C_replaceByte_1 : decode c_C_replaceByte 1 = .ok (.getfield 69, 3) := by decide +kernel
theorem d_C_replaceByte_4 : decode c_C_replaceByte 4 = .ok (.iload_n 1, 1) := by decide +kernel
theorem d_C_replaceByte_5 : decode c_C_replaceByte 5 = .ok (.invokestatic 72, 3) := by decide +kernel
theorem d_C_replaceByte_8 : decode c_C_replaceByte 8 = .ok (.istore_n 3, 1) := by decide +kernel
theorem d_C_replaceByte_9 : decode c_C_replaceByte 9 = .ok (.aload_n 0, 1) := by decide +kernel
theorem d_C_replaceByte_10 : decode c_C_replaceByte 10 = .ok (.aload_n 0, 1) := by decide +kernel
theorem d_C_replaceByte_11 : decode c_C_replaceByte 11 = .ok (.getfield 69, 3) := by decide +kernel
theorem d_C_replaceByte_14 : decode c_C_replaceByte 14 = .ok (.sipush 255, 3) := by decide +kernel
theorem d_C_replaceByte_17 : decode c_C_replaceByte 17 = .ok (.bipush 8, 2) := by decide +kernel
theorem d_C_replaceByte_19 : decode c_C_replaceByte 19 = .ok (.iload_n 1, 1) := by decide +kernel
theorem d_C_replaceByte_20 : decode c_C_replaceByte 20 = .ok (.imul, 1) := by decide +kernel
theorem d_C_replaceByte_21 : decode c_C_replaceByte 21 = .ok (.ishl, 1) := by decide +kernel
theorem d_C_replaceByte_22 : decode c_C_replaceByte 22 = .ok (.iconst (-1), 1) := by decide +kernel
theorem d_C_replaceByte_23 : decode c_C_replaceByte 23 = .ok (.ixor, 1) := by decide +kernel
theorem d_C_replaceByte_24 : decode c_C_replaceByte 24 = .ok (.iand, 1) := by decide +kernel
theorem d_C_replaceByte_25 : decode c_C_replaceByte 25 = .ok (.iload_n 2, 1) := by decide +kernel
theorem d_C_replaceByte_26 : decode c_C_replaceByte 26 = .ok (.bipush 8, 2) := by decide +kernel
theorem d_C_replaceByte_28 : decode c_C_replaceByte 28 = .ok (.iload_n 1, 1) := by decide +kernel
theorem d_C_replaceByte_29 : decode c_C_replaceByte 29 = .ok (.imul, 1) := by decide +kernel
theorem d_C_replaceByte_30 : decode c_C_replaceByte 30 = .ok (.ishl, 1) := by decide +kernel
theorem d_C_replaceByte_31 : decode c_C_replaceByte 31 = .ok (.ior, 1) := by decide +kernel
theorem d_C_replaceByte_32 : decode c_C_replaceByte 32 = .ok (.putfield 69, 3) := by decide +kernel
theorem d_C_replaceByte_35 : decode c_C_replaceByte 35 = .ok (.iload_n 3, 1) := by decide +kernel
theorem d_C_replaceByte_36 : decode c_C_replaceByte 36 = .ok (.ireturn, 1) := by decide +kernel
set_option maxHeartbeats 2000000 in
theorem m_C_replaceByte {E : kx_E} {w : va_W} {n : Nat} {ad : Nat → Nat} {L : Nat → List Nat} {V S : Nat → Nat → Int32} {pe bi : Nat → Option Nat} (hC : Cls E w n ad L V S pe bi) {c : Nat} (hc : c < n) (i v : Int32) : kx_S E Y_C_replaceByte [.ref (ad (carB c)), .int i, .int v] w (CQ E w n ad L V (up2 S (carB c) 8 (S (carB c) 8 &&& (nI 255 <<< (nI 8 * i &&& 31) ^^^ -1) ||| v <<< (nI 8 * i &&& 31))) pe bi (some (.int (byI (S (carB c) 8) i)))) := by
  refine kx_go (by decide) rfl rfl (Nat.le_of_ble_eq_true rfl) (kx_cc rfl (kx_cc rfl (kx_cc rfl kx_c0))) (fun z => ?_)
  have hO : kx_off w w clsN := kx_off.rf
  refine kx_aload_n d_C_replaceByte_0 rfl (by first | rfl | exact kx_rf _) ?_
  refine kx_get _ d_C_replaceByte_1 f_C_69 (hC.car c hc) (by rfl) ?_
  refine kx_iload_n d_C_replaceByte_4 rfl ?_
  refine kx_callS (as := [.int (S (carB c) 8), .int i]) (rest := []) d_C_replaceByte_5 s_C_72 rfl (by decide) (by decide) (by decide) (by decide) (by decide) rfl (m_C_byteOf _ _) (fun X w1 h => by cases h.1) (fun v w1 hq => ?_)
  obtain ⟨hv, hw9⟩ := hq
  cases hv
  subst hw9
  refine kx_istore_n d_C_replaceByte_8 (by decide) ?_
  refine kx_aload_n d_C_replaceByte_9 rfl (by first | rfl | exact kx_rf _) ?_
  refine kx_aload_n d_C_replaceByte_10 rfl (by first | rfl | exact kx_rf _) ?_
  refine kx_get _ d_C_replaceByte_11 f_C_69 (hC.car c hc) (by rfl) ?_
  refine kx_sipush (nI 255) d_C_replaceByte_14 (by decide) ?_
  refine kx_bipush (nI 8) d_C_replaceByte_17 (by decide) ?_
  refine kx_iload_n d_C_replaceByte_19 rfl ?_
  refine kx_imul _ d_C_replaceByte_20 rfl ?_
  refine kx_ishl _ d_C_replaceByte_21 rfl ?_
  refine kx_iconst (-1) d_C_replaceByte_22 (by decide) ?_
  refine kx_ixor _ d_C_replaceByte_23 rfl ?_
  refine kx_iand _ d_C_replaceByte_24 rfl ?_
  refine kx_iload_n d_C_replaceByte_25 rfl ?_
  refine kx_bipush (nI 8) d_C_replaceByte_26 (by decide) ?_
  refine kx_iload_n d_C_replaceByte_28 rfl ?_
  refine kx_imul _ d_C_replaceByte_29 rfl ?_
  refine kx_ishl _ d_C_replaceByte_30 rfl ?_
  refine kx_ior _ d_C_replaceByte_31 rfl ?_
  refine cC_put8 d_C_replaceByte_32 f_C_69 hC hO hc (fun w hC hO => ?_)
  refine kx_iload_n d_C_replaceByte_35 rfl ?_
  refine kx_iret d_C_replaceByte_36 rfl (by decide) (by decide) ?_
  exact ⟨rfl, hC, hO⟩
def knownI (A W : Nat → Int32) (own : Int32) (num j : Nat) (i : Int32) : Int32 := if (if j + 1 = num then nI 0 else A j) = -1 ∨ i = nI 4 then (if j + 1 = num then nI 0 else A j) else byI (if j + 1 = num then own else W j) i
theorem d_C_known_0 : decode c_C_known 0 = .ok (.iload_n 1, 1) := by decide +kernel
theorem d_C_known_1 : decode c_C_known 1 = .ok (.iconst 1, 1) := by decide +kernel
theorem d_C_known_2 : decode c_C_known 2 = .ok (.if_icmp .lt 14, 3) := by decide +kernel
theorem d_C_known_5 : decode c_C_known 5 = .ok (.iload_n 1, 1) := by decide +kernel
theorem d_C_known_6 : decode c_C_known 6 = .ok (.aload_n 0, 1) := by decide +kernel
theorem d_C_known_7 : decode c_C_known 7 = .ok (.getfield 34, 3) := by decide +kernel
theorem d_C_known_10 : decode c_C_known 10 = .ok (.getfield 76, 3) := by decide +kernel
theorem d_C_known_13 : decode c_C_known 13 = .ok (.if_icmp .le 5, 3) := by decide +kernel
theorem d_C_known_16 : decode c_C_known 16 = .ok (.iconst (-1), 1) := by decide +kernel
theorem d_C_known_17 : decode c_C_known 17 = .ok (.ireturn, 1) := by decide +kernel
theorem d_C_known_18 : decode c_C_known 18 = .ok (.iload_n 1, 1) := by decide +kernel
theorem d_C_known_19 : decode c_C_known 19 = .ok (.aload_n 0, 1) := by decide +kernel
theorem d_C_known_20 : decode c_C_known 20 = .ok (.getfield 60, 3) := by decide +kernel
theorem d_C_known_23 : decode c_C_known 23 = .ok (.if_icmp .ne 7, 3) := by decide +kernel
theorem d_C_known_26 : decode c_C_known 26 = .ok (.iconst 0, 1) := by decide +kernel
theorem d_C_known_27 : decode c_C_known 27 = .ok (.goto 11, 3) := by decide +kernel
theorem d_C_known_30 : decode c_C_known 30 = .ok (.aload_n 0, 1) := by decide +kernel
theorem d_C_known_31 : decode c_C_known 31 = .ok (.getfield 41, 3) := by decide +kernel
theorem d_C_known_34 : decode c_C_known 34 = .ok (.iload_n 1, 1) := by decide +kernel
theorem d_C_known_35 : decode c_C_known 35 = .ok (.iconst 1, 1) := by decide +kernel
theorem d_C_known_36 : decode c_C_known 36 = .ok (.isub, 1) := by decide +kernel
theorem d_C_known_37 : decode c_C_known 37 = .ok (.iaload, 1) := by decide +kernel
theorem d_C_known_38 : decode c_C_known 38 = .ok (.istore_n 3, 1) := by decide +kernel
theorem d_C_known_39 : decode c_C_known 39 = .ok (.iload_n 3, 1) := by decide +kernel
theorem d_C_known_40 : decode c_C_known 40 = .ok (.iconst (-1), 1) := by decide +kernel
theorem d_C_known_41 : decode c_C_known 41 = .ok (.if_icmp .eq 8, 3) := by decide +kernel
theorem d_C_known_44 : decode c_C_known 44 = .ok (.iload_n 2, 1) := by decide +kernel
theorem d_C_known_45 : decode c_C_known 45 = .ok (.iconst 4, 1) := by decide +kernel
theorem d_C_known_46 : decode c_C_known 46 = .ok (.if_icmp .ne 5, 3) := by decide +kernel
theorem d_C_known_49 : decode c_C_known 49 = .ok (.iload_n 3, 1) := by decide +kernel
theorem d_C_known_50 : decode c_C_known 50 = .ok (.ireturn, 1) := by decide +kernel
theorem d_C_known_51 : decode c_C_known 51 = .ok (.iload_n 1, 1) := by decide +kernel
theorem d_C_known_52 : decode c_C_known 52 = .ok (.aload_n 0, 1) := by decide +kernel
theorem d_C_known_53 : decode c_C_known 53 = .ok (.getfield 60, 3) := by decide +kernel
theorem d_C_known_56 : decode c_C_known 56 = .ok (.if_icmp .ne 10, 3) := by decide +kernel
theorem d_C_known_59 : decode c_C_known 59 = .ok (.aload_n 0, 1) := by decide +kernel
theorem d_C_known_60 : decode c_C_known 60 = .ok (.getfield 69, 3) := by decide +kernel
theorem d_C_known_63 : decode c_C_known 63 = .ok (.goto 11, 3) := by decide +kernel
theorem d_C_known_66 : decode c_C_known 66 = .ok (.aload_n 0, 1) := by decide +kernel
theorem d_C_known_67 : decode c_C_known 67 = .ok (.getfield 45, 3) := by decide +kernel
theorem d_C_known_70 : decode c_C_known 70 = .ok (.iload_n 1, 1) := by decide +kernel
theorem d_C_known_71 : decode c_C_known 71 = .ok (.iconst 1, 1) := by decide +kernel
theorem d_C_known_72 : decode c_C_known 72 = .ok (.isub, 1) := by decide +kernel
theorem d_C_known_73 : decode c_C_known 73 = .ok (.iaload, 1) := by decide +kernel
theorem d_C_known_74 : decode c_C_known 74 = .ok (.iload_n 2, 1) := by decide +kernel
theorem d_C_known_75 : decode c_C_known 75 = .ok (.invokestatic 72, 3) := by decide +kernel
theorem d_C_known_78 : decode c_C_known 78 = .ok (.ireturn, 1) := by decide +kernel
set_option maxHeartbeats 2000000 in
theorem m_C_known {E : kx_E} {w : va_W} {n : Nat} {ad : Nat → Nat} {L : Nat → List Nat} {V S : Nat → Nat → Int32} {pe bi : Nat → Option Nat} (hC : Cls E w n ad L V S pe bi) {c num j : Nat} (hc : c < n) (hn : S (carB c) 7 = nI num) (h24 : num ≤ 24) (hj : j < (L (carB c + 26)).length) (i : Int32) : kx_S E Y_C_known [.ref (ad (carB c)), .int (nI (j + 1)), .int i] w (kx_Qi w (knownI (V (carB c + 30)) (V (carB c + 31)) (S (carB c) 8) num j i)) := by
  refine kx_go (by decide) rfl rfl (Nat.le_of_ble_eq_true rfl) (kx_cc rfl (kx_cc rfl (kx_cc rfl kx_c0))) (fun z => ?_)
  have hO : kx_off w w clsN := kx_off.rf
  have hl := (hC.row _ (rowN_26 hc)).2.2.1
  unfold knownI
  have key : ∀ age : Int32, age = (if j + 1 = num then nI 0 else V (carB c + 30) j) → kx_R E Y_C_known z 38 [(0, .ref (ad (carB c))), (1, .int (nI (j + 1))), (2, .int i)] [.int age] w 0 0 (kx_Qi w (if (if j + 1 = num then nI 0 else V (carB c + 30) j) = -1 ∨ i = nI 4 then (if j + 1 = num then nI 0 else V (carB c + 30) j) else byI (if j + 1 = num then S (carB c) 8 else V (carB c + 31) j) i)) := by
    intro age ha
    rw [← ha]
    refine kx_istore_n d_C_known_38 (by decide) ?_
    refine kx_iload_n d_C_known_39 rfl ?_
    refine kx_iconst (-1) d_C_known_40 (by decide) ?_
    refine kx_icmp_eq 49 d_C_known_41 (by decide) ?_ ?_
    · intro h41
      refine kx_iload_n d_C_known_49 rfl ?_
      first
        | (rw [if_pos (Or.inl h41)]; exact kx_iret d_C_known_50 rfl (by decide) (by decide) ⟨rfl, rfl⟩)
        | (rw [if_pos (Or.inr h46)]; exact kx_iret d_C_known_50 rfl (by decide) (by decide) ⟨rfl, rfl⟩)
    · intro h41
      refine kx_iload_n d_C_known_44 rfl ?_
      refine kx_iconst (nI 4) d_C_known_45 (by decide) ?_
      refine kx_icmp_ne 51 d_C_known_46 (by decide) ?_ ?_
      · intro h46
        rw [if_neg (fun q => by rcases q with q | q; exact h41 q; exact h46 q)]
        refine kx_iload_n d_C_known_51 rfl ?_
        refine kx_aload_n d_C_known_52 rfl (by first | rfl | exact kx_rf _) ?_
        refine kx_get _ d_C_known_53 f_C_60 (hC.car c hc) (by rfl) ?_
        rw [hn]
        first | refine kx_icmp_ne_n 66 d_C_known_56 (by decide) (by omega) (by omega) ?_ ?_ | refine kx_icmp_ne 66 d_C_known_56 (by decide) ?_ ?_
        · intro h56
          refine kx_aload_n d_C_known_66 rfl (by first | rfl | exact kx_rf _) ?_
          refine kx_get _ d_C_known_67 f_C_45 (hC.car c hc) (by rfl) ?_
          refine kx_iload_n d_C_known_70 rfl ?_
          refine kx_iconst (nI 1) d_C_known_71 (by decide) ?_
          first | refine kx_isub _ d_C_known_72 (pk_sub (by omega)) ?_ | refine kx_isub _ d_C_known_72 rfl ?_
          refine cV_get d_C_known_73 hC (intN_31 hc) (by omega) ?_
          refine kx_iload_n d_C_known_74 rfl ?_
          refine kx_callS (as := [.int _, .int _]) (rest := []) d_C_known_75 s_C_72 rfl (by decide) (by decide) (by decide) (by decide) (by decide) rfl (m_C_byteOf _ _) (fun X w1 h => by cases h.1) (fun v w1 hq => ?_)
          obtain ⟨hv, hw9⟩ := hq
          cases hv
          subst hw9
          refine kx_stk (st1 := [.int (byI _ i)]) rfl ?_
          first
            | (rw [if_pos h56]; exact kx_iret d_C_known_78 rfl (by decide) (by decide) ⟨rfl, rfl⟩)
            | (rw [if_neg h56]; exact kx_iret d_C_known_78 rfl (by decide) (by decide) ⟨rfl, rfl⟩)
        · intro h56
          refine kx_aload_n d_C_known_59 rfl (by first | rfl | exact kx_rf _) ?_
          refine kx_get _ d_C_known_60 f_C_69 (hC.car c hc) (by rfl) ?_
          refine kx_goto 74 d_C_known_63 (by decide) ?_
          refine kx_iload_n d_C_known_74 rfl ?_
          refine kx_callS (as := [.int _, .int _]) (rest := []) d_C_known_75 s_C_72 rfl (by decide) (by decide) (by decide) (by decide) (by decide) rfl (m_C_byteOf _ _) (fun X w1 h => by cases h.1) (fun v w1 hq => ?_)
          obtain ⟨hv, hw9⟩ := hq
          cases hv
          subst hw9
          refine kx_stk (st1 := [.int (byI _ i)]) rfl ?_
          first
            | (rw [if_pos h56]; exact kx_iret d_C_known_78 rfl (by decide) (by decide) ⟨rfl, rfl⟩)
            | (rw [if_neg h56]; exact kx_iret d_C_known_78 rfl (by decide) (by decide) ⟨rfl, rfl⟩)
      · intro h46
        refine kx_iload_n d_C_known_49 rfl ?_
        first
          | (rw [if_pos (Or.inl h41)]; exact kx_iret d_C_known_50 rfl (by decide) (by decide) ⟨rfl, rfl⟩)
          | (rw [if_pos (Or.inr h46)]; exact kx_iret d_C_known_50 rfl (by decide) (by decide) ⟨rfl, rfl⟩)
  refine kx_iload_n d_C_known_0 rfl ?_
  refine kx_iconst (nI 1) d_C_known_1 (by decide) ?_
  first | refine kx_icmp_lt_n 16 d_C_known_2 (by decide) (by omega) (by omega) ?_ ?_ | refine kx_icmp_lt 16 d_C_known_2 (by decide) ?_ ?_
  · intro h2
    first | exact absurd h2 (by omega) | exact absurd h13 (by omega)
  · intro h2
    refine kx_iload_n d_C_known_5 rfl ?_
    refine kx_aload_n d_C_known_6 rfl (by first | rfl | exact kx_rf _) ?_
    refine kx_get _ d_C_known_7 f_C_34 (hC.car c hc) (by rfl) ?_
    refine kx_get _ d_C_known_10 f_C_76 (hC.rowObj (rowN_26 hc)) (by rfl) ?_
    first | refine kx_icmp_le_n 18 d_C_known_13 (by decide) (by omega) (by omega) ?_ ?_ | refine kx_icmp_le 18 d_C_known_13 (by decide) ?_ ?_
    · intro h13
      refine kx_iload_n d_C_known_18 rfl ?_
      refine kx_aload_n d_C_known_19 rfl (by first | rfl | exact kx_rf _) ?_
      refine kx_get _ d_C_known_20 f_C_60 (hC.car c hc) (by rfl) ?_
      rw [hn]
      first | refine kx_icmp_ne_n 30 d_C_known_23 (by decide) (by omega) (by omega) ?_ ?_ | refine kx_icmp_ne 30 d_C_known_23 (by decide) ?_ ?_
      · intro h23
        refine kx_aload_n d_C_known_30 rfl (by first | rfl | exact kx_rf _) ?_
        refine kx_get _ d_C_known_31 f_C_41 (hC.car c hc) (by rfl) ?_
        refine kx_iload_n d_C_known_34 rfl ?_
        refine kx_iconst (nI 1) d_C_known_35 (by decide) ?_
        first | refine kx_isub _ d_C_known_36 (pk_sub (by omega)) ?_ | refine kx_isub _ d_C_known_36 rfl ?_
        refine cV_get d_C_known_37 hC (intN_30 hc) (by omega) ?_
        refine kx_loc (L1 := [(0, .ref (ad (carB c))), (1, .int (nI (j + 1))), (2, .int i)]) ⟨rfl, rfl, rfl, trivial⟩ ?_
        refine key _ ?_
        first
          | (rw [if_pos h23]; done)
          | (rw [if_neg h23]; rfl)
      · intro h23
        refine kx_iconst (nI 0) d_C_known_26 (by decide) ?_
        refine kx_goto 38 d_C_known_27 (by decide) ?_
        refine kx_loc (L1 := [(0, .ref (ad (carB c))), (1, .int (nI (j + 1))), (2, .int i)]) ⟨rfl, rfl, rfl, trivial⟩ ?_
        refine key _ ?_
        first
          | (rw [if_pos h23]; done)
          | (rw [if_neg h23]; rfl)
    · intro h13
      first | exact absurd h2 (by omega) | exact absurd h13 (by omega)
set_option maxHeartbeats 2000000 in
theorem m_C_known_no {E : kx_E} {w : va_W} {n : Nat} {ad : Nat → Nat} {L : Nat → List Nat} {V S : Nat → Nat → Int32} {pe bi : Nat → Option Nat} (hC : Cls E w n ad L V S pe bi) {c : Nat} (hc : c < n) {v : Int32} (hv : v < nI 1 ∨ nI (L (carB c + 26)).length < v) (i : Int32) : kx_S E Y_C_known [.ref (ad (carB c)), .int v, .int i] w (kx_Qi w (-1)) := by
  refine kx_go (by decide) rfl rfl (Nat.le_of_ble_eq_true rfl) (kx_cc rfl (kx_cc rfl (kx_cc rfl kx_c0))) (fun z => ?_)
  have hO : kx_off w w clsN := kx_off.rf
  refine kx_iload_n d_C_known_0 rfl ?_
  refine kx_iconst (nI 1) d_C_known_1 (by decide) ?_
  refine kx_icmp_lt 16 d_C_known_2 (by decide) ?_ ?_
  · intro h2
    refine kx_iconst (-1) d_C_known_16 (by decide) ?_
    refine kx_iret d_C_known_17 rfl (by decide) (by decide) ?_
    exact ⟨rfl, rfl⟩
  · intro h2
    refine kx_iload_n d_C_known_5 rfl ?_
    refine kx_aload_n d_C_known_6 rfl (by first | rfl | exact kx_rf _) ?_
    refine kx_get _ d_C_known_7 f_C_34 (hC.car c hc) (by rfl) ?_
    refine kx_get _ d_C_known_10 f_C_76 (hC.rowObj (rowN_26 hc)) (by rfl) ?_
    refine kx_icmp_le 18 d_C_known_13 (by decide) ?_ ?_
    · intro h13
      exact absurd h13 (fun h9 => by rcases hv with h | h; exact h2 h; exact absurd (Int32.lt_iff_toInt_lt.mp h) (Int.not_lt.mpr (Int32.le_iff_toInt_le.mp h9)))
    · intro h13
      refine kx_iconst (-1) d_C_known_16 (by decide) ?_
      refine kx_iret d_C_known_17 rfl (by decide) (by decide) ?_
      exact ⟨rfl, rfl⟩
def agrI (L : Nat → List Nat) (c e s : Nat) : Nat := if 4 ≤ s ∨ L (e + 3) = L (carB c + 26) then 1 else 0
theorem d_C_agreesAt_0 : decode c_C_agreesAt 0 = .ok (.aload_n 1, 1) := by decide +kernel
theorem d_C_agreesAt_1 : decode c_C_agreesAt 1 = .ok (.getfield 87, 3) := by decide +kernel
theorem d_C_agreesAt_4 : decode c_C_agreesAt 4 = .ok (.iconst 4, 1) := by decide +kernel
theorem d_C_agreesAt_5 : decode c_C_agreesAt 5 = .ok (.if_icmp .ge 17, 3) := by decide +kernel
theorem d_C_agreesAt_8 : decode c_C_agreesAt 8 = .ok (.aload_n 1, 1) := by decide +kernel
theorem d_C_agreesAt_9 : decode c_C_agreesAt 9 = .ok (.getfield 101, 3) := by decide +kernel
theorem d_C_agreesAt_12 : decode c_C_agreesAt 12 = .ok (.aload_n 0, 1) := by decide +kernel
theorem d_C_agreesAt_13 : decode c_C_agreesAt 13 = .ok (.getfield 34, 3) := by decide +kernel
theorem d_C_agreesAt_16 : decode c_C_agreesAt 16 = .ok (.invokevirtual 104, 3) := by decide +kernel
theorem d_C_agreesAt_19 : decode c_C_agreesAt 19 = .ok (.ifCond .eq 7, 3) := by decide +kernel
theorem d_C_agreesAt_22 : decode c_C_agreesAt 22 = .ok (.iconst 1, 1) := by decide +kernel
theorem d_C_agreesAt_23 : decode c_C_agreesAt 23 = .ok (.goto 4, 3) := by decide +kernel
theorem d_C_agreesAt_26 : decode c_C_agreesAt 26 = .ok (.iconst 0, 1) := by decide +kernel
theorem d_C_agreesAt_27 : decode c_C_agreesAt 27 = .ok (.ireturn, 1) := by decide +kernel
set_option maxHeartbeats 2000000 in
theorem m_C_agreesAt {E : kx_E} {w : va_W} {n : Nat} {ad : Nat → Nat} {L : Nat → List Nat} {V S : Nat → Nat → Int32} {pe bi : Nat → Option Nat} (hC : Cls E w n ad L V S pe bi) {c e s : Nat} (hc : c < n) (he : endN n e) (hs : S e 8 = nI s) (h4 : s ≤ 4) : kx_S E Y_C_agreesAt [.ref (ad (carB c)), .ref (ad e)] w (kx_Qi w (nI (agrI L c e s))) := by
  refine kx_go (by decide) rfl rfl (Nat.le_of_ble_eq_true rfl) (kx_cc rfl (kx_cc rfl kx_c0)) (fun z => ?_)
  have hO : kx_off w w clsN := kx_off.rf
  refine kx_aload_n d_C_agreesAt_0 rfl (by first | rfl | exact kx_rf _) ?_
  refine kx_get _ d_C_agreesAt_1 f_C_87 (hC.endAt he) (by rfl) ?_
  rw [hs]
  refine kx_iconst (nI 4) d_C_agreesAt_4 (by decide) ?_
  first | refine kx_icmp_ge_n 22 d_C_agreesAt_5 (by decide) (by omega) (by omega) ?_ ?_ | refine kx_icmp_ge 22 d_C_agreesAt_5 (by decide) ?_ ?_
  · intro h5
    refine kx_iconst (nI 1) d_C_agreesAt_22 (by decide) ?_
    refine kx_goto 27 d_C_agreesAt_23 (by decide) ?_
    unfold agrI
    first
      | (rw [if_pos (Or.inl h5)]; exact kx_zret d_C_agreesAt_27 rfl (by decide) (by decide) (by decide) ⟨rfl, rfl⟩)
      | (have e : L (e + 3) = L (carB c + 26) := Decidable.byContradiction (fun q => h19 (by rw [if_neg q]))
         rw [if_pos (Or.inr e)]; exact kx_zret d_C_agreesAt_27 rfl (by decide) (by decide) (by decide) ⟨rfl, rfl⟩)
      | (rw [if_neg]; exact kx_zret d_C_agreesAt_27 rfl (by decide) (by decide) (by decide) ⟨rfl, rfl⟩
         rintro (q | q)
         · omega
         · rw [if_pos q] at h19; cases h19)
  · intro h5
    refine kx_aload_n d_C_agreesAt_8 rfl (by first | rfl | exact kx_rf _) ?_
    refine kx_get _ d_C_agreesAt_9 f_C_101 (hC.endAt he) (by rfl) ?_
    refine kx_aload_n d_C_agreesAt_12 rfl (by first | rfl | exact kx_rf _) ?_
    refine kx_get _ d_C_agreesAt_13 f_C_34 (hC.car c hc) (by rfl) ?_
    refine cR_isSameAs d_C_agreesAt_16 v_C_104 hC (rowN_e3 he) (rowN_26 hc) (by decide) (Nat.le_of_ble_eq_true rfl) (by decide) (by decide) ?_
    refine kx_if_eq_n 26 d_C_agreesAt_19 (by decide) (by split <;> decide) ?_ ?_
    · intro h19
      refine kx_iconst (nI 0) d_C_agreesAt_26 (by decide) ?_
      unfold agrI
      first
        | (rw [if_pos (Or.inl h5)]; exact kx_zret d_C_agreesAt_27 rfl (by decide) (by decide) (by decide) ⟨rfl, rfl⟩)
        | (have e : L (e + 3) = L (carB c + 26) := Decidable.byContradiction (fun q => h19 (by rw [if_neg q]))
           rw [if_pos (Or.inr e)]; exact kx_zret d_C_agreesAt_27 rfl (by decide) (by decide) (by decide) ⟨rfl, rfl⟩)
        | (rw [if_neg]; exact kx_zret d_C_agreesAt_27 rfl (by decide) (by decide) (by decide) ⟨rfl, rfl⟩
           rintro (q | q)
           · omega
           · rw [if_pos q] at h19; cases h19)
    · intro h19
      refine kx_iconst (nI 1) d_C_agreesAt_22 (by decide) ?_
      refine kx_goto 27 d_C_agreesAt_23 (by decide) ?_
      unfold agrI
      first
        | (rw [if_pos (Or.inl h5)]; exact kx_zret d_C_agreesAt_27 rfl (by decide) (by decide) (by decide) ⟨rfl, rfl⟩)
        | (have e : L (e + 3) = L (carB c + 26) := Decidable.byContradiction (fun q => h19 (by rw [if_neg q]))
           rw [if_pos (Or.inr e)]; exact kx_zret d_C_agreesAt_27 rfl (by decide) (by decide) (by decide) ⟨rfl, rfl⟩)
        | (rw [if_neg]; exact kx_zret d_C_agreesAt_27 rfl (by decide) (by decide) (by decide) ⟨rfl, rfl⟩
           rintro (q | q)
           · omega
           · rw [if_pos q] at h19; cases h19)
theorem agrI_01 (L : Nat → List Nat) (c e s : Nat) : agrI L c e s = 0 ∨ agrI L c e s = 1 := by unfold agrI; split <;> simp
def staI (L : Nat → List Nat) (c s0 s1 : Nat) : Nat := if (L (carB c + 26)).length = 0 then 0 else if agrI L c (carE c 0) s0 = 1 ∧ agrI L c (carE c 1) s1 = 1 then 2 else 1
theorem d_C_state_0 : decode c_C_state 0 = .ok (.aload_n 0, 1) := by decide +kernel
theorem d_C_state_1 : decode c_C_state 1 = .ok (.getfield 34, 3) := by decide +kernel
theorem d_C_state_4 : decode c_C_state 4 = .ok (.getfield 76, 3) := by decide +kernel
theorem d_C_state_7 : decode c_C_state 7 = .ok (.ifCond .ne 5, 3) := by decide +kernel
theorem d_C_state_10 : decode c_C_state 10 = .ok (.iconst 0, 1) := by decide +kernel
theorem d_C_state_11 : decode c_C_state 11 = .ok (.ireturn, 1) := by decide +kernel
theorem d_C_state_12 : decode c_C_state 12 = .ok (.aload_n 0, 1) := by decide +kernel
theorem d_C_state_13 : decode c_C_state 13 = .ok (.aload_n 0, 1) := by decide +kernel
theorem d_C_state_14 : decode c_C_state 14 = .ok (.getfield 20, 3) := by decide +kernel
theorem d_C_state_17 : decode c_C_state 17 = .ok (.iconst 0, 1) := by decide +kernel
theorem d_C_state_18 : decode c_C_state 18 = .ok (.aaload, 1) := by decide +kernel
theorem d_C_state_19 : decode c_C_state 19 = .ok (.invokevirtual 97, 3) := by decide +kernel
theorem d_C_state_22 : decode c_C_state 22 = .ok (.ifCond .eq 20, 3) := by decide +kernel
theorem d_C_state_25 : decode c_C_state 25 = .ok (.aload_n 0, 1) := by decide +kernel
theorem d_C_state_26 : decode c_C_state 26 = .ok (.aload_n 0, 1) := by decide +kernel
theorem d_C_state_27 : decode c_C_state 27 = .ok (.getfield 20, 3) := by decide +kernel
theorem d_C_state_30 : decode c_C_state 30 = .ok (.iconst 1, 1) := by decide +kernel
theorem d_C_state_31 : decode c_C_state 31 = .ok (.aaload, 1) := by decide +kernel
theorem d_C_state_32 : decode c_C_state 32 = .ok (.invokevirtual 97, 3) := by decide +kernel
theorem d_C_state_35 : decode c_C_state 35 = .ok (.ifCond .eq 7, 3) := by decide +kernel
theorem d_C_state_38 : decode c_C_state 38 = .ok (.iconst 2, 1) := by decide +kernel
theorem d_C_state_39 : decode c_C_state 39 = .ok (.goto 4, 3) := by decide +kernel
theorem d_C_state_42 : decode c_C_state 42 = .ok (.iconst 1, 1) := by decide +kernel
theorem d_C_state_43 : decode c_C_state 43 = .ok (.ireturn, 1) := by decide +kernel
set_option maxHeartbeats 2000000 in
theorem m_C_state {E : kx_E} {w : va_W} {n : Nat} {ad : Nat → Nat} {L : Nat → List Nat} {V S : Nat → Nat → Int32} {pe bi : Nat → Option Nat} (hC : Cls E w n ad L V S pe bi) {c s0 s1 : Nat} (hc : c < n) (hs0 : S (carE c 0) 8 = nI s0) (hs1 : S (carE c 1) 8 = nI s1) (h40 : s0 ≤ 4) (h41 : s1 ≤ 4) : kx_S E Y_C_state [.ref (ad (carB c))] w (kx_Qi w (nI (staI L c s0 s1))) := by
  refine kx_go (by decide) rfl rfl (Nat.le_of_ble_eq_true rfl) (kx_cc rfl kx_c0) (fun z => ?_)
  have hO : kx_off w w clsN := kx_off.rf
  have hl := (hC.row _ (rowN_26 hc)).2.2.1
  have z0 := agrI_01 L c (carE c 0) s0
  have z1 := agrI_01 L c (carE c 1) s1
  refine kx_aload_n d_C_state_0 rfl (by first | rfl | exact kx_rf _) ?_
  refine kx_get _ d_C_state_1 f_C_34 (hC.car c hc) (by rfl) ?_
  refine kx_get _ d_C_state_4 f_C_76 (hC.rowObj (rowN_26 hc)) (by rfl) ?_
  first | refine kx_if_ne_n 12 d_C_state_7 (by decide) (by omega) ?_ ?_ | refine kx_if_ne 12 d_C_state_7 (by decide) ?_ ?_
  · intro h7
    refine kx_aload_n d_C_state_12 rfl (by first | rfl | exact kx_rf _) ?_
    refine kx_aload_n d_C_state_13 rfl (by first | rfl | exact kx_rf _) ?_
    refine kx_get _ d_C_state_14 f_C_20 (hC.car c hc) (by rfl) ?_
    refine kx_iconst (nI 0) d_C_state_17 (by decide) ?_
    refine cA_end d_C_state_18 hC hc (by first | decide | omega) ?_
    refine kx_callV (as := [.ref (ad (carE c 0))]) (rest := []) d_C_state_19 v_C_97 rfl (hC.car c hc) rfl rfl (by decide) (by decide) (by decide) (by decide) (by decide) rfl (m_C_agreesAt hC hc (carE_N hc) hs0 h40) (fun X w1 h => by cases h.1) (fun v w1 hq => ?_)
    obtain ⟨hv, hw9⟩ := hq
    cases hv
    subst hw9
    refine kx_stk (st1 := [.int (nI (agrI L c (carE c 0) s0))]) rfl ?_
    first | refine kx_if_eq_n 42 d_C_state_22 (by decide) (by omega) ?_ ?_ | refine kx_if_eq 42 d_C_state_22 (by decide) ?_ ?_
    · intro h22
      refine kx_iconst (nI 1) d_C_state_42 (by decide) ?_
      unfold staI
      rw [if_neg h7]
      first
        | (rw [if_pos ⟨by omega, by omega⟩]; exact kx_iret d_C_state_43 rfl (by decide) (by decide) ⟨rfl, rfl⟩)
        | (rw [if_neg (fun q => by omega)]; exact kx_iret d_C_state_43 rfl (by decide) (by decide) ⟨rfl, rfl⟩)
    · intro h22
      refine kx_aload_n d_C_state_25 rfl (by first | rfl | exact kx_rf _) ?_
      refine kx_aload_n d_C_state_26 rfl (by first | rfl | exact kx_rf _) ?_
      refine kx_get _ d_C_state_27 f_C_20 (hC.car c hc) (by rfl) ?_
      refine kx_iconst (nI 1) d_C_state_30 (by decide) ?_
      refine cA_end d_C_state_31 hC hc (by first | decide | omega) ?_
      refine kx_callV (as := [.ref (ad (carE c 1))]) (rest := []) d_C_state_32 v_C_97 rfl (hC.car c hc) rfl rfl (by decide) (by decide) (by decide) (by decide) (by decide) rfl (m_C_agreesAt hC hc (carE_N hc) hs1 h41) (fun X w1 h => by cases h.1) (fun v w1 hq => ?_)
      obtain ⟨hv, hw9⟩ := hq
      cases hv
      subst hw9
      refine kx_stk (st1 := [.int (nI (agrI L c (carE c 1) s1))]) rfl ?_
      first | refine kx_if_eq_n 42 d_C_state_35 (by decide) (by omega) ?_ ?_ | refine kx_if_eq 42 d_C_state_35 (by decide) ?_ ?_
      · intro h35
        refine kx_iconst (nI 1) d_C_state_42 (by decide) ?_
        unfold staI
        rw [if_neg h7]
        first
          | (rw [if_pos ⟨by omega, by omega⟩]; exact kx_iret d_C_state_43 rfl (by decide) (by decide) ⟨rfl, rfl⟩)
          | (rw [if_neg (fun q => by omega)]; exact kx_iret d_C_state_43 rfl (by decide) (by decide) ⟨rfl, rfl⟩)
      · intro h35
        refine kx_iconst (nI 2) d_C_state_38 (by decide) ?_
        refine kx_goto 43 d_C_state_39 (by decide) ?_
        unfold staI
        rw [if_neg h7]
        first
          | (rw [if_pos ⟨by omega, by omega⟩]; exact kx_iret d_C_state_43 rfl (by decide) (by decide) ⟨rfl, rfl⟩)
          | (rw [if_neg (fun q => by omega)]; exact kx_iret d_C_state_43 rfl (by decide) (by decide) ⟨rfl, rfl⟩)
  · intro h7
    refine kx_iconst (nI 0) d_C_state_10 (by decide) ?_
    unfold staI
    rw [if_pos h7]
    exact kx_iret d_C_state_11 rfl (by decide) (by decide) ⟨rfl, rfl⟩
theorem d_C_growOlder_0 : decode c_C_growOlder 0 = .ok (.iconst 0, 1) := by decide +kernel
theorem d_C_growOlder_1 : decode c_C_growOlder 1 = .ok (.istore_n 1, 1) := by decide +kernel
theorem d_C_growOlder_2 : decode c_C_growOlder 2 = .ok (.iload_n 1, 1) := by decide +kernel
theorem d_C_growOlder_3 : decode c_C_growOlder 3 = .ok (.aload_n 0, 1) := by decide +kernel
theorem d_C_growOlder_4 : decode c_C_growOlder 4 = .ok (.getfield 34, 3) := by decide +kernel
theorem d_C_growOlder_7 : decode c_C_growOlder 7 = .ok (.getfield 76, 3) := by decide +kernel
theorem d_C_growOlder_10 : decode c_C_growOlder 10 = .ok (.if_icmp .ge 29, 3) := by decide +kernel
theorem d_C_growOlder_13 : decode c_C_growOlder 13 = .ok (.aload_n 0, 1) := by decide +kernel
theorem d_C_growOlder_14 : decode c_C_growOlder 14 = .ok (.getfield 41, 3) := by decide +kernel
theorem d_C_growOlder_17 : decode c_C_growOlder 17 = .ok (.iload_n 1, 1) := by decide +kernel
theorem d_C_growOlder_18 : decode c_C_growOlder 18 = .ok (.iaload, 1) := by decide +kernel
theorem d_C_growOlder_19 : decode c_C_growOlder 19 = .ok (.iconst (-1), 1) := by decide +kernel
theorem d_C_growOlder_20 : decode c_C_growOlder 20 = .ok (.if_icmp .eq 13, 3) := by decide +kernel
theorem d_C_growOlder_23 : decode c_C_growOlder 23 = .ok (.aload_n 0, 1) := by decide +kernel
theorem d_C_growOlder_24 : decode c_C_growOlder 24 = .ok (.getfield 41, 3) := by decide +kernel
theorem d_C_growOlder_27 : decode c_C_growOlder 27 = .ok (.iload_n 1, 1) := by decide +kernel
theorem d_C_growOlder_28 : decode c_C_growOlder 28 = .ok (.dup2, 1) := by decide +kernel
theorem d_C_growOlder_29 : decode c_C_growOlder 29 = .ok (.iaload, 1) := by decide +kernel
theorem d_C_growOlder_30 : decode c_C_growOlder 30 = .ok (.iconst 1, 1) := by decide +kernel
theorem d_C_growOlder_31 : decode c_C_growOlder 31 = .ok (.iadd, 1) := by decide +kernel
theorem d_C_growOlder_32 : decode c_C_growOlder 32 = .ok (.iastore, 1) := by decide +kernel
theorem d_C_growOlder_33 : decode c_C_growOlder 33 = .ok (.iinc 1 1, 3) := by decide +kernel
theorem d_C_growOlder_36 : decode c_C_growOlder 36 = .ok (.goto (-34), 3) := by decide +kernel
theorem d_C_growOlder_39 : decode c_C_growOlder 39 = .ok (.return_, 1) := by decide +kernel
def growV (f : Nat → Int32) (m : Nat) : Nat → Int32 := fun i => if i < m ∧ ¬ f i = -1 then f i + 1 else f i
theorem growV_0 (f : Nat → Int32) : growV f 0 = f := by funext i; unfold growV; rw [if_neg (fun q => by omega)]
theorem growV_k (f : Nat → Int32) (k : Nat) : growV f k k = f k := by unfold growV; rw [if_neg (fun q => by omega)]
theorem growV_s {f : Nat → Int32} {k : Nat} (h : ¬ f k = -1) : upd (growV f k) k (f k + nI 1) = growV f (k + 1) := by
  funext i
  by_cases e : i = k
  · subst e; rw [pk_us]; unfold growV; rw [if_pos ⟨by omega, h⟩]; rfl
  · rw [pk_un e]; unfold growV
    by_cases q : i < k ∧ ¬ f i = -1
    · rw [if_pos q, if_pos ⟨by omega, q.2⟩]
    · rw [if_neg q, if_neg (fun r => q ⟨by omega, r.2⟩)]
theorem growV_n {f : Nat → Int32} {k : Nat} (h : f k = -1) : growV f k = growV f (k + 1) := by
  funext i
  unfold growV
  by_cases e : i = k
  · subst e; rw [if_neg (fun q => by omega), if_neg (fun q => q.2 h)]
  · by_cases q : i < k ∧ ¬ f i = -1
    · rw [if_pos q, if_pos ⟨by omega, q.2⟩]
    · rw [if_neg q, if_neg (fun r => q ⟨by omega, r.2⟩)]
theorem Cls.cgV {E : kx_E} {w : va_W} {n : Nat} {ad : Nat → Nat} {L : Nat → List Nat} {V V1 S : Nat → Nat → Int32} {pe bi : Nat → Option Nat} (h : Cls E w n ad L V S pe bi) (e : V = V1) : Cls E w n ad L V1 S pe bi := e ▸ h
theorem up1_id {α : Type} {f : Nat → α} {x : Nat} : up1 f x (f x) = f := by funext y; unfold up1; by_cases h : y = x <;> simp [h]
set_option maxHeartbeats 2000000 in
theorem l_C_growOlder {E : kx_E} {n : Nat} {ad : Nat → Nat} {L : Nat → List Nat} {V S : Nat → Nat → Int32} {pe bi : Nat → Option Nat} {w0 : va_W} {c : Nat} (hc : c < n) {z : kx_Z} {Q : kx_O → va_W → Prop} (hQ : ∀ w, Cls E w n ad L (up1 V (carB c + 30) (growV (V (carB c + 30)) (L (carB c + 26)).length)) S pe bi → kx_off w0 w clsN → Q (.inl none) w) : ∀ (m k : Nat) (w : va_W), m + k = (L (carB c + 26)).length → Cls E w n ad L (up1 V (carB c + 30) (growV (V (carB c + 30)) k)) S pe bi → kx_off w0 w clsN → kx_R E Y_C_growOlder z 2 [(0, .ref (ad (carB c))), (1, .int (nI k))] [] w 0 0 Q := by
  intro m
  induction m with
  | zero =>
    intro k w hk hC hO
    have hl := (hC.row _ (rowN_26 hc)).2.2.1
    have hk : k = (L (carB c + 26)).length := by omega
    subst hk
    refine kx_iload_n d_C_growOlder_2 rfl ?_
    refine kx_aload_n d_C_growOlder_3 rfl (by first | rfl | exact kx_rf _) ?_
    refine kx_get _ d_C_growOlder_4 f_C_34 (hC.car c hc) (by rfl) ?_
    refine kx_get _ d_C_growOlder_7 f_C_76 (hC.rowObj (rowN_26 hc)) (by rfl) ?_
    first | refine kx_icmp_ge_n 39 d_C_growOlder_10 (by decide) (by omega) (by omega) ?_ ?_ | refine kx_icmp_ge 39 d_C_growOlder_10 (by decide) ?_ ?_
    · intro h10
      refine kx_vret d_C_growOlder_39 rfl (by decide) (by decide) ?_
      exact hQ w hC hO
    · intro h10
      exact absurd h10 (by omega)
  | succ m ih =>
    intro k w hk hC hO
    have hl := (hC.row _ (rowN_26 hc)).2.2.1
    refine kx_iload_n d_C_growOlder_2 rfl ?_
    refine kx_aload_n d_C_growOlder_3 rfl (by first | rfl | exact kx_rf _) ?_
    refine kx_get _ d_C_growOlder_4 f_C_34 (hC.car c hc) (by rfl) ?_
    refine kx_get _ d_C_growOlder_7 f_C_76 (hC.rowObj (rowN_26 hc)) (by rfl) ?_
    first | refine kx_icmp_ge_n 39 d_C_growOlder_10 (by decide) (by omega) (by omega) ?_ ?_ | refine kx_icmp_ge 39 d_C_growOlder_10 (by decide) ?_ ?_
    · intro h10
      exact absurd h10 (by omega)
    · intro h10
      refine kx_aload_n d_C_growOlder_13 rfl (by first | rfl | exact kx_rf _) ?_
      refine kx_get _ d_C_growOlder_14 f_C_41 (hC.car c hc) (by rfl) ?_
      refine kx_iload_n d_C_growOlder_17 rfl ?_
      refine cV_get d_C_growOlder_18 hC (intN_30 hc) (by omega) ?_
      rw [up1_s, growV_k]
      refine kx_iconst (-1) d_C_growOlder_19 (by decide) ?_
      refine kx_icmp_eq 33 d_C_growOlder_20 (by decide) ?_ ?_
      · intro h20
        refine kx_iinc _ d_C_growOlder_33 rfl (by decide) (nI_1 _) ?_
        refine kx_goto 2 d_C_growOlder_36 (by decide) ?_
        refine kx_loc (L1 := [(0, .ref (ad (carB c))), (1, .int (nI (k + 1)))]) ⟨rfl, rfl, trivial⟩ ?_
        first
          | exact ih (k + 1) w (by omega) hC hO
          | (rw [growV_n h20] at hC; exact ih (k + 1) w (by omega) hC hO)
      · intro h20
        refine kx_aload_n d_C_growOlder_23 rfl (by first | rfl | exact kx_rf _) ?_
        refine kx_get _ d_C_growOlder_24 f_C_41 (hC.car c hc) (by rfl) ?_
        refine kx_iload_n d_C_growOlder_27 rfl ?_
        refine kx_dup2 d_C_growOlder_28 rfl rfl ?_
        refine cV_get d_C_growOlder_29 hC (intN_30 hc) (by omega) ?_
        rw [up1_s, growV_k]
        refine kx_iconst (nI 1) d_C_growOlder_30 (by decide) ?_
        refine kx_iadd _ d_C_growOlder_31 rfl ?_
        refine cV_put d_C_growOlder_32 hC hO (intN_30 hc) (by omega) (fun w hC hO => ?_)
        rw [up1_s] at hC
        have hC := hC.cgV (show up1 (up1 V (carB c + 30) (growV (V (carB c + 30)) k)) (carB c + 30) _ = up1 V (carB c + 30) (growV (V (carB c + 30)) (k + 1)) by rw [up1_up1, growV_s h20])
        refine kx_iinc _ d_C_growOlder_33 rfl (by decide) (nI_1 _) ?_
        refine kx_goto 2 d_C_growOlder_36 (by decide) ?_
        refine kx_loc (L1 := [(0, .ref (ad (carB c))), (1, .int (nI (k + 1)))]) ⟨rfl, rfl, trivial⟩ ?_
        first
          | exact ih (k + 1) w (by omega) hC hO
          | (rw [growV_n h20] at hC; exact ih (k + 1) w (by omega) hC hO)
set_option maxHeartbeats 2000000 in
theorem m_C_growOlder {E : kx_E} {w : va_W} {n : Nat} {ad : Nat → Nat} {L : Nat → List Nat} {V S : Nat → Nat → Int32} {pe bi : Nat → Option Nat} (hC : Cls E w n ad L V S pe bi) {c : Nat} (hc : c < n) : kx_S E Y_C_growOlder [.ref (ad (carB c))] w (CQ E w n ad L (up1 V (carB c + 30) (growV (V (carB c + 30)) (L (carB c + 26)).length)) S pe bi none) := by
  refine kx_go (by decide) rfl rfl (Nat.le_of_ble_eq_true rfl) (kx_cc rfl kx_c0) (fun z => ?_)
  have hO : kx_off w w clsN := kx_off.rf
  refine kx_iconst (nI 0) d_C_growOlder_0 (by decide) ?_
  refine kx_istore_n d_C_growOlder_1 (by decide) ?_
  refine kx_loc (L1 := [(0, .ref (ad (carB c))), (1, .int (nI 0))]) ⟨rfl, rfl, trivial⟩ ?_
  exact l_C_growOlder hc (fun w hC hO => ⟨rfl, hC, hO⟩) _ 0 w rfl (hC.cgV (by rw [growV_0, up1_id])) hO
