/-! Bits -/
theorem sh_amt {k : Nat} (h : k < 32) : ((nI k &&& 31).toBitVec.smod 32).toNat = k := by
  have : ∀ k : Fin 32, ((nI k.val &&& 31).toBitVec.smod 32).toNat = k.val := by decide +kernel
  exact this ⟨k, h⟩
theorem shr_bv (t : Int32) {k : Nat} (h : k < 32) : (t >>> (nI k &&& 31)).toBitVec = t.toBitVec.sshiftRight k := by
  rw [Int32.toBitVec_shiftRight, BitVec.sshiftRight_eq', sh_amt h]
theorem shl_bv (t : Int32) {k : Nat} (h : k < 32) : (t <<< (nI k &&& 31)).toBitVec = t.toBitVec <<< k := by
  rw [Int32.toBitVec_shiftLeft, BitVec.shiftLeft_eq', sh_amt h]
theorem one_bv : (nI 1).toBitVec = 1#32 := rfl
theorem tak_bit (t : Int32) {k : Nat} (h : k < 32) : takI t k = t.toBitVec.getLsbD k := by
  unfold takI
  have e : (t >>> (nI k &&& 31) &&& nI 1) = 0 ↔ t.toBitVec.getLsbD k = false := by
    rw [← Int32.toBitVec_inj, Int32.toBitVec_and, shr_bv t h, one_bv]
    show t.toBitVec.sshiftRight k &&& 1#32 = 0#32 ↔ _
    constructor
    · intro q
      have := congrArg (fun b => BitVec.getLsbD b 0) q
      simp only [BitVec.getLsbD_and, BitVec.getLsbD_sshiftRight, BitVec.getLsbD_zero, Nat.add_zero] at this
      simpa [h] using this
    · intro q
      apply BitVec.eq_of_getLsbD_eq
      intro i hi
      simp only [BitVec.getLsbD_and, BitVec.getLsbD_sshiftRight, BitVec.getLsbD_zero, BitVec.getLsbD_one]
      by_cases z : i = 0
      · subst z
        have : (0 + k < 32) := by omega
        simp only [Nat.add_zero, h, if_true, q]
        simp
      · simp [z]
  by_cases q : t.toBitVec.getLsbD k = false
  · rw [q]; simp only [decide_eq_false_iff_not]; exact fun z => z (e.mpr q)
  · rw [Bool.not_eq_false] at q
    rw [q]; simp only [decide_eq_true_eq]; intro z; rw [e.mp z] at q; cases q
theorem tak_or (t : Int32) {k r : Nat} (hk : k < 24) (hr : r < 24) : takI (t ||| nI 1 <<< (nI r &&& 31)) k = (takI t k || decide (k = r)) := by
  rw [tak_bit _ (by omega), tak_bit _ (by omega), Int32.toBitVec_or, shl_bv _ (by omega), one_bv, BitVec.getLsbD_or]
  congr 1
  rw [BitVec.getLsbD_shiftLeft, BitVec.getLsbD_one]
  have k32 : k < 32 := by omega
  by_cases q : k = r
  · subst q; simp [k32]
  · by_cases z : k < r
    · simp [z, q]
    · have : ¬ k - r = 0 := by omega
      simp [q, this]
theorem tak_and (t : Int32) {k r : Nat} (hk : k < 24) (hr : r < 24) : takI (t &&& (nI 1 <<< (nI r &&& 31) ^^^ -1)) k = (takI t k && !decide (k = r)) := by
  rw [tak_bit _ (by omega), tak_bit _ (by omega), Int32.toBitVec_and, Int32.toBitVec_xor, shl_bv _ (by omega), one_bv, BitVec.getLsbD_and]
  congr 1
  have m1 : (-1 : Int32).toBitVec = BitVec.allOnes 32 := by decide +kernel
  rw [m1, BitVec.getLsbD_xor, BitVec.getLsbD_allOnes, BitVec.getLsbD_shiftLeft, BitVec.getLsbD_one]
  have k32 : k < 32 := by omega
  by_cases q : k = r
  · subst q; simp [k32]
  · by_cases z : k < r
    · simp [z, q, k32]
    · have : ¬ k - r = 0 := by omega
      simp [q, this, k32]
theorem by_amt {i : Nat} (h : i < 4) : nI 8 * nI i &&& 31 = nI (8 * i) &&& 31 := by rw [pk_mul]
theorem by_bit (w : Int32) {i k : Nat} (h : i < 4) : (byI w (nI i)).toBitVec.getLsbD k = (decide (k < 8) && w.toBitVec.getLsbD (8 * i + k)) := by
  unfold byI
  rw [by_amt h, Int32.toBitVec_and, shr_bv _ (by omega), BitVec.getLsbD_and, BitVec.getLsbD_sshiftRight]
  have m : (nI 255).toBitVec.getLsbD k = decide (k < 8) := by
    show (255#32).getLsbD k = decide (k < 8)
    by_cases q : k < 32
    · have : ∀ k : Fin 32, (255#32).getLsbD k.val = decide (k.val < 8) := by decide +kernel
      exact this ⟨k, q⟩
    · rw [BitVec.getLsbD_of_ge _ _ (by omega)]; simp; omega
  rw [m]
  by_cases q : k < 8
  · have a : 8 * i + k < 32 := by omega
    have b : ¬ 32 ≤ k := by omega
    simp [q, a, b]
  · simp [q]
theorem nI_bit {v k : Nat} (hv : v < 256) (hk : ¬ k < 8) : (nI v).toBitVec.getLsbD k = false := by
  show (BitVec.ofNat 32 v).getLsbD k = false
  rw [BitVec.getLsbD_ofNat, Nat.testBit_lt_two_pow (x := v) (i := k) (Nat.lt_of_lt_of_le hv (show 2 ^ 8 ≤ 2 ^ k from Nat.pow_le_pow_right (by omega) (by omega)))]
  simp
theorem by_put (w : Int32) {i k v : Nat} (hi : i < 4) (hk : k < 4) (hv : v < 256) : byI (w &&& (nI 255 <<< (nI 8 * nI i &&& 31) ^^^ -1) ||| nI v <<< (nI 8 * nI i &&& 31)) (nI k) = if k = i then nI v else byI w (nI k) := by
  rw [← Int32.toBitVec_inj]
  apply BitVec.eq_of_getLsbD_eq
  intro b hb
  have m1 : (-1 : Int32).toBitVec = BitVec.allOnes 32 := by decide +kernel
  have m : ∀ j, (nI 255).toBitVec.getLsbD j = decide (j < 8) := by
    intro j
    show (255#32).getLsbD j = decide (j < 8)
    by_cases q : j < 32
    · have : ∀ k : Fin 32, (255#32).getLsbD k.val = decide (k.val < 8) := by decide +kernel
      exact this ⟨j, q⟩
    · rw [BitVec.getLsbD_of_ge _ _ (by omega)]; simp; omega
  rw [by_bit _ hk, by_amt hi, Int32.toBitVec_or, Int32.toBitVec_and, Int32.toBitVec_xor, shl_bv _ (by omega), shl_bv _ (by omega), m1]
  rw [BitVec.getLsbD_or, BitVec.getLsbD_and, BitVec.getLsbD_xor, BitVec.getLsbD_allOnes, BitVec.getLsbD_shiftLeft, BitVec.getLsbD_shiftLeft, m]
  by_cases q : k = i
  · subst q
    rw [if_pos rfl]
    by_cases z : b < 8
    · have a1 : 8 * k + b < 32 := by omega
      have a2 : ¬ 8 * k + b < 8 * k := by omega
      have a3 : 8 * k + b - 8 * k = b := by omega
      simp [z, a1, a2, a3]
    · rw [nI_bit hv z]; simp [z]
  · rw [if_neg q, by_bit _ hk]
    by_cases z : b < 8
    · have a1 : 8 * k + b < 32 := by omega
      by_cases c : k < i
      · have a2 : 8 * k + b < 8 * i := by omega
        simp [z, a1, a2]
      · have a2 : ¬ 8 * k + b < 8 * i := by omega
        have a3 : ¬ 8 * k + b - 8 * i < 8 := by omega
        rw [nI_bit hv a3]
        simp [z, a1, a3]
    · simp [z]
