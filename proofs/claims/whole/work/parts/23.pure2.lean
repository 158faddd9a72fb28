theorem toNat_nI (x : Int32) : x = nI x.toBitVec.toNat := Int32.toBitVec_inj.mp (by show _ = BitVec.ofNat 32 _; simp)
theorem mpart (w : Int32) (a n : Nat) (h : a + n ≤ 32) : F_m_part w (nI a) (nI n) = nI (w.toBitVec.toNat / 2 ^ a % 2 ^ n) := by
  unfold F_m_part
  rw [nI_clamp (by omega)]
  exact part_val w a n h
theorem cpart (w : Int32) (k n : Nat) {m : Int32} (hk : k < 32) (hm : m.toBitVec.toNat = 2 ^ n - 1) : ((w.toUInt32 >>> ((nI k).toUInt32 &&& Int32.toUInt32 31)).toInt32) &&& m = nI (w.toBitVec.toNat / 2 ^ k % 2 ^ n) := by
  rw [pk_and _ n hm, pk_ushr _ _ k (s_u k hk)]
theorem eD (w : Int32) : F_partD w = F_m_part w 7 5 := (cpart w 7 5 (m := 31) (by decide) (by decide)).trans (mpart w 7 5 (by decide)).symm
theorem eF (w : Int32) : F_partF w = F_m_part w 12 3 := (cpart w 12 3 (m := 7) (by decide) (by decide)).trans (mpart w 12 3 (by decide)).symm
theorem eB (w : Int32) : F_partB w = F_m_part w 20 5 := (cpart w 20 5 (m := 31) (by decide) (by decide)).trans (mpart w 20 5 (by decide)).symm
theorem eG (w : Int32) : F_partG w = F_m_part w 25 7 := by
  refine Eq.trans ?_ (mpart w 25 7 (by decide)).symm
  unfold F_partG
  rw [toNat_nI ((w.toUInt32 >>> ((25 : Int32).toUInt32 &&& Int32.toUInt32 31)).toInt32), pk_ushr _ _ 25 (by decide)]
  have h := w.toBitVec.isLt
  congr 1
  omega
theorem eOp (w : Int32) : w &&& 127 = F_m_part w 0 7 := by
  refine Eq.trans ?_ (mpart w 0 7 (by decide)).symm
  rw [pk_and w 7 (by decide), Nat.pow_zero, Nat.div_one]
theorem eA (rs : Nat → Int32) (w : Int32) : F_registerA rs w = rs (F_m_part w 15 5).toNatClampNeg := by
  unfold F_registerA
  exact congrArg (fun z : Int32 => rs z.toNatClampNeg) ((cpart w 15 5 (m := 31) (by decide) (by decide)).trans (mpart w 15 5 (by decide)).symm)
theorem eBr (rs : Nat → Int32) (w : Int32) : F_registerB rs w = rs (F_m_part w 20 5).toNatClampNeg := by
  unfold F_registerB
  rw [eB]
theorem bt_nI (x : Nat) {i : Nat} (hi : i < 32) : bt (nI x) i = x.testBit i := by
  show (BitVec.ofNat 32 x).getLsbD i = _
  rw [BitVec.getLsbD_ofNat]
  simp [hi]
theorem pm_bits (w : Int32) (a n : Nat) (h : a + n ≤ 32) {i : Nat} (hi : i < 32) : bt (F_m_part w (nI a) (nI n)) i = (decide (i < n) && bt w (a + i)) := by
  rw [mpart w a n h, bt_nI _ hi, Nat.testBit_mod_two_pow, Nat.testBit_div_two_pow, bt_nat, Nat.add_comm]
theorem sg_bits {x n : Nat} (hx : x < 2 ^ n) (h0 : 1 ≤ n) (hn : n ≤ 31) {i : Nat} (hi : i < 32) : bt (F_m_signed (nI x) (nI n)) i = if i < n then bt (nI x) i else bt (nI x) (n - 1) := by
  have h2 : (2 : Nat) ^ n ≤ 2 ^ 31 := Nat.pow_le_pow_right (by decide) hn
  have tn : (nI x).toBitVec.toNat = x := pk_tn (by omega)
  unfold F_m_signed
  have e1 : nI n - 1 = nI (n - 1) := pk_sub h0
  rw [e1, bit_at _ (by omega), tn]
  have hb : x / 2 ^ (n - 1) % 2 = 0 ∨ x / 2 ^ (n - 1) % 2 = 1 := by omega
  rw [bt_nI _ hi, bt_nI _ (show n - 1 < 32 by omega)]
  rcases hb with hb | hb
  · rw [hb, if_neg (by decide), bt_nI _ hi]
    have t1 : x.testBit (n - 1) = false := by rw [Nat.testBit_eq_decide_div_mod_eq, hb]; rfl
    by_cases hlt : i < n
    · rw [if_pos hlt]
    · rw [if_neg hlt, t1]
      exact Nat.testBit_lt_two_pow (Nat.lt_of_lt_of_le hx (Nat.pow_le_pow_right (by decide) (by omega)))
  · rw [hb, if_pos (by rfl)]
    have t1 : x.testBit (n - 1) = true := by rw [Nat.testBit_eq_decide_div_mod_eq, hb]; rfl
    have e2 : (1 : Int32) <<< (nI n &&& 31) = nI (2 ^ n) := by
      have h := pk_shlN (n := 1) (nI n &&& 31) n (s_l n (by omega)) (by omega)
      rw [Nat.one_mul] at h
      exact h
    rw [e2]
    have hp : (2 : Nat) ^ 32 = 2 ^ n * 2 ^ (32 - n) := by rw [← Nat.pow_add]; congr 1; omega
    have e3 : nI x - nI (2 ^ n) = nI (2 ^ n * (2 ^ (32 - n) - 1) + x) := by
      have h5 : 2 ^ n * (2 ^ (32 - n) - 1) + x + 2 ^ n = x + 2 ^ 32 := by
        rw [Nat.mul_sub, ← hp, Nat.mul_one]
        omega
      have h6 : nI (2 ^ n * (2 ^ (32 - n) - 1) + x) + nI (2 ^ n) = nI x := by
        rw [nI_add, h5]
        apply Int32.toBitVec_inj.mp
        show BitVec.ofNat 32 _ = BitVec.ofNat 32 _
        apply BitVec.eq_of_toNat_eq
        rw [BitVec.toNat_ofNat, BitVec.toNat_ofNat, Nat.add_mod_right]
      rw [← h6, Int32.add_sub_cancel]
    rw [e3, bt_nI _ hi, Nat.testBit_two_pow_mul_add _ hx, t1]
    by_cases hlt : i < n
    · rw [if_pos hlt, if_pos hlt]
    · rw [if_neg hlt, if_neg hlt, Nat.testBit_two_pow_sub_one, decide_eq_true]
      omega
theorem sgv_bits {v : Int32} {n : Nat} (hv : ∀ i, i < 32 → n ≤ i → bt v i = false) (h0 : 1 ≤ n) (hn : n ≤ 31) {i : Nat} (hi : i < 32) : bt (F_m_signed v (nI n)) i = if i < n then bt v i else bt v (n - 1) := by
  have e := toNat_nI v
  have hx : v.toBitVec.toNat < 2 ^ n := by
    apply Nat.lt_pow_two_of_testBit
    intro i hi
    rcases Nat.lt_or_ge i 32 with q | q
    · exact hv i q hi
    · exact Nat.testBit_lt_two_pow (Nat.lt_of_lt_of_le v.toBitVec.isLt (Nat.pow_le_pow_right (by decide) q))
  rw [e]
  have h := sg_bits hx h0 hn hi
  exact h
theorem all32 {P : Nat → Prop} (h0 : P 0) (h1 : P 1) (h2 : P 2) (h3 : P 3) (h4 : P 4) (h5 : P 5) (h6 : P 6) (h7 : P 7) (h8 : P 8) (h9 : P 9) (h10 : P 10) (h11 : P 11) (h12 : P 12) (h13 : P 13) (h14 : P 14) (h15 : P 15) (h16 : P 16) (h17 : P 17) (h18 : P 18) (h19 : P 19) (h20 : P 20) (h21 : P 21) (h22 : P 22) (h23 : P 23) (h24 : P 24) (h25 : P 25) (h26 : P 26) (h27 : P 27) (h28 : P 28) (h29 : P 29) (h30 : P 30) (h31 : P 31) : ∀ i, i < 32 → P i := by
  intro i hi
  match i, hi with
  | 0, _ => exact h0
  | 1, _ => exact h1
  | 2, _ => exact h2
  | 3, _ => exact h3
  | 4, _ => exact h4
  | 5, _ => exact h5
  | 6, _ => exact h6
  | 7, _ => exact h7
  | 8, _ => exact h8
  | 9, _ => exact h9
  | 10, _ => exact h10
  | 11, _ => exact h11
  | 12, _ => exact h12
  | 13, _ => exact h13
  | 14, _ => exact h14
  | 15, _ => exact h15
  | 16, _ => exact h16
  | 17, _ => exact h17
  | 18, _ => exact h18
  | 19, _ => exact h19
  | 20, _ => exact h20
  | 21, _ => exact h21
  | 22, _ => exact h22
  | 23, _ => exact h23
  | 24, _ => exact h24
  | 25, _ => exact h25
  | 26, _ => exact h26
  | 27, _ => exact h27
  | 28, _ => exact h28
  | 29, _ => exact h29
  | 30, _ => exact h30
  | 31, _ => exact h31
  | i + 32, h => omega
theorem bs1 (x : Int32) {i : Nat} (hi : i < 32) : bt (x <<< ((1 : Int32) &&& 31)) i = (decide (1 ≤ i) && bt x (i - 1)) := b_shl 1 (by decide) x hi
theorem bs5 (x : Int32) {i : Nat} (hi : i < 32) : bt (x <<< ((5 : Int32) &&& 31)) i = (decide (5 ≤ i) && bt x (i - 5)) := b_shl 5 (by decide) x hi
theorem bs11 (x : Int32) {i : Nat} (hi : i < 32) : bt (x <<< ((11 : Int32) &&& 31)) i = (decide (11 ≤ i) && bt x (i - 11)) := b_shl 11 (by decide) x hi
theorem bs12 (x : Int32) {i : Nat} (hi : i < 32) : bt (x <<< ((12 : Int32) &&& 31)) i = (decide (12 ≤ i) && bt x (i - 12)) := b_shl 12 (by decide) x hi
theorem bs20 (x : Int32) {i : Nat} (hi : i < 32) : bt (x <<< ((20 : Int32) &&& 31)) i = (decide (20 ≤ i) && bt x (i - 20)) := b_shl 20 (by decide) x hi
theorem ba20 (x : Int32) {i : Nat} (hi : i < 32) : bt (x >>> ((20 : Int32) &&& 31)) i = if 20 + i < 32 then bt x (20 + i) else bt x 31 := b_sshr 20 (by decide) x hi
theorem ba25 (x : Int32) {i : Nat} (hi : i < 32) : bt (x >>> ((25 : Int32) &&& 31)) i = if 25 + i < 32 then bt x (25 + i) else bt x 31 := b_sshr 25 (by decide) x hi
theorem ba31 (x : Int32) {i : Nat} (hi : i < 32) : bt (x >>> ((31 : Int32) &&& 31)) i = if 31 + i < 32 then bt x (31 + i) else bt x 31 := b_sshr 31 (by decide) x hi
theorem ba31b (x : Int32) {i : Nat} (hi : i < 32) : bt (x >>> (31 : Int32)) i = bt x 31 := by
  have h := ba31 x hi
  have e : (31 : Int32) &&& 31 = 31 := by decide
  rw [e] at h
  rw [h]
  by_cases q : 31 + i < 32
  · rw [if_pos q, show 31 + i = 31 by omega]
  · rw [if_neg q]
theorem bu7 (x : Int32) (i : Nat) : bt ((x.toUInt32 >>> ((7 : Int32).toUInt32 &&& Int32.toUInt32 31)).toInt32) i = bt x (7 + i) := b_ushr 7 (by decide) x i
theorem bu8 (x : Int32) (i : Nat) : bt ((x.toUInt32 >>> ((8 : Int32).toUInt32 &&& Int32.toUInt32 31)).toInt32) i = bt x (8 + i) := b_ushr 8 (by decide) x i
theorem bu12 (x : Int32) (i : Nat) : bt ((x.toUInt32 >>> ((12 : Int32).toUInt32 &&& Int32.toUInt32 31)).toInt32) i = bt x (12 + i) := b_ushr 12 (by decide) x i
theorem bu20 (x : Int32) (i : Nat) : bt ((x.toUInt32 >>> ((20 : Int32).toUInt32 &&& Int32.toUInt32 31)).toInt32) i = bt x (20 + i) := b_ushr 20 (by decide) x i
theorem bu21 (x : Int32) (i : Nat) : bt ((x.toUInt32 >>> ((21 : Int32).toUInt32 &&& Int32.toUInt32 31)).toInt32) i = bt x (21 + i) := b_ushr 21 (by decide) x i
theorem bu25 (x : Int32) (i : Nat) : bt ((x.toUInt32 >>> ((25 : Int32).toUInt32 &&& Int32.toUInt32 31)).toInt32) i = bt x (25 + i) := b_ushr 25 (by decide) x i
theorem pm7_5 (w : Int32) {i : Nat} (hi : i < 32) : bt (F_m_part w 7 5) i = (decide (i < 5) && bt w (7 + i)) := pm_bits w 7 5 (by decide) hi
theorem pm7_1 (w : Int32) {i : Nat} (hi : i < 32) : bt (F_m_part w 7 1) i = (decide (i < 1) && bt w (7 + i)) := pm_bits w 7 1 (by decide) hi
theorem pm8_4 (w : Int32) {i : Nat} (hi : i < 32) : bt (F_m_part w 8 4) i = (decide (i < 4) && bt w (8 + i)) := pm_bits w 8 4 (by decide) hi
theorem pm12_8 (w : Int32) {i : Nat} (hi : i < 32) : bt (F_m_part w 12 8) i = (decide (i < 8) && bt w (12 + i)) := pm_bits w 12 8 (by decide) hi
theorem pm12_20 (w : Int32) {i : Nat} (hi : i < 32) : bt (F_m_part w 12 20) i = (decide (i < 20) && bt w (12 + i)) := pm_bits w 12 20 (by decide) hi
theorem pm20_1 (w : Int32) {i : Nat} (hi : i < 32) : bt (F_m_part w 20 1) i = (decide (i < 1) && bt w (20 + i)) := pm_bits w 20 1 (by decide) hi
theorem pm20_12 (w : Int32) {i : Nat} (hi : i < 32) : bt (F_m_part w 20 12) i = (decide (i < 12) && bt w (20 + i)) := pm_bits w 20 12 (by decide) hi
theorem pm21_10 (w : Int32) {i : Nat} (hi : i < 32) : bt (F_m_part w 21 10) i = (decide (i < 10) && bt w (21 + i)) := pm_bits w 21 10 (by decide) hi
theorem pm25_6 (w : Int32) {i : Nat} (hi : i < 32) : bt (F_m_part w 25 6) i = (decide (i < 6) && bt w (25 + i)) := pm_bits w 25 6 (by decide) hi
theorem pm25_7 (w : Int32) {i : Nat} (hi : i < 32) : bt (F_m_part w 25 7) i = (decide (i < 7) && bt w (25 + i)) := pm_bits w 25 7 (by decide) hi
theorem pm31_1 (w : Int32) {i : Nat} (hi : i < 32) : bt (F_m_part w 31 1) i = (decide (i < 1) && bt w (31 + i)) := pm_bits w 31 1 (by decide) hi
theorem bm1 : ∀ i, i < 32 → bt (1 : Int32) i = decide (i < 1) := by decide +kernel
theorem bm4 : ∀ i, i < 32 → bt (15 : Int32) i = decide (i < 4) := by decide +kernel
theorem bm6 : ∀ i, i < 32 → bt (63 : Int32) i = decide (i < 6) := by decide +kernel
theorem bm8 : ∀ i, i < 32 → bt (255 : Int32) i = decide (i < 8) := by decide +kernel
theorem bm10 : ∀ i, i < 32 → bt (1023 : Int32) i = decide (i < 10) := by decide +kernel
theorem eI (w : Int32) : F_lowImmediate w = F_m_i w := by
  unfold F_lowImmediate F_m_i
  apply b_ext
  intro i hi
  rw [ba20 _ hi]
  have h := sgv_bits (v := F_m_part w 20 12) (n := 12) (fun i hi h => by rw [pm20_12 _ hi, decide_eq_false (by omega)]; rfl) (by decide) (by decide) hi
  refine Eq.trans ?_ h.symm
  rw [pm20_12 _ hi, pm20_12 _ (show 12 - 1 < 32 by decide)]
  by_cases h12 : i < 12
  · rw [if_pos (by omega), if_pos h12, decide_eq_true h12, Bool.true_and]
  · rw [if_neg (by omega), if_neg h12]
    rfl
theorem eU (w : Int32) : F_upperImmediate w = F_m_u w := by
  unfold F_upperImmediate F_m_u
  apply b_ext
  intro i hi
  rw [bs12 _ hi, bs12 _ hi, bu12, pm12_20 _ (by omega)]
  by_cases h : 12 ≤ i
  · rw [decide_eq_true (show i - 12 < 20 by omega), Bool.true_and]
  · rw [decide_eq_false h]; rfl
theorem eS_hi (w : Int32) : ∀ i, i < 32 → 12 ≤ i → bt (((F_m_part w 25 7) <<< ((5 : Int32) &&& 31)) ||| (F_m_part w 7 5)) i = false := by
  refine all32 ?_ ?_ ?_ ?_ ?_ ?_ ?_ ?_ ?_ ?_ ?_ ?_ ?_ ?_ ?_ ?_ ?_ ?_ ?_ ?_ ?_ ?_ ?_ ?_ ?_ ?_ ?_ ?_ ?_ ?_ ?_ ?_ <;> simp [ba31b, b_or, b_and, bs1, bs5, bs11, bs12, bs20, ba20, ba25, ba31, bu7, bu8, bu12, bu20, bu21, bu25, pm7_5, pm7_1, pm8_4, pm12_8, pm20_1, pm21_10, pm25_6, pm25_7, pm31_1, bm1, bm4, bm6, bm8, bm10, eD, b_255]
theorem eS (w : Int32) : F_storeImmediate w = F_m_s w := by
  unfold F_storeImmediate F_m_s
  apply b_ext
  intro i hi
  have h := sgv_bits (v := ((F_m_part w 25 7) <<< ((5 : Int32) &&& 31)) ||| (F_m_part w 7 5)) (n := 12) (eS_hi w) (by decide) (by decide) hi
  refine Eq.trans ?_ h.symm
  clear h
  revert i
  refine all32 ?_ ?_ ?_ ?_ ?_ ?_ ?_ ?_ ?_ ?_ ?_ ?_ ?_ ?_ ?_ ?_ ?_ ?_ ?_ ?_ ?_ ?_ ?_ ?_ ?_ ?_ ?_ ?_ ?_ ?_ ?_ ?_ <;> simp [ba31b, b_or, b_and, bs1, bs5, bs11, bs12, bs20, ba20, ba25, ba31, bu7, bu8, bu12, bu20, bu21, bu25, pm7_5, pm7_1, pm8_4, pm12_8, pm20_1, pm21_10, pm25_6, pm25_7, pm31_1, bm1, bm4, bm6, bm8, bm10, eD, b_255]
theorem eBi_hi (w : Int32) : ∀ i, i < 32 → 13 ≤ i → bt (((((F_m_part w 31 1) <<< ((12 : Int32) &&& 31)) ||| ((F_m_part w 7 1) <<< ((11 : Int32) &&& 31))) ||| ((F_m_part w 25 6) <<< ((5 : Int32) &&& 31))) ||| ((F_m_part w 8 4) <<< ((1 : Int32) &&& 31))) i = false := by
  refine all32 ?_ ?_ ?_ ?_ ?_ ?_ ?_ ?_ ?_ ?_ ?_ ?_ ?_ ?_ ?_ ?_ ?_ ?_ ?_ ?_ ?_ ?_ ?_ ?_ ?_ ?_ ?_ ?_ ?_ ?_ ?_ ?_ <;> simp [ba31b, b_or, b_and, bs1, bs5, bs11, bs12, bs20, ba20, ba25, ba31, bu7, bu8, bu12, bu20, bu21, bu25, pm7_5, pm7_1, pm8_4, pm12_8, pm20_1, pm21_10, pm25_6, pm25_7, pm31_1, bm1, bm4, bm6, bm8, bm10, eD, b_255]
theorem eBi (w : Int32) : F_branchImmediate w = F_m_b w := by
  unfold F_branchImmediate F_m_b
  apply b_ext
  intro i hi
  have h := sgv_bits (v := ((((F_m_part w 31 1) <<< ((12 : Int32) &&& 31)) ||| ((F_m_part w 7 1) <<< ((11 : Int32) &&& 31))) ||| ((F_m_part w 25 6) <<< ((5 : Int32) &&& 31))) ||| ((F_m_part w 8 4) <<< ((1 : Int32) &&& 31))) (n := 13) (eBi_hi w) (by decide) (by decide) hi
  refine Eq.trans ?_ h.symm
  clear h
  revert i
  refine all32 ?_ ?_ ?_ ?_ ?_ ?_ ?_ ?_ ?_ ?_ ?_ ?_ ?_ ?_ ?_ ?_ ?_ ?_ ?_ ?_ ?_ ?_ ?_ ?_ ?_ ?_ ?_ ?_ ?_ ?_ ?_ ?_ <;> simp [ba31b, b_or, b_and, bs1, bs5, bs11, bs12, bs20, ba20, ba25, ba31, bu7, bu8, bu12, bu20, bu21, bu25, pm7_5, pm7_1, pm8_4, pm12_8, pm20_1, pm21_10, pm25_6, pm25_7, pm31_1, bm1, bm4, bm6, bm8, bm10, eD, b_255]
theorem eJ_hi (w : Int32) : ∀ i, i < 32 → 21 ≤ i → bt (((((F_m_part w 31 1) <<< ((20 : Int32) &&& 31)) ||| ((F_m_part w 12 8) <<< ((12 : Int32) &&& 31))) ||| ((F_m_part w 20 1) <<< ((11 : Int32) &&& 31))) ||| ((F_m_part w 21 10) <<< ((1 : Int32) &&& 31))) i = false := by
  refine all32 ?_ ?_ ?_ ?_ ?_ ?_ ?_ ?_ ?_ ?_ ?_ ?_ ?_ ?_ ?_ ?_ ?_ ?_ ?_ ?_ ?_ ?_ ?_ ?_ ?_ ?_ ?_ ?_ ?_ ?_ ?_ ?_ <;> simp [ba31b, b_or, b_and, bs1, bs5, bs11, bs12, bs20, ba20, ba25, ba31, bu7, bu8, bu12, bu20, bu21, bu25, pm7_5, pm7_1, pm8_4, pm12_8, pm20_1, pm21_10, pm25_6, pm25_7, pm31_1, bm1, bm4, bm6, bm8, bm10, eD, b_255]
theorem eJ (w : Int32) : F_jumpImmediate w = F_m_j w := by
  unfold F_jumpImmediate F_m_j
  apply b_ext
  intro i hi
  have h := sgv_bits (v := ((((F_m_part w 31 1) <<< ((20 : Int32) &&& 31)) ||| ((F_m_part w 12 8) <<< ((12 : Int32) &&& 31))) ||| ((F_m_part w 20 1) <<< ((11 : Int32) &&& 31))) ||| ((F_m_part w 21 10) <<< ((1 : Int32) &&& 31))) (n := 21) (eJ_hi w) (by decide) (by decide) hi
  refine Eq.trans ?_ h.symm
  clear h
  revert i
  refine all32 ?_ ?_ ?_ ?_ ?_ ?_ ?_ ?_ ?_ ?_ ?_ ?_ ?_ ?_ ?_ ?_ ?_ ?_ ?_ ?_ ?_ ?_ ?_ ?_ ?_ ?_ ?_ ?_ ?_ ?_ ?_ ?_ <;> simp [ba31b, b_or, b_and, bs1, bs5, bs11, bs12, bs20, ba20, ba25, ba31, bu7, bu8, bu12, bu20, bu21, bu25, pm7_5, pm7_1, pm8_4, pm12_8, pm20_1, pm21_10, pm25_6, pm25_7, pm31_1, bm1, bm4, bm6, bm8, bm10, eD, b_255]
