theorem wb_tb (n : Nat) : (lN n).toBitVec = BitVec.ofNat 64 n := rfl
theorem wb_inj {a b : Int64} (h : a.toBitVec = b.toBitVec) : a = b := Int64.toBitVec_inj.mp h
theorem wb_tn {n : Nat} (h : n < 2 ^ 64) : (lN n).toBitVec.toNat = n := by rw [wb_tb, BitVec.toNat_ofNat, Nat.mod_eq_of_lt h]
theorem wb_of (x : Int64) : ∃ n, n < 2 ^ 64 ∧ x = lN n := ⟨x.toBitVec.toNat, x.toBitVec.isLt, wb_inj (by rw [wb_tb]; simp)⟩
theorem wb_of32 (x : Int32) : ∃ n, n < 2 ^ 32 ∧ x = nI n := ⟨x.toBitVec.toNat, x.toBitVec.isLt, Int32.toBitVec_inj.mp (by show _ = BitVec.ofNat 32 _; simp)⟩
theorem wb_c : ∀ k, k < 64 → ((nI k).toInt64 &&& 63) = lN k := by decide +kernel
theorem wb_cu : ∀ k, k < 64 → ((nI k).toInt64.toUInt64 &&& Int64.toUInt64 63) = UInt64.ofNat k := by decide +kernel
theorem wb_sm : ∀ k, k < 64 → (BitVec.ofNat 64 k).smod 64 = BitVec.ofNat 64 k := by decide +kernel
theorem wb_pw {a b : Nat} (h : a ≤ b) : 2 ^ b = 2 ^ a * 2 ^ (b - a) := by rw [← Nat.pow_add]; congr 1; omega
theorem wb_lt2 {a b : Nat} (h : a < b) : 2 ^ a < 2 ^ b := Nat.pow_lt_pow_right (by decide) h
theorem wb_mod (n : Nat) : lN n = lN (n % 2 ^ 64) := wb_inj (by rw [wb_tb, wb_tb]; apply BitVec.eq_of_toNat_eq; rw [BitVec.toNat_ofNat, BitVec.toNat_ofNat, Nat.mod_mod])
theorem wb_shr {n k : Nat} (hn : n < 2 ^ 64) (hk : k < 64) : ((lN n).toUInt64 >>> ((nI k).toInt64.toUInt64 &&& Int64.toUInt64 63)).toInt64 = lN (n / 2 ^ k) := by
  rw [wb_cu k hk]
  apply wb_inj
  apply BitVec.eq_of_toNat_eq
  show ((lN n).toUInt64 >>> UInt64.ofNat k).toNat = (BitVec.ofNat 64 _).toNat
  have h1 : (UInt64.ofNat k).toNat = k := by
    show (BitVec.ofNat 64 k).toNat = k
    rw [BitVec.toNat_ofNat, Nat.mod_eq_of_lt (by omega)]
  have h2 : (lN n).toUInt64.toNat = n := wb_tn hn
  rw [UInt64.toNat_shiftRight, h1, h2, Nat.mod_eq_of_lt hk, Nat.shiftRight_eq_div_pow, BitVec.toNat_ofNat, Nat.mod_eq_of_lt (Nat.lt_of_le_of_lt (Nat.div_le_self _ _) hn)]
theorem hi_all (n : Nat) : F_upperHalf (lN n) = nI (n / 4294967296) := by
  unfold F_upperHalf
  have h : ((lN n).toUInt64 >>> ((32 : Int32).toInt64.toUInt64 &&& Int64.toUInt64 63)).toInt64 = lN (n % 2 ^ 64 / 2 ^ 32) := by
    rw [wb_mod n]
    exact wb_shr (n := n % 2 ^ 64) (k := 32) (Nat.mod_lt _ (by decide)) (by decide)
  rw [h, lN_i, nI_mod (n % 2 ^ 64 / 2 ^ 32), nI_mod (n / 4294967296)]
  congr 1
  have e64 : (2 : Nat) ^ 64 = 18446744073709551616 := by decide
  have e32 : (2 : Nat) ^ 32 = 4294967296 := by decide
  rw [e64, e32]
  omega
theorem neg_iff (x : Int32) : (0 ≤ x) ↔ U x < 2147483648 := by
  have h := sgn_ge (U_lt x)
  rw [← U_nI] at h
  exact h
theorem i2l_pos {x : Int32} (h : 0 ≤ x) : x.toInt64 = lN (U x) := by
  have h2 := (neg_iff x).mp h
  conv => lhs; rw [U_nI x]
  exact nI_l (by omega)
theorem i2l_neg {x : Int32} (h : ¬ 0 ≤ x) : x.toInt64 = lN (U x + 18446744069414584320) := by
  have h2 : ¬ U x < 2147483648 := fun q => h ((neg_iff x).mpr q)
  have hx := U_lt x
  apply Int64.toBitVec_inj.mp
  rw [Int32.toBitVec_toInt64]
  show _ = BitVec.ofNat 64 _
  apply BitVec.eq_of_toNat_eq
  have hm : x.toBitVec.msb = true := by
    rw [BitVec.msb_eq_decide]
    exact decide_eq_true (show 2 ^ (32 - 1) ≤ U x by omega)
  rw [BitVec.toNat_signExtend, hm, BitVec.toNat_setWidth, BitVec.toNat_ofNat]
  show U x % 2 ^ 64 + (if true = true then 2 ^ 64 - 2 ^ 32 else 0) = _
  rw [if_pos rfl]
  have e64 : (2 : Nat) ^ 64 = 18446744073709551616 := by decide
  have e32 : (2 : Nat) ^ 32 = 4294967296 := by decide
  rw [e64, e32]
  omega
theorem nI_neg (m M : Nat) (hM : M = 4294967295) (a : Int32) : a - nI m = a + nI (M * m) := by
  have h : nI (M * m) + nI m = 0 := by
    rw [nI_add, show M * m + m = (M + 1) * m by rw [Nat.add_mul, Nat.one_mul], nI_mod]
    have e : (M + 1) * m % 4294967296 = 0 := by
      rw [hM]
      exact Nat.mul_mod_right _ _
    rw [e]
    rfl
  have h2 : nI (M * m) = -nI m := by
    have q := congrArg (fun z => z - nI m) h
    simp only [Int32.add_sub_cancel, Int32.zero_sub] at q
    exact q
  rw [h2, Int32.sub_eq_add_neg]
theorem hi_1 (A B K M L : Nat) (hL : L = 4294967296) (hK : K = L * M) : (A + K * B) / L = A / L + M * B := by
  rw [hK, Nat.mul_assoc, Nat.add_mul_div_left _ _ (by omega)]
theorem mulhu (x y : Int32) : F_upperHalf (F_unsigned x * F_unsigned y) = F_m_upper x y := by
  rw [un_val, un_val, lN_mul, hi_all, upper_is]
theorem mulhsu (x y : Int32) : F_upperHalf (x.toInt64 * F_unsigned y) = if 0 ≤ x then F_m_upper x y - 0 else F_m_upper x y - y := by
  rw [un_val, upper_is]
  by_cases h : 0 ≤ x
  · rw [if_pos h, i2l_pos h, lN_mul, hi_all, Int32.sub_zero]
  · obtain ⟨K, hK⟩ : ∃ K : Nat, K = 18446744069414584320 := ⟨_, rfl⟩
    obtain ⟨M, hM⟩ : ∃ M : Nat, M = 4294967295 := ⟨_, rfl⟩
    obtain ⟨L, hL⟩ : ∃ L : Nat, L = 4294967296 := ⟨_, rfl⟩
    have hKL : K = L * M := by rw [hK, hL, hM]
    rw [if_neg h, i2l_neg h, lN_mul, hi_all, ← hK, ← hL, Nat.add_mul, hi_1 _ _ K M L hL hKL, ← nI_add]
    conv => rhs; rw [U_nI y]
    rw [U_of (U_lt y), nI_neg _ M hM]
theorem mulh (x y : Int32) : F_upperHalf (x.toInt64 * y.toInt64) = (if 0 ≤ x then (if 0 ≤ y then F_m_upper x y - 0 - 0 else F_m_upper x y - 0 - x) else (if 0 ≤ y then F_m_upper x y - y - 0 else F_m_upper x y - y - x)) := by
  rw [upper_is]
  obtain ⟨K, hK⟩ : ∃ K : Nat, K = 18446744069414584320 := ⟨_, rfl⟩
  obtain ⟨M, hM⟩ : ∃ M : Nat, M = 4294967295 := ⟨_, rfl⟩
  obtain ⟨L, hL⟩ : ∃ L : Nat, L = 4294967296 := ⟨_, rfl⟩
  have hKL : K = L * M := by rw [hK, hL, hM]
  have nx : ∀ a : Int32, a - x = a + nI (M * U x) := fun a => by
    conv => lhs; rw [U_nI x]
    exact nI_neg _ M hM a
  have ny : ∀ a : Int32, a - y = a + nI (M * U y) := fun a => by
    conv => lhs; rw [U_nI y]
    exact nI_neg _ M hM a
  by_cases h : 0 ≤ x
  · rw [if_pos h]
    by_cases g : 0 ≤ y
    · rw [if_pos g, i2l_pos h, i2l_pos g, lN_mul, hi_all, Int32.sub_zero, Int32.sub_zero]
    · rw [if_neg g, i2l_pos h, i2l_neg g, lN_mul, hi_all, ← hK, ← hL, Nat.mul_add, Nat.mul_comm (U x) K, hi_1 _ _ K M L hL hKL, ← nI_add, Int32.sub_zero, nx]
  · rw [if_neg h]
    by_cases g : 0 ≤ y
    · rw [if_pos g, i2l_neg h, i2l_pos g, lN_mul, hi_all, ← hK, ← hL, Nat.add_mul, hi_1 _ _ K M L hL hKL, ← nI_add, Int32.sub_zero, ny]
    · rw [if_neg g, i2l_neg h, i2l_neg g, lN_mul, hi_all, ← hK, ← hL]
      have e : (U x + K) * (U y + K) = U x * U y + K * (U x + (U y + K)) := by
        simp only [Nat.add_mul, Nat.mul_add, Nat.mul_comm (U x) K]
        omega
      have kz : nI (M * K) = 0 := by
        rw [hM, hK, nI_mod]
        rfl
      rw [e, hi_1 _ _ K M L hL hKL, ← nI_add, Nat.mul_add, Nat.mul_add, ← nI_add, ← nI_add, kz, Int32.add_zero, ny, nx, Int32.add_assoc, Int32.add_comm (nI (M * U y))]
theorem U_pos {y : Int32} (h : ¬ y = 0) : 0 < U y := by
  rcases Nat.eq_zero_or_pos (U y) with q | q
  · exfalso
    apply h
    rw [U_nI y, q]
    rfl
  · exact q
theorem divu (x y : Int32) (h : ¬ y = 0) : (F_unsigned x / F_unsigned y).toInt32 = F_m_divided x y 0 := by
  have hx := U_lt x
  have hy := U_lt y
  rw [un_val, un_val, pk_lDiv (by omega) (U_pos h) (by omega), lN_i, div_is x y (U_pos h), if_pos rfl]
theorem remu (x y : Int32) (h : ¬ y = 0) : (F_unsigned x - F_unsigned x / F_unsigned y * F_unsigned y).toInt32 = F_m_divided x y 1 := by
  have hx := U_lt x
  have hy := U_lt y
  rw [un_val, un_val, pk_lRem (by omega) (U_pos h) (by omega), lN_i, div_is x y (U_pos h), if_neg (by decide)]
/-- the number of an int without its sign -/
def mag (x : Int32) : Nat := x.toInt.natAbs
theorem mag_pos {x : Int32} (h : 0 ≤ x) : x.toInt = (mag x : Int) ∧ x = nI (mag x) ∧ U x = mag x := by
  have h2 := (neg_iff x).mp h
  have e : x.toInt = (U x : Int) := by
    conv => lhs; rw [U_nI x]
    exact nI_toInt (by omega)
  have e2 : mag x = U x := by unfold mag; rw [e]; rfl
  rw [e2]
  exact ⟨e, U_nI x, rfl⟩
theorem mag_neg {x : Int32} (h : ¬ 0 ≤ x) : x.toInt = -(mag x : Int) ∧ -x = nI (mag x) ∧ U (-x) = mag x := by
  have h2 : x.toInt < 0 := by
    rw [Int32.le_iff_toInt_le] at h
    have e0 : (0 : Int32).toInt = 0 := rfl
    rw [e0] at h
    omega
  have h3 := Int32.le_toInt x
  have e : x.toInt = -(mag x : Int) := by unfold mag; omega
  have hm : mag x < 4294967296 := by
    have h4 : (-2147483648 : Int) ≤ x.toInt := h3
    omega
  have e2 : -x = nI (mag x) := by
    have q : x = -nI (mag x) := (Int32.ofInt_toInt x).symm.trans ((congrArg Int32.ofInt e).trans (by rw [Int32.ofInt_neg]; rfl))
    conv => lhs; rw [q]
    exact Int32.neg_neg
  refine ⟨e, e2, ?_⟩
  rw [e2, U_of hm]
theorem sdiv (x y : Int32) : x / y = Int32.ofInt (x.toInt.tdiv y.toInt) := Int32.toInt_inj.mp (by rw [Int32.toInt_div, Int32.toInt_ofInt])
theorem ofI (n : Nat) : Int32.ofInt (n : Int) = nI n := rfl
theorem ofIn (n : Nat) : Int32.ofInt (-(n : Int)) = -nI n := by rw [Int32.ofInt_neg]; rfl
theorem srem (x y : Int32) : x - x / y * y = Int32.ofInt (x.toInt.tmod y.toInt) := by
  have h : x.toInt.tmod y.toInt = x.toInt - x.toInt.tdiv y.toInt * y.toInt := by
    have q := Int.tmod_add_tdiv_mul x.toInt y.toInt
    omega
  rw [h, sdiv, Int32.ofInt_sub, Int32.ofInt_mul, Int32.ofInt_toInt, Int32.ofInt_toInt]
theorem divs (x y : Int32) (h : ¬ y = 0) : x / y = F_m_quotient x y 0 ∧ x - x / y * y = F_m_quotient x y 1 := by
  rw [srem, sdiv]
  unfold F_m_quotient
  simp only [if_neg h, eq_self, if_true, if_neg (show ¬ (1 : Int32) = 0 by decide)]
  by_cases hx : 0 ≤ x
  · obtain ⟨x1, x2, x3⟩ := mag_pos hx
    rw [if_pos hx, if_pos hx]
    by_cases hy : 0 ≤ y
    · obtain ⟨y1, y2, y3⟩ := mag_pos hy
      have h0 : 0 < U y := U_pos h
      rw [if_pos hy, if_pos hy, div_is x y h0, div_is x y h0, if_pos rfl, if_neg (by decide), x1, y1, x3, y3]
      exact ⟨ofI _, ofI _⟩
    · obtain ⟨y1, y2, y3⟩ := mag_neg hy
      have h0 : 0 < U (-y) := U_pos (fun q => h (by rw [← Int32.neg_neg (a := y), q]; rfl))
      rw [if_neg hy, if_neg hy, div_is x (-y) h0, div_is x (-y) h0, if_pos rfl, if_neg (by decide), x1, y1, x3, y3, Int.tdiv_neg, Int.tmod_neg]
      exact ⟨ofIn _, ofI _⟩
  · obtain ⟨x1, x2, x3⟩ := mag_neg hx
    rw [if_neg hx, if_neg hx]
    by_cases hy : 0 ≤ y
    · obtain ⟨y1, y2, y3⟩ := mag_pos hy
      have h0 : 0 < U y := U_pos h
      rw [if_pos hy, if_pos hy, div_is (-x) y h0, div_is (-x) y h0, if_pos rfl, if_neg (by decide), x1, y1, x3, y3, Int.neg_tdiv, Int.neg_tmod]
      exact ⟨ofIn _, ofIn _⟩
    · obtain ⟨y1, y2, y3⟩ := mag_neg hy
      have h0 : 0 < U (-y) := U_pos (fun q => h (by rw [← Int32.neg_neg (a := y), q]; rfl))
      rw [if_neg hy, if_neg hy, div_is (-x) (-y) h0, div_is (-x) (-y) h0, if_pos rfl, if_neg (by decide), x1, y1, x3, y3, Int.tdiv_neg, Int.tmod_neg, Int.neg_tdiv, Int.neg_tmod, Int.neg_neg]
      exact ⟨ofI _, ofIn _⟩
theorem mul_eq {j : Nat} (hj : j < 8) (p q : Int32) : F_multiplyOrDivide (nI j) p q = F_m_multiplied (nI j) p q := by
  unfold F_multiplyOrDivide F_m_multiplied F_divide
  rcases (show j = 0 ∨ j = 1 ∨ j = 2 ∨ j = 3 ∨ j = 4 ∨ j = 5 ∨ j = 6 ∨ j = 7 by omega) with rfl | rfl | rfl | rfl | rfl | rfl | rfl | rfl
  · simp only [if_neg (show ¬ nI 0 = (1 : Int32) by decide), if_neg (show ¬ nI 0 = (2 : Int32) by decide), if_neg (show ¬ nI 0 = (3 : Int32) by decide), if_neg (show ¬ nI 0 = (4 : Int32) by decide), if_neg (show ¬ nI 0 = (5 : Int32) by decide), if_neg (show ¬ nI 0 = (6 : Int32) by decide), if_pos (show nI 0 = (0 : Int32) from rfl)]
  · simp only [if_neg (show ¬ nI 1 = (0 : Int32) by decide), if_neg (show ¬ nI 1 = (2 : Int32) by decide), if_neg (show ¬ nI 1 = (3 : Int32) by decide), if_neg (show ¬ nI 1 = (4 : Int32) by decide), if_neg (show ¬ nI 1 = (5 : Int32) by decide), if_neg (show ¬ nI 1 = (6 : Int32) by decide), if_pos (show nI 1 = (1 : Int32) from rfl)]
    exact mulh p q
  · simp only [if_neg (show ¬ nI 2 = (0 : Int32) by decide), if_neg (show ¬ nI 2 = (1 : Int32) by decide), if_neg (show ¬ nI 2 = (3 : Int32) by decide), if_neg (show ¬ nI 2 = (4 : Int32) by decide), if_neg (show ¬ nI 2 = (5 : Int32) by decide), if_neg (show ¬ nI 2 = (6 : Int32) by decide), if_pos (show nI 2 = (2 : Int32) from rfl)]
    exact mulhsu p q
  · simp only [if_neg (show ¬ nI 3 = (0 : Int32) by decide), if_neg (show ¬ nI 3 = (1 : Int32) by decide), if_neg (show ¬ nI 3 = (2 : Int32) by decide), if_neg (show ¬ nI 3 = (4 : Int32) by decide), if_neg (show ¬ nI 3 = (5 : Int32) by decide), if_neg (show ¬ nI 3 = (6 : Int32) by decide), if_pos (show nI 3 = (3 : Int32) from rfl)]
    exact mulhu p q
  · simp only [if_neg (show ¬ nI 4 = (0 : Int32) by decide), if_neg (show ¬ nI 4 = (1 : Int32) by decide), if_neg (show ¬ nI 4 = (2 : Int32) by decide), if_neg (show ¬ nI 4 = (3 : Int32) by decide), if_neg (show ¬ nI 4 = (5 : Int32) by decide), if_neg (show ¬ nI 4 = (6 : Int32) by decide), if_pos (show nI 4 = (4 : Int32) from rfl)]
    by_cases h : q = 0
    · subst h
      unfold F_m_quotient
      simp only [eq_self, if_true, if_neg (show ¬ (6 : Int32) ≤ nI 4 by decide)]
    · rw [if_neg h]
      exact (divs p q h).1
  · simp only [if_neg (show ¬ nI 5 = (0 : Int32) by decide), if_neg (show ¬ nI 5 = (1 : Int32) by decide), if_neg (show ¬ nI 5 = (2 : Int32) by decide), if_neg (show ¬ nI 5 = (3 : Int32) by decide), if_neg (show ¬ nI 5 = (4 : Int32) by decide), if_neg (show ¬ nI 5 = (6 : Int32) by decide), if_pos (show nI 5 = (5 : Int32) from rfl)]
    by_cases h : q = 0
    · rw [if_pos h, if_pos h, if_neg (show ¬ (6 : Int32) ≤ nI 5 by decide)]
    · rw [if_neg h, if_neg h]
      exact divu p q h
  · simp only [if_neg (show ¬ nI 6 = (0 : Int32) by decide), if_neg (show ¬ nI 6 = (1 : Int32) by decide), if_neg (show ¬ nI 6 = (2 : Int32) by decide), if_neg (show ¬ nI 6 = (3 : Int32) by decide), if_neg (show ¬ nI 6 = (4 : Int32) by decide), if_neg (show ¬ nI 6 = (5 : Int32) by decide), if_pos (show nI 6 = (6 : Int32) from rfl)]
    by_cases h : q = 0
    · subst h
      unfold F_m_quotient
      simp only [eq_self, if_true, if_pos (show (6 : Int32) ≤ nI 6 by decide), if_neg (show ¬ (1 : Int32) = 0 by decide)]
    · rw [if_neg h]
      exact (divs p q h).2
  · simp only [if_neg (show ¬ nI 7 = (0 : Int32) by decide), if_neg (show ¬ nI 7 = (1 : Int32) by decide), if_neg (show ¬ nI 7 = (2 : Int32) by decide), if_neg (show ¬ nI 7 = (3 : Int32) by decide), if_neg (show ¬ nI 7 = (4 : Int32) by decide), if_neg (show ¬ nI 7 = (5 : Int32) by decide), if_neg (show ¬ nI 7 = (6 : Int32) by decide)]
    by_cases h : q = 0
    · rw [if_pos h, if_pos h, if_pos (show (6 : Int32) ≤ nI 7 by decide)]
    · rw [if_neg h, if_neg h]
      exact remu p q h
