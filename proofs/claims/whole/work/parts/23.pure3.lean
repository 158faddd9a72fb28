def U (x : Int32) : Nat := x.toBitVec.toNat
theorem U_lt (x : Int32) : U x < 4294967296 := x.toBitVec.isLt
theorem U_nI (x : Int32) : x = nI (U x) := toNat_nI x
theorem U_of {n : Nat} (h : n < 4294967296) : U (nI n) = n := pk_tn h
theorem U_mod (n : Nat) : U (nI n) = n % 4294967296 := by
  show (BitVec.ofNat 32 n).toNat = _
  rw [BitVec.toNat_ofNat]
theorem nI_mod (n : Nat) : nI n = nI (n % 4294967296) := by rw [← U_mod, ← U_nI]
theorem bit_atU (w : Int32) {k : Nat} (hk : k < 32) : (w >>> (nI k &&& 31)) &&& 1 = nI (U w / 2 ^ k % 2) := bit_at w hk
theorem under_val (x y : Int32) : ∀ j, j ≤ 32 → L_under x y j = if U x % 2 ^ j < U y % 2 ^ j then 1 else 0 := by
  intro j
  induction j with
  | zero =>
    intro _
    rw [Nat.pow_zero, Nat.mod_one, Nat.mod_one, if_neg (by decide)]
    rfl
  | succ j ih =>
    intro h
    show B_under x y j (L_under x y j) = _
    unfold B_under
    rw [bit_atU x (by omega), bit_atU y (by omega), ih (by omega), Nat.mod_pow_succ, Nat.mod_pow_succ]
    have hx : U x % 2 ^ j < 2 ^ j := Nat.mod_lt _ (Nat.two_pow_pos j)
    have hy : U y % 2 ^ j < 2 ^ j := Nat.mod_lt _ (Nat.two_pow_pos j)
    rcases (show U x / 2 ^ j % 2 = 0 ∨ U x / 2 ^ j % 2 = 1 by omega) with a | a <;> rcases (show U y / 2 ^ j % 2 = 0 ∨ U y / 2 ^ j % 2 = 1 by omega) with b | b
    · rw [a, b, if_pos rfl, Nat.mul_zero, Nat.add_zero, Nat.add_zero]
    · rw [a, b, if_neg (by decide), if_neg (by show ¬ nI 1 ≤ nI 0; decide), if_pos (by omega)]
    · rw [a, b, if_neg (by decide), if_pos (by show nI 0 ≤ nI 1; decide), if_neg (by omega)]
    · rw [a, b, if_pos rfl]
      by_cases q : U x % 2 ^ j < U y % 2 ^ j
      · rw [if_pos q, if_pos (by omega)]
      · rw [if_neg q, if_neg (by omega)]
theorem under_is (x y : Int32) : F_m_under x y = if U x < U y then 1 else 0 := by
  unfold F_m_under
  rw [under_val x y 32 (by decide)]
  have hx : U x % 2 ^ 32 = U x := Nat.mod_eq_of_lt (U_lt x)
  have hy : U y % 2 ^ 32 = U y := Nat.mod_eq_of_lt (U_lt y)
  rw [hx, hy]
theorem lm_bits : ∀ i, i < 64 → (4294967295 : Int64).toBitVec.getLsbD i = decide (i < 32) := by decide +kernel
theorem un_val (p : Int32) : F_unsigned p = lN (U p) := by
  unfold F_unsigned
  apply Int64.toBitVec_inj.mp
  rw [Int64.toBitVec_and, Int32.toBitVec_toInt64]
  show _ = BitVec.ofNat 64 _
  apply BitVec.eq_of_getLsbD_eq
  intro i hi
  rw [BitVec.getLsbD_and, BitVec.getLsbD_signExtend, BitVec.getLsbD_ofNat, lm_bits i hi]
  by_cases h : i < 32
  · rw [if_pos h, decide_eq_true h, decide_eq_true hi]
    simp
    rfl
  · rw [decide_eq_false h]
    have h2 : (U p).testBit i = false := Nat.testBit_lt_two_pow (Nat.lt_of_lt_of_le (U_lt p) (show 2 ^ 32 ≤ 2 ^ i from Nat.pow_le_pow_right (by decide) (by omega)))
    rw [h2]
    simp
theorem un_ge (p q : Int32) : (0 ≤ lg_cmp (F_unsigned p) (F_unsigned q)) ↔ ¬ U p < U q := by
  have hp := U_lt p
  have hq := U_lt q
  rw [lg_cmp_ge, un_val, un_val, pk_lLE (by omega) (by omega)]
  omega
theorem shl1 (x : Int32) : x <<< ((1 : Int32) &&& 31) = nI (2 * U x) := by
  rw [U_nI (x <<< ((1 : Int32) &&& 31))]
  have h := pk_shl x ((1 : Int32) &&& 31) 1 (by decide)
  have h2 : U (x <<< ((1 : Int32) &&& 31)) = U x * 2 ^ 1 % 2 ^ 32 := h
  rw [h2, nI_mod (2 * U x)]
  congr 1
  omega
theorem shl1N {n : Nat} : nI n <<< ((1 : Int32) &&& 31) = nI (2 * n) := by
  rw [shl1, U_mod, nI_mod (2 * (n % 4294967296)), nI_mod (2 * n)]
  congr 1
  omega
theorem or1 {b n : Nat} (hb : b < 2) : nI (2 * n) ||| nI b = nI (2 * n + b) := by
  rw [Int32.or_comm, Nat.mul_comm]
  have h := nI_orD (j := 1) (x := b) (b := n) (by omega)
  rw [Nat.pow_one] at h
  rw [h, Nat.add_comm]
theorem bit_d (y : Int32) {j : Nat} (hj : j < 32) : (y >>> ((31 - nI j) &&& 31)) &&& 1 = nI (U y / 2 ^ (31 - j) % 2) := by
  have e : (31 : Int32) - nI j = nI (31 - j) := pk_sub (a := 31) (by omega)
  rw [e]
  exact bit_at y (by omega)
theorem half_d {Y j : Nat} (hj : j < 32) : Y / 2 ^ (31 - j) = 2 * (Y / 2 ^ (32 - j)) + Y / 2 ^ (31 - j) % 2 := by
  have e : 2 ^ (32 - j) = 2 ^ (31 - j) * 2 := by rw [← Nat.pow_succ]; congr 1; omega
  rw [e, ← Nat.div_div_eq_div_mul]
  omega
theorem up_a (h l M : Nat) (hM : M = 4294967296) : (2 * h + l / 2147483648) * M + 2 * l % 4294967296 = 2 * (h * M + l) := by
  have e : 2 * l = M * (l / 2147483648) + 2 * l % 4294967296 := by subst hM; omega
  rw [Nat.add_mul, Nat.mul_add, Nat.mul_assoc, Nat.mul_comm (l / 2147483648)]
  omega
theorem up_b (h l X M : Nat) (hM : M = 4294967296) (hX : X < 4294967296) (c : (2 * l + X) % 4294967296 < X) : (2 * h + l / 2147483648 + 1) * M + (2 * l + X) % 4294967296 = 2 * (h * M + l) + X := by
  have e : 2 * l + X = M * (l / 2147483648) + M + (2 * l + X) % 4294967296 := by subst hM; omega
  rw [Nat.add_mul, Nat.add_mul, Nat.mul_add, Nat.mul_assoc, Nat.mul_comm (l / 2147483648), Nat.one_mul]
  omega
theorem up_c (h l X M : Nat) (hM : M = 4294967296) (hX : X < 4294967296) (c : ¬ (2 * l + X) % 4294967296 < X) : (2 * h + l / 2147483648) * M + (2 * l + X) % 4294967296 = 2 * (h * M + l) + X := by
  have e : 2 * l + X = M * (l / 2147483648) + (2 * l + X) % 4294967296 := by subst hM; omega
  rw [Nat.add_mul, Nat.mul_add, Nat.mul_assoc, Nat.mul_comm (l / 2147483648)]
  omega
theorem up_lt (k s M : Nat) (hM : M = 4294967296) (h : k * M + s ≤ 18446744065119617025) : k < 4294967296 := by subst hM; omega
theorem upper_val (x y : Int32) (M : Nat) (hM : M = 4294967296) : ∀ j, j ≤ 32 → ∃ h l : Nat, h < 4294967296 ∧ l < 4294967296 ∧ L_upper x y j = (nI h, nI l) ∧ h * M + l = U x * (U y / 2 ^ (32 - j)) := by
  intro j
  induction j with
  | zero =>
    intro _
    refine ⟨0, 0, by decide, by decide, rfl, ?_⟩
    have h : U y / 2 ^ (32 - 0) = 0 := Nat.div_eq_of_lt (U_lt y)
    rw [h, Nat.mul_zero, Nat.zero_mul]
  | succ j ih =>
    intro hj
    obtain ⟨h, l, hh, hl, e, hv⟩ := ih (by omega)
    have hx := U_lt x
    have hy : U y / 2 ^ (31 - j) < 4294967296 := Nat.lt_of_le_of_lt (Nat.div_le_self _ _) (U_lt y)
    have hd := half_d (Y := U y) (j := j) (by omega)
    have hB0 : U x * (U y / 2 ^ (31 - j)) ≤ 4294967295 * 4294967295 := Nat.mul_le_mul (by omega) (by omega)
    have hB : U x * (U y / 2 ^ (31 - j)) ≤ 18446744065119617025 := hB0
    clear hB0 hy
    have e31 : 32 - (j + 1) = 31 - j := by omega
    show ∃ h l : Nat, h < 4294967296 ∧ l < 4294967296 ∧ B_upper x y j (L_upper x y j) = (nI h, nI l) ∧ _
    rw [e31]
    unfold B_upper
    rw [e, bit_d y (by omega)]
    dsimp only
    have hb : U y / 2 ^ (31 - j) % 2 < 2 := Nat.mod_lt _ (by decide)
    generalize U y / 2 ^ (31 - j) % 2 = b at hd hb ⊢
    have p31 : (2 : Nat) ^ 31 = 2147483648 := by decide
    rw [shl1N, shl1N, pk_ushrN hl 31 31 (by decide), p31, or1 (by omega), under_is]
    rw [hd] at hB
    have hm : U x * (2 * (U y / 2 ^ (32 - j)) + b) = 2 * (h * M + l) + U x * b := by
      rw [Nat.mul_add, hv, ← Nat.mul_assoc, Nat.mul_comm (U x) 2, Nat.mul_assoc]
    rw [hm] at hB
    rw [hd, hm]
    have es : nI (2 * l) + x = nI (2 * l + U x) := by conv => lhs; rw [U_nI x, nI_add]
    rcases (show b = 0 ∨ b = 1 by omega) with rfl | rfl
    · rw [if_neg (by decide), Nat.mul_zero]
      rw [Nat.mul_zero] at hB
      have q := up_a h l M hM
      refine ⟨2 * h + l / 2147483648, 2 * l % 4294967296, up_lt _ _ M hM (Nat.le_trans (Nat.le_of_eq q) hB), Nat.mod_lt _ (by decide), ?_, q⟩
      rw [nI_mod (2 * l)]
    · rw [if_pos (by rfl), Nat.mul_one, es, U_mod]
      rw [Nat.mul_one] at hB
      by_cases c : (2 * l + U x) % 4294967296 < U x
      · rw [if_pos c, if_neg (by decide)]
        have q := up_b h l (U x) M hM hx c
        refine ⟨2 * h + l / 2147483648 + 1, (2 * l + U x) % 4294967296, up_lt _ _ M hM (Nat.le_trans (Nat.le_of_eq q) hB), Nat.mod_lt _ (by decide), ?_, q⟩
        rw [nI_mod (2 * l + U x), nI_1]
      · rw [if_neg c, if_pos rfl]
        have q := up_c h l (U x) M hM hx c
        refine ⟨2 * h + l / 2147483648, (2 * l + U x) % 4294967296, up_lt _ _ M hM (Nat.le_trans (Nat.le_of_eq q) hB), Nat.mod_lt _ (by decide), ?_, q⟩
        rw [nI_mod (2 * l + U x)]
theorem up_div (h l M : Nat) (hM : M = 4294967296) (hl : l < 4294967296) : (h * M + l) / 4294967296 = h := by subst hM; omega
theorem upper_is (x y : Int32) : F_m_upper x y = nI (U x * U y / 4294967296) := by
  obtain ⟨M, hM⟩ : ∃ M : Nat, M = 4294967296 := ⟨_, rfl⟩
  obtain ⟨h, l, hh, hl, e, hv⟩ := upper_val x y M hM 32 (by decide)
  unfold F_m_upper
  rw [e]
  show nI h = _
  rw [show 32 - 32 = 0 from rfl, Nat.pow_zero, Nat.div_one] at hv
  rw [← hv, up_div h l M hM hl]
theorem sgn_ge {r : Nat} (h : r < 4294967296) : (0 ≤ nI r) ↔ r < 2147483648 := by
  constructor
  · intro q
    rcases Nat.lt_or_ge r 2147483648 with c | c
    · exact c
    · exfalso
      rw [Int32.le_iff_toInt_le] at q
      have e0 : (0 : Int32).toInt = 0 := rfl
      rw [e0] at q
      have e1 : (nI r).toInt = (r : Int) - 4294967296 := by
        show (BitVec.ofNat 32 r).toInt = _
        rw [BitVec.toInt_eq_toNat_cond, BitVec.toNat_ofNat, Nat.mod_eq_of_lt (by omega), if_neg (by omega)]
        rfl
      rw [e1] at q
      omega
  · intro q
    exact nI_pos' (by omega)
theorem div_val (x y : Int32) (h0 : 0 < U y) : ∀ j, j ≤ 32 → L_divided x y j = (nI (U x / 2 ^ (32 - j) / U y), nI (U x / 2 ^ (32 - j) % U y)) := by
  intro j
  induction j with
  | zero =>
    intro _
    have h : U x / 2 ^ (32 - 0) = 0 := Nat.div_eq_of_lt (U_lt x)
    rw [h, Nat.zero_div, Nat.zero_mod]
    rfl
  | succ j ih =>
    intro hj
    have hy := U_lt y
    have hd := half_d (Y := U x) (j := j) (by omega)
    have e31 : 32 - (j + 1) = 31 - j := by omega
    show B_divided x y j (L_divided x y j) = _
    rw [e31, hd]
    unfold B_divided
    rw [ih (by omega), bit_d x (by omega)]
    dsimp only
    have hP : U x / 2 ^ (32 - j) < 4294967296 := Nat.lt_of_le_of_lt (Nat.div_le_self _ _) (U_lt x)
    generalize hPe : U x / 2 ^ (32 - j) = P at hP ⊢
    have hb : U x / 2 ^ (31 - j) % 2 < 2 := Nat.mod_lt _ (by decide)
    generalize U x / 2 ^ (31 - j) % 2 = b at hb ⊢
    have hr : P % U y < U y := Nat.mod_lt _ h0
    have hq : P / U y ≤ P := Nat.div_le_self _ _
    have hsum : 2 * P + b = U y * (2 * (P / U y)) + (2 * (P % U y) + b) := by
      have h1 := Nat.div_add_mod P (U y)
      have h2 : U y * (2 * (P / U y)) = 2 * (U y * (P / U y)) := by rw [← Nat.mul_assoc, Nat.mul_comm (U y) 2, Nat.mul_assoc]
      rw [h2]
      omega
    rw [hsum, Nat.mul_add_div h0, Nat.mul_add_mod]
    generalize P % U y = r at hr ⊢
    generalize P / U y = q at hq ⊢
    rw [shl1N, shl1N, or1 hb, under_is, U_mod]
    have ey : y = nI (U y) := U_nI y
    have o1 : nI (2 * q) ||| 1 = nI (2 * q + 1) := or1 (b := 1) (by decide)
    have o0 : nI (2 * q) ||| 0 = nI (2 * q + 0) := or1 (b := 0) (by decide)
    have fit : U y ≤ 2 * r + b → (2 * r + b) / U y = 1 ∧ (2 * r + b) % U y = 2 * r + b - U y ∧ nI (2 * r + b) - y = nI (2 * r + b - U y) := by
      intro c
      refine ⟨?_, ?_, ?_⟩
      · rw [Nat.div_eq_sub_div h0 c, Nat.div_eq_of_lt (by omega)]
      · rw [Nat.mod_eq_sub_mod c, Nat.mod_eq_of_lt (by omega)]
      · conv => lhs; rw [ey]
        exact pk_sub c
    by_cases c1 : r < 2147483648
    · rw [if_pos ((sgn_ge (by omega)).mpr c1), Nat.mod_eq_of_lt (show 2 * r + b < 4294967296 by omega)]
      by_cases c2 : 2 * r + b < U y
      · rw [if_pos c2, if_neg (by decide), o0, Nat.div_eq_of_lt c2, Nat.mod_eq_of_lt c2]
      · obtain ⟨f1, f2, f3⟩ := fit (by omega)
        rw [if_neg c2, if_pos rfl, o1, f1, f2, f3]
    · obtain ⟨f1, f2, f3⟩ := fit (by omega)
      rw [if_neg (fun z => c1 ((sgn_ge (by omega)).mp z)), o1, f1, f2, f3]
theorem div_is (x y : Int32) (h0 : 0 < U y) (a : Int32) : F_m_divided x y a = if a = 0 then nI (U x / U y) else nI (U x % U y) := by
  unfold F_m_divided
  rw [div_val x y h0 32 (by decide), show 32 - 32 = 0 from rfl, Nat.pow_zero, Nat.div_one]
theorem mov_up (x a4 : Int32) {a3 : Int32} (h : ¬ a3 = 0) : ∀ j, L_moved x a3 a4 j = nI (U x * 2 ^ j) := by
  intro j
  induction j with
  | zero => rw [Nat.pow_zero, Nat.mul_one]; exact U_nI x
  | succ j ih =>
    show B_moved x a3 a4 j (L_moved x a3 a4 j) = _
    unfold B_moved
    rw [if_neg h, ih, nI_add, Nat.pow_succ, ← Nat.mul_assoc]
    congr 1
    omega
theorem mov_dn (x : Int32) : ∀ j, L_moved x 0 0 j = nI (U x / 2 ^ j) := by
  intro j
  induction j with
  | zero => rw [Nat.pow_zero, Nat.div_one]; exact U_nI x
  | succ j ih =>
    have hx := U_lt x
    show B_moved x 0 0 j (L_moved x 0 0 j) = _
    unfold B_moved
    rw [if_pos rfl, if_pos rfl, ih, pk_ushrN (Nat.lt_of_le_of_lt (Nat.div_le_self _ _) hx) 1 1 (by decide), Nat.div_div_eq_div_mul, ← Nat.pow_add]
theorem mov_sg (x : Int32) {a4 : Int32} (h : ¬ a4 = 0) : ∀ j, (L_moved x 0 a4 j).toInt = x.toInt >>> j := by
  intro j
  induction j with
  | zero =>
    show x.toInt = x.toInt >>> 0
    rw [Int.shiftRight_zero]
  | succ j ih =>
    show (B_moved x 0 a4 j (L_moved x 0 a4 j)).toInt = _
    unfold B_moved
    rw [if_pos rfl, if_neg h, pk_shr _ _ 1 (by decide), ih, ← Int.shiftRight_add]
