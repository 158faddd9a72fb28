theorem put_eq {rs : Nat → Int32} (h0 : rs 0 = 0) (w v : Int32) : F_putRegister rs (F_partD w) v = F_m_put w rs v ∧ F_m_put w rs v 0 = 0 := by
  rw [eD]
  obtain ⟨k, hk, e⟩ := part_lt w 7 5 (by decide)
  have e2 : F_m_part w 7 5 = nI k := e
  unfold F_putRegister F_m_put
  rw [e2]
  have hk2 : k < 32 := hk
  rcases Nat.eq_zero_or_pos k with q | q
  · subst q
    have u : upd rs (nI 0).toNatClampNeg 0 = rs := upd_same (k := 0) h0
    rw [if_pos (show nI 0 ≤ (0 : Int32) by decide), if_pos (show nI 0 = (0 : Int32) from rfl), u]
    exact ⟨rfl, h0⟩
  · have n1 : ¬ nI k ≤ (0 : Int32) := nI_nle q (by omega)
    have n2 : ¬ (32 : Int32) ≤ nI k := (show ¬ nI 32 ≤ nI k from nI_ge hk2 (by decide))
    have n3 : ¬ nI k = (0 : Int32) := nI_ne0 q (by omega)
    rw [if_neg n1, if_neg n2, if_neg n3]
    refine ⟨rfl, ?_⟩
    rw [nI_clamp (by omega), pk_un (by omega)]
    exact h0
theorem shl_is (x : Int32) {k : Nat} (hk : k < 32) : x <<< (nI k &&& 31) = nI (U x * 2 ^ k) := by
  rw [U_nI (x <<< (nI k &&& 31)), nI_mod (U x * 2 ^ k)]
  exact congrArg nI (pk_shl x (nI k &&& 31) k (s_l k hk))
theorem ushr_is (x : Int32) {k : Nat} (hk : k < 32) : (x.toUInt32 >>> ((nI k).toUInt32 &&& Int32.toUInt32 31)).toInt32 = nI (U x / 2 ^ k) := by
  rw [U_nI ((x.toUInt32 >>> ((nI k).toUInt32 &&& Int32.toUInt32 31)).toInt32)]
  exact congrArg nI (pk_ushr x (nI k) k (s_u k hk))
theorem amt5 (y : Int32) : ∃ k : Nat, k < 32 ∧ y &&& 31 = nI k := pk_andE y (m := 31) 5 (by decide)
theorem mv_up (x y : Int32) : x <<< ((y &&& 31) &&& 31) = F_m_moved x (y &&& 31) 1 0 := by
  obtain ⟨k, hk, e⟩ := amt5 y
  unfold F_m_moved
  rw [e, shl_is x hk, nI_clamp (by omega), mov_up x 0 (by decide)]
theorem mv_dn (x y : Int32) : (x.toUInt32 >>> ((y &&& 31).toUInt32 &&& Int32.toUInt32 31)).toInt32 = F_m_moved x (y &&& 31) 0 0 := by
  obtain ⟨k, hk, e⟩ := amt5 y
  unfold F_m_moved
  rw [e, ushr_is x hk, nI_clamp (by omega), mov_dn]
theorem mv_sg (x y : Int32) : x >>> ((y &&& 31) &&& 31) = F_m_moved x (y &&& 31) 0 1 := by
  obtain ⟨k, hk, e⟩ := amt5 y
  unfold F_m_moved
  rw [e, nI_clamp (by omega)]
  apply Int32.toInt_inj.mp
  rw [pk_shr x _ k (s_l k hk), mov_sg x (by decide)]
theorem xor_is (x y : Int32) : x ^^^ y = (x ||| y) &&& ((x &&& y) ^^^ (-1)) := by
  apply b_ext
  intro i hi
  rw [b_xor, b_and, b_or, b_xor, b_and, b_m1 i hi]
  cases bt x i <;> cases bt y i <;> rfl
theorem or_is (x y : Int32) : x ||| y = ((x ^^^ (-1)) &&& (y ^^^ (-1))) ^^^ (-1) := by
  apply b_ext
  intro i hi
  rw [b_or, b_xor, b_and, b_xor, b_xor, b_m1 i hi]
  cases bt x i <;> cases bt y i <;> rfl
theorem comp_eq {j : Nat} (hj : j < 8) (p q : Int32) : F_compute (nI j) p q = F_m_worked (nI j) p q 0 := by
  unfold F_compute F_m_worked
  rcases (show j = 0 ∨ j = 1 ∨ j = 2 ∨ j = 3 ∨ j = 4 ∨ j = 5 ∨ j = 6 ∨ j = 7 by omega) with rfl | rfl | rfl | rfl | rfl | rfl | rfl | rfl
  · simp only [if_neg (show ¬ nI 0 = (1 : Int32) by decide), if_neg (show ¬ nI 0 = (2 : Int32) by decide), if_neg (show ¬ nI 0 = (3 : Int32) by decide), if_neg (show ¬ nI 0 = (4 : Int32) by decide), if_neg (show ¬ nI 0 = (5 : Int32) by decide), if_neg (show ¬ nI 0 = (6 : Int32) by decide), if_pos (show nI 0 = (0 : Int32) from rfl), eq_self, if_true]
  · simp only [if_neg (show ¬ nI 1 = (0 : Int32) by decide), if_neg (show ¬ nI 1 = (2 : Int32) by decide), if_neg (show ¬ nI 1 = (3 : Int32) by decide), if_neg (show ¬ nI 1 = (4 : Int32) by decide), if_neg (show ¬ nI 1 = (5 : Int32) by decide), if_neg (show ¬ nI 1 = (6 : Int32) by decide), if_pos (show nI 1 = (1 : Int32) from rfl)]
    exact mv_up p q
  · simp only [if_neg (show ¬ nI 2 = (0 : Int32) by decide), if_neg (show ¬ nI 2 = (1 : Int32) by decide), if_neg (show ¬ nI 2 = (3 : Int32) by decide), if_neg (show ¬ nI 2 = (4 : Int32) by decide), if_neg (show ¬ nI 2 = (5 : Int32) by decide), if_neg (show ¬ nI 2 = (6 : Int32) by decide), if_pos (show nI 2 = (2 : Int32) from rfl)]
  · simp only [if_neg (show ¬ nI 3 = (0 : Int32) by decide), if_neg (show ¬ nI 3 = (1 : Int32) by decide), if_neg (show ¬ nI 3 = (2 : Int32) by decide), if_neg (show ¬ nI 3 = (4 : Int32) by decide), if_neg (show ¬ nI 3 = (5 : Int32) by decide), if_neg (show ¬ nI 3 = (6 : Int32) by decide), if_pos (show nI 3 = (3 : Int32) from rfl)]
    rw [under_is]
    by_cases c : U p < U q
    · rw [if_pos c, if_neg (fun z => (un_ge p q).mp z c), if_neg (by decide)]
    · rw [if_neg c, if_pos ((un_ge p q).mpr c), if_pos rfl]
  · simp only [if_neg (show ¬ nI 4 = (0 : Int32) by decide), if_neg (show ¬ nI 4 = (1 : Int32) by decide), if_neg (show ¬ nI 4 = (2 : Int32) by decide), if_neg (show ¬ nI 4 = (3 : Int32) by decide), if_neg (show ¬ nI 4 = (5 : Int32) by decide), if_neg (show ¬ nI 4 = (6 : Int32) by decide), if_pos (show nI 4 = (4 : Int32) from rfl)]
    exact xor_is p q
  · simp only [if_neg (show ¬ nI 5 = (0 : Int32) by decide), if_neg (show ¬ nI 5 = (1 : Int32) by decide), if_neg (show ¬ nI 5 = (2 : Int32) by decide), if_neg (show ¬ nI 5 = (3 : Int32) by decide), if_neg (show ¬ nI 5 = (4 : Int32) by decide), if_neg (show ¬ nI 5 = (6 : Int32) by decide), if_pos (show nI 5 = (5 : Int32) from rfl)]
    exact mv_dn p q
  · simp only [if_neg (show ¬ nI 6 = (0 : Int32) by decide), if_neg (show ¬ nI 6 = (1 : Int32) by decide), if_neg (show ¬ nI 6 = (2 : Int32) by decide), if_neg (show ¬ nI 6 = (3 : Int32) by decide), if_neg (show ¬ nI 6 = (4 : Int32) by decide), if_neg (show ¬ nI 6 = (5 : Int32) by decide), if_pos (show nI 6 = (6 : Int32) from rfl)]
    exact or_is p q
  · simp only [if_neg (show ¬ nI 7 = (0 : Int32) by decide), if_neg (show ¬ nI 7 = (1 : Int32) by decide), if_neg (show ¬ nI 7 = (2 : Int32) by decide), if_neg (show ¬ nI 7 = (3 : Int32) by decide), if_neg (show ¬ nI 7 = (4 : Int32) by decide), if_neg (show ¬ nI 7 = (5 : Int32) by decide), if_neg (show ¬ nI 7 = (6 : Int32) by decide)]
theorem sub_eq (p q : Int32) : p - q = F_m_worked 0 p q 1 := by
  unfold F_m_worked
  simp only [eq_self, if_true, if_neg (show ¬ (1 : Int32) = 0 by decide)]
theorem sar_eq (p q : Int32) : p >>> ((q &&& 31) &&& 31) = F_m_worked 5 p q 1 := by
  unfold F_m_worked
  simp only [if_neg (show ¬ (5 : Int32) = 0 by decide), if_neg (show ¬ (5 : Int32) = 1 by decide), if_neg (show ¬ (5 : Int32) = 2 by decide), if_neg (show ¬ (5 : Int32) = 3 by decide), if_neg (show ¬ (5 : Int32) = 4 by decide), eq_self, if_true]
  exact mv_sg p q
theorem fval (w : Int32) : ∃ j : Nat, j < 8 ∧ F_m_part w 12 3 = nI j := by
  obtain ⟨x, hx, e⟩ := part_lt w 12 3 (by decide)
  exact ⟨x, hx, e⟩
theorem low5 (w : Int32) : F_m_i w &&& 31 = F_m_part w 20 5 &&& 31 := by
  rw [← eI]
  unfold F_lowImmediate
  apply b_ext
  intro i hi
  have hp : bt (F_m_part w 20 5) i = (decide (i < 5) && bt w (20 + i)) := pm_bits w 20 5 (by decide) hi
  rw [b_and, b_and, ba20 _ hi, hp]
  have h31 : ∀ i, i < 32 → bt (31 : Int32) i = decide (i < 5) := by decide +kernel
  rw [h31 i hi]
  by_cases c : i < 5
  · rw [if_pos (by omega), decide_eq_true c]
    rfl
  · rw [decide_eq_false c, Bool.and_false, Bool.and_false]
theorem sh_only1 (p a b : Int32) (o : Int32) (h : a &&& 31 = b &&& 31) : F_m_worked 1 p a o = F_m_worked 1 p b o := by
  unfold F_m_worked
  simp only [if_neg (show ¬ (1 : Int32) = 0 by decide), eq_self, if_true, h]
theorem sh_only5 (p a b : Int32) (o : Int32) (h : a &&& 31 = b &&& 31) : F_m_worked 5 p a o = F_m_worked 5 p b o := by
  unfold F_m_worked
  simp only [if_neg (show ¬ (5 : Int32) = 0 by decide), if_neg (show ¬ (5 : Int32) = 1 by decide), if_neg (show ¬ (5 : Int32) = 2 by decide), if_neg (show ¬ (5 : Int32) = 3 by decide), if_neg (show ¬ (5 : Int32) = 4 by decide), eq_self, if_true, h]
theorem r1 : ∀ r, r < 8 → ((nI r &&& 1) = 0 ↔ ¬ (nI r / 1 - nI r / 1 / 2 * 2) = 1) := by decide +kernel
theorem r2 : ∀ r, r < 8 → ((nI r &&& 2) = 0 ↔ ¬ (nI r / 2 - nI r / 2 / 2 * 2) = 1) := by decide +kernel
theorem r4 : ∀ r, r < 8 → ((nI r &&& 4) = 0 ↔ ¬ (nI r / 4 - nI r / 4 / 2 * 2) = 1) := by decide +kernel
theorem right_eq {rg : Nat → Int32} (hG : RgOK rg) (a m : Int32) (hm : ∀ r, r < 8 → ((nI r &&& m) = 0 ↔ ¬ (nI r / m - nI r / m / 2 * 2) = 1)) : (F_hasRight rg a m = 0) ↔ (F_m_may rg a m = 0) := by
  unfold F_hasRight F_m_may
  by_cases h1 : a < 0
  · rw [if_pos (outpages (Or.inl h1)), if_pos h1]
  · rw [if_neg h1]
    by_cases h2 : (16384 : Int32) ≤ a
    · rw [if_pos (outpages (Or.inr h2)), if_pos h2]
    · rw [if_neg h2]
      obtain ⟨n, hn, rfl⟩ := nI_of h1
      have hn2 : n < 16384 := by
        rcases Nat.lt_or_ge n 16384 with q | q
        · exact q
        · exact absurd (show nI 16384 ≤ nI n from nI_le q hn) h2
      obtain ⟨r, hr, er⟩ := hG (n / 4096) (by omega)
      have e1 : nI n / 4096 = nI (n / 4096) := pk_div hn (by decide) (by decide)
      have e3 : ((nI n).toUInt32 >>> ((12 : Int32).toUInt32 &&& Int32.toUInt32 31)).toInt32 = nI (n / 4096) := pk_ushrN (by omega) 12 12 (by decide)
      rw [if_neg (inpages hn2), e1, e3, nI_clamp (by omega), er]
      have h := hm r hr
      by_cases c : (nI r &&& m) = 0
      · rw [if_pos c, if_neg (h.mp c)]
      · have c2 : (nI r / m - nI r / m / 2 * 2) = 1 := Classical.byContradiction fun z => c (h.mpr z)
        rw [if_neg c, if_pos c2]
theorem by_bits (me : Nat → Int32) {n : Nat} (hn : n + 4 < 2 ^ 31) : ∀ k, k ≤ 4 → ∀ i, i < 32 → bt (L_bytes me (nI n) k) i = (decide (i < 8 * k) && bt (me (n + i / 8)) (i % 8)) := by
  intro k
  induction k with
  | zero =>
    intro _ i hi
    show bt 0 i = _
    rw [b_0, decide_eq_false (by omega), Bool.false_and]
  | succ k ih =>
    intro hk i hi
    show bt (B_bytes me (nI n) k (L_bytes me (nI n) k)) i = _
    unfold B_bytes
    have e8 : (8 : Int32) * nI k = nI (8 * k) := pk_mul 8 k
    rw [e8, nI_add, nI_clamp (by omega), b_or, ih (by omega) i hi, b_shl _ (by omega) _ hi, b_and, b_255]
    by_cases c : i < 8 * k
    · rw [decide_eq_true c, decide_eq_false (show ¬ 8 * k ≤ i by omega), decide_eq_true (show i < 8 * (k + 1) by omega), Bool.false_and, Bool.or_false]
    · rw [decide_eq_false c, decide_eq_true (show 8 * k ≤ i by omega), Bool.false_and, Bool.false_or, Bool.true_and]
      by_cases d : i < 8 * (k + 1)
      · rw [decide_eq_true d, decide_eq_true (show i - 8 * k < 8 by omega), Bool.and_true, Bool.true_and, show i / 8 = k by omega, show i % 8 = i - 8 * k by omega]
      · rw [decide_eq_false d, decide_eq_false (show ¬ i - 8 * k < 8 by omega), Bool.and_false, Bool.false_and]
theorem my_bits {wd me : Nat → Int32} (h : RelM wd me) {n s : Nat} (hn : n < 16384) (hs : s = 1 ∧ n % 1 = 0 ∨ s = 2 ∧ n % 2 = 0 ∨ s = 4 ∧ n % 4 = 0) {i : Nat} (hi : i < 32) : bt (L_bytes me (nI n) s) i = (decide (i < 8 * s) && bt (F_bytesFrom wd (nI n)) i) := by
  rw [by_bits me (by omega) s (by omega) i hi, bf_at hn, b_ushr _ (by omega)]
  by_cases c : i < 8 * s
  · rw [decide_eq_true c, Bool.true_and, Bool.true_and, ← h (n + i / 8) (by omega) (i % 8) (by omega), show (n + i / 8) / 4 = n / 4 by omega, show 8 * ((n + i / 8) % 4) + i % 8 = 8 * (n % 4) + i by omega]
  · rw [decide_eq_false c, Bool.false_and, Bool.false_and]
