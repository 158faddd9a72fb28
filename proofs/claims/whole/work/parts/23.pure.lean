/-- the words and the bytes hold one memory -/
def RelM (wd me : Nat → Int32) : Prop := ∀ a, a < 16384 → ∀ i, i < 8 → bt (wd (a / 4)) (8 * (a % 4) + i) = bt (me a) i
theorem le31 {a : Int32} : a ≤ 31 ↔ ¬ (32 : Int32) ≤ a := by
  rw [Int32.le_iff_toInt_le, Int32.le_iff_toInt_le]
  have e0 : (31 : Int32).toInt = 31 := rfl
  have e1 : (32 : Int32).toInt = 32 := rfl
  rw [e0, e1]; omega
theorem lt34 {a : Int32} : (3 : Int32) < a ↔ (4 : Int32) ≤ a := by
  rw [Int32.le_iff_toInt_le, Int32.lt_iff_toInt_lt]
  have e0 : (3 : Int32).toInt = 3 := rfl
  have e1 : (4 : Int32).toInt = 4 := rfl
  rw [e0, e1]; omega
theorem q_protect (rg : Nat → Int32) (a r : Int32) : (F_protect rg a r).1 = (F_m_protect rg a r).1 ∧ (F_protect rg a r).2 = (F_m_protect rg a r).2.2 := by
  unfold F_protect F_m_protect
  by_cases h1 : a < 0
  · rw [if_pos h1, if_pos h1]; exact ⟨rfl, rfl⟩
  · rw [if_neg h1, if_neg h1]
    by_cases h2 : (4 : Int32) ≤ a
    · rw [if_pos h2, if_pos (lt34.mpr h2)]; exact ⟨rfl, rfl⟩
    · rw [if_neg h2, if_neg (fun q => h2 (lt34.mp q))]
      by_cases h3 : r < 0
      · rw [if_pos h3, if_pos h3]; exact ⟨rfl, rfl⟩
      · rw [if_neg h3, if_neg h3]
        by_cases h4 : r ≤ 7
        · rw [if_pos h4, if_pos h4]; exact ⟨rfl, rfl⟩
        · rw [if_neg h4, if_neg h4]; exact ⟨rfl, rfl⟩
theorem isreg0 {a : Int32} (h : a < 0 ∨ (32 : Int32) ≤ a) : F_isRegister a = 0 := by
  unfold F_isRegister
  by_cases h1 : a < 0
  · rw [if_pos h1]
  · rw [if_neg h1, if_pos (h.resolve_left h1)]
theorem isreg1 {a : Int32} (h1 : ¬ a < 0) (h2 : ¬ (32 : Int32) ≤ a) : ¬ F_isRegister a = 0 := by
  unfold F_isRegister
  rw [if_neg h1, if_neg h2]
  decide
theorem upd_same {f : Nat → Int32} {k : Nat} {x : Int32} (h : f k = x) : upd f k x = f := by
  funext j
  by_cases e : j = k
  · rw [e, pk_us, h]
  · rw [pk_un e]
theorem nonpos {a : Int32} (h : ¬ a < 0) (h2 : ¬ a = 0) : ¬ a ≤ 0 := by
  intro q
  rw [Int32.lt_iff_toInt_lt] at h
  rw [Int32.le_iff_toInt_le] at q
  exact h2 (Int32.toInt_inj.mp (by
    have e0 : (0 : Int32).toInt = 0 := rfl
    rw [e0] at h q ⊢
    omega))
theorem q_set {rs : Nat → Int32} (h : rs 0 = 0) (k v : Int32) : (F_set rs k v).1 = (F_m_set rs k v).1 ∧ (F_set rs k v).2 = (F_m_set rs k v).2.2 ∧ (F_set rs k v).2 0 = 0 := by
  unfold F_set F_m_set
  by_cases h1 : k < 0
  · rw [if_pos (isreg0 (Or.inl h1)), if_pos h1]; exact ⟨rfl, rfl, h⟩
  · rw [if_neg h1]
    by_cases h2 : (32 : Int32) ≤ k
    · rw [if_pos (isreg0 (Or.inr h2)), if_neg (fun q => le31.mp q h2)]; exact ⟨rfl, rfl, h⟩
    · rw [if_neg (isreg1 h1 h2), if_pos (le31.mpr h2)]
      by_cases h3 : k = 0
      · subst h3
        rw [if_pos rfl]
        unfold F_putRegister
        rw [if_pos (by decide)]
        exact ⟨rfl, (upd_same (k := 0) h).symm, h⟩
      · rw [if_neg h3]
        unfold F_putRegister
        rw [if_neg (nonpos h1 h3), if_neg h2]
        refine ⟨rfl, rfl, ?_⟩
        show upd rs k.toNatClampNeg v 0 = 0
        obtain ⟨j, hj, rfl⟩ := nI_of h1
        rw [nI_clamp hj, pk_un (fun q => h3 (by rw [← q]; rfl))]
        exact h
theorem q_register (rs : Nat → Int32) (k : Int32) : F_register rs k = (F_m_register rs k).1 := by
  unfold F_register F_m_register
  by_cases h1 : k < 0
  · rw [if_pos (isreg0 (Or.inl h1)), if_pos h1]
  · rw [if_neg h1]
    by_cases h2 : (32 : Int32) ≤ k
    · rw [if_pos (isreg0 (Or.inr h2)), if_pos h2]
    · rw [if_neg (isreg1 h1 h2), if_neg h2]
theorem rel_put {wd me : Nat → Int32} (h : RelM wd me) {t : Nat} {x y : Int32} (hxy : ∀ i, i < 8 → bt x i = bt y i) : RelM (upd wd (t / 4) ((wd (t / 4) &&& ((255 <<< (nI (8 * (t % 4)) &&& 31)) ^^^ (-1))) ||| ((x &&& 255) <<< (nI (8 * (t % 4)) &&& 31)))) (upd me t y) := by
  intro a ha i hi
  have hp : 8 * (a % 4) + i < 32 := by omega
  have hs : 8 * (t % 4) < 32 := by omega
  by_cases e : a / 4 = t / 4
  · rw [e, pk_us, b_or, b_and, b_xor, b_shl _ hs _ hp, b_shl _ hs _ hp, b_m1 _ hp, b_and, b_255]
    by_cases e2 : a % 4 = t % 4
    · have e3 : a = t := by omega
      subst e3
      have q1 : 8 * (a % 4) + i - 8 * (a % 4) = i := by omega
      have q2 : 8 * (a % 4) ≤ 8 * (a % 4) + i := by omega
      rw [pk_us, q1, decide_eq_true hi, decide_eq_true q2, ← hxy i hi]
      simp
    · have e3 : a ≠ t := fun q => e2 (by rw [q])
      rw [pk_un e3, ← h a ha i hi, e]
      rcases Nat.lt_or_ge (a % 4) (t % 4) with q | q
      · have q1 : ¬ 8 * (t % 4) ≤ 8 * (a % 4) + i := by omega
        rw [decide_eq_false q1]
        simp
      · have q1 : ¬ 8 * (a % 4) + i - 8 * (t % 4) < 8 := by omega
        rw [decide_eq_false q1]
        simp
  · have e3 : a ≠ t := fun q => e (by rw [q])
    rw [pk_un e, pk_un e3]
    exact h a ha i hi
theorem bt_nar (z : Int32) {i : Nat} (hi : i < 8) : bt z.toInt8.toInt32 i = bt z i := by
  show (z.toInt8.toInt32).toBitVec.getLsbD i = z.toBitVec.getLsbD i
  rw [Int8.toBitVec_toInt32, Int32.toBitVec_toInt8, BitVec.getLsbD_signExtend, if_pos hi, BitVec.getLsbD_signExtend, if_pos (by omega)]
  simp [hi, show i < 32 by omega]
theorem bt_l2i (z : Int64) {i : Nat} (hi : i < 32) : bt z.toInt32 i = z.toBitVec.getLsbD i := by
  show (z.toInt32).toBitVec.getLsbD i = _
  rw [Int64.toBitVec_toInt32, BitVec.getLsbD_signExtend, if_pos (by omega)]
  simp [hi]
theorem amt_l : ∀ k, k < 64 → (((nI k).toInt64 &&& 63).toBitVec.smod 64).toNat = k := by decide +kernel
theorem amt_u : ∀ k, k < 64 → (((nI k).toInt64.toUInt64 &&& Int64.toUInt64 63).toBitVec % 64).toNat = k := by decide +kernel
theorem lb_ushr (k : Nat) (hk : k < 64) (x : Int64) (i : Nat) : (x.toUInt64 >>> ((nI k).toInt64.toUInt64 &&& Int64.toUInt64 63)).toInt64.toBitVec.getLsbD i = x.toBitVec.getLsbD (k + i) := by
  show (x.toUInt64 >>> ((nI k).toInt64.toUInt64 &&& Int64.toUInt64 63)).toBitVec.getLsbD i = x.toUInt64.toBitVec.getLsbD (k + i)
  rw [UInt64.toBitVec_shiftRight]
  show (x.toUInt64.toBitVec >>> (((nI k).toInt64.toUInt64 &&& Int64.toUInt64 63).toBitVec % 64).toNat).getLsbD i = _
  rw [amt_u k hk, BitVec.getLsbD_ushiftRight]
theorem lb_sshr (k : Nat) (hk : k < 64) (x : Int64) {i : Nat} (hi : k + i < 64) : (x >>> ((nI k).toInt64 &&& 63)).toBitVec.getLsbD i = x.toBitVec.getLsbD (k + i) := by
  rw [Int64.toBitVec_shiftRight]
  show (x.toBitVec.sshiftRight (((nI k).toInt64 &&& 63).toBitVec.smod 64).toNat).getLsbD i = _
  rw [amt_l k hk, BitVec.getLsbD_sshiftRight, if_pos hi]
  simp [show i < 64 by omega]
theorem poke_bits (b : Int64) {j : Nat} (hj : j < 8) : ∀ i, i < 8 → bt (((b.toUInt64 >>> ((8 * (nI j)).toInt64.toUInt64 &&& Int64.toUInt64 63)).toInt64).toInt32) i = bt (vp_nar .byte (((b >>> ((8 * (nI j)).toInt64 &&& 63)).toInt32).toInt8.toInt32)) i := by
  intro i hi
  have e : (8 : Int32) * nI j = nI (8 * j) := pk_mul 8 j
  rw [e, vp_nar_byte, bt_nar _ hi, bt_nar _ hi, bt_l2i _ (by omega), bt_l2i _ (by omega), lb_ushr _ (by omega), lb_sshr _ (by omega) _ (by omega)]
theorem put_at {a j : Nat} (h : a + j < 2 ^ 31) : (((nI a + nI j).toUInt32 >>> ((2 : Int32).toUInt32 &&& Int32.toUInt32 31)).toInt32).toNatClampNeg = (a + j) / 4 ∧ ((nI a + nI j) &&& 3) * 8 = nI (8 * ((a + j) % 4)) ∧ (nI a + nI j).toNatClampNeg = a + j := by
  rw [nI_add]
  refine ⟨?_, ?_, nI_clamp h⟩
  · rw [pk_ushrN (by omega) 2 2 (by decide)]
    exact nI_clamp (by omega)
  · rw [pk_andN (n := a + j) (by omega) 2 (by decide)]
    show nI _ * nI 8 = _
    rw [pk_mul, Nat.mul_comm]
theorem poke_rel {wd me : Nat → Int32} (h : RelM wd me) {a : Nat} (b : Int64) : ∀ n, n ≤ 8 → a + n ≤ 16384 → RelM (pbN wd (nI a) b n) (L_poke me (nI a) b n) := by
  intro n
  induction n with
  | zero => intro _ _; exact h
  | succ n ih =>
    intro h1 h2
    show RelM (pbN wd (nI a) b (n + 1)) (B_poke me (nI a) b n (L_poke me (nI a) b n))
    unfold B_poke pbN
    obtain ⟨e1, e2, e3⟩ := put_at (a := a) (j := n) (by omega)
    rw [e1, e2, e3]
    exact rel_put (ih (by omega) (by omega)) (poke_bits b (by omega))
theorem q_poke {wd me : Nat → Int32} (h : RelM wd me) (a n : Int32) (b : Int64) : (F_poke wd a n b).1 = (F_m_poke me a n b).1 ∧ RelM (F_poke wd a n b).2 (F_m_poke me a n b).2.2 := by
  unfold F_poke F_m_poke
  by_cases h1 : n < 1
  · rw [if_pos h1, if_pos h1]; exact ⟨rfl, h⟩
  · rw [if_neg h1, if_neg h1]
    by_cases h2 : n ≤ 8
    · rw [if_pos h2, if_neg (Int32.not_lt.mpr h2)]
      by_cases h3 : a < 0
      · rw [if_pos h3, if_pos h3]; exact ⟨rfl, h⟩
      · rw [if_neg h3, if_neg h3]
        by_cases h4 : a ≤ 16384 - n
        · rw [if_pos h4, if_pos h4]
          refine ⟨rfl, ?_⟩
          obtain ⟨p1, p2, p3, p4⟩ := in_poke h1 h2 h3 h4
          obtain ⟨x, hx, ex, tx⟩ := nI_of_toInt p1
          have hn : n.toNatClampNeg = n.toInt.toNat := rfl
          show RelM (F_putBytes wd a n b) (L_poke me a b n.toNatClampNeg)
          unfold F_putBytes
          rw [ex]
          exact poke_rel h b _ (by omega) (by omega)
        · rw [if_neg h4, if_neg h4]; exact ⟨rfl, h⟩
    · rw [if_neg h2, if_pos (Int32.not_le.mp h2)]; exact ⟨rfl, h⟩
theorem bf_at {wd : Nat → Int32} {a : Nat} (h : a < 16384) : F_bytesFrom wd (nI a) = ((wd (a / 4)).toUInt32 >>> ((nI (8 * (a % 4))).toUInt32 &&& Int32.toUInt32 31)).toInt32 := by
  unfold F_bytesFrom
  have e0 := put_at (a := a) (j := 0) (by omega)
  have e1 : nI a + nI 0 = nI a := by rw [nI_add]; rfl
  rw [e1] at e0
  rw [e0.1, e0.2.1]
  rfl
theorem inpages {a : Nat} (h : a < 16384) : ¬ F_isInPages (nI a) = 0 := by
  unfold F_isInPages
  have q : ¬ (16384 : Int32) ≤ nI a := (show ¬ nI 16384 ≤ nI a from nI_ge h (by decide))
  rw [if_neg (nI_pos (by omega)), if_neg q]
  decide
theorem outpages {a : Int32} (h : a < 0 ∨ (16384 : Int32) ≤ a) : F_isInPages a = 0 := by
  unfold F_isInPages
  by_cases h1 : a < 0
  · rw [if_pos h1]
  · rw [if_neg h1, if_pos (h.resolve_left h1)]
theorem q_peek {wd me : Nat → Int32} (h : RelM wd me) (a : Int32) : F_peek wd a = (F_m_peek me a).1 := by
  unfold F_peek F_m_peek
  by_cases h1 : a < 0
  · rw [if_pos (outpages (Or.inl h1)), if_pos h1]
  · rw [if_neg h1]
    by_cases h2 : (16384 : Int32) ≤ a
    · rw [if_pos (outpages (Or.inr h2)), if_pos h2]
    · rw [if_neg h2]
      obtain ⟨x, hx, rfl⟩ := nI_of h1
      have hx2 : x < 16384 := by
        rcases Nat.lt_or_ge x 16384 with q | q
        · exact q
        · exact absurd (show nI 16384 ≤ nI x from nI_le q hx) h2
      rw [if_neg (inpages hx2), bf_at hx2, nI_clamp hx]
      apply b_ext
      intro i hi
      rw [b_and, b_ushr _ (by omega), b_255]
      show _ = bt (me x &&& 255) i
      rw [b_and, b_255]
      by_cases h8 : i < 8
      · rw [h x hx2 i h8]
      · simp [h8]
/-- each page's rights are 0 .. 7 -/
def RgOK (rg : Nat → Int32) : Prop := ∀ p, p < 4 → ∃ r : Nat, r < 8 ∧ rg p = nI r
theorem rg_start : RgOK (upd (upd (upd (upd (fun _ => 0) 0 7) 1 7) 2 7) 3 7) := by
  intro p hp
  rcases (show p = 0 ∨ p = 1 ∨ p = 2 ∨ p = 3 by omega) with rfl | rfl | rfl | rfl <;> exact ⟨7, by decide, rfl⟩
theorem q_protectG {rg : Nat → Int32} (h : RgOK rg) (a r : Int32) : RgOK (F_protect rg a r).2 := by
  unfold F_protect
  by_cases h1 : a < 0
  · rw [if_pos h1]; exact h
  · rw [if_neg h1]
    by_cases h2 : (4 : Int32) ≤ a
    · rw [if_pos h2]; exact h
    · rw [if_neg h2]
      by_cases h3 : r < 0
      · rw [if_pos h3]; exact h
      · rw [if_neg h3]
        by_cases h4 : r ≤ 7
        · rw [if_pos h4]
          obtain ⟨j, hj, rfl⟩ := nI_of2 (M := 7) (n := 7) (by decide) h3 h4
          intro p hp
          show ∃ q : Nat, q < 8 ∧ upd rg a.toNatClampNeg (nI j) p = nI q
          by_cases e : p = a.toNatClampNeg
          · rw [e, pk_us]; exact ⟨j, by omega, rfl⟩
          · rw [pk_un e]; exact h p hp
        · rw [if_neg h4]; exact h
