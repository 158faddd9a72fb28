theorem bt_n8 (z : Int32) {i : Nat} (hi : i < 32) : bt z.toInt8.toInt32 i = if i < 8 then bt z i else bt z 7 := by
  by_cases c : i < 8
  · rw [if_pos c, bt_nar z c]
  · rw [if_neg c]
    show (z.toInt8.toInt32).toBitVec.getLsbD i = z.toBitVec.getLsbD 7
    rw [Int8.toBitVec_toInt32, Int32.toBitVec_toInt8, BitVec.getLsbD_signExtend, if_neg c, BitVec.msb_eq_getLsbD_last, BitVec.getLsbD_signExtend, if_pos (by decide)]
    simp [hi]
theorem bt_n16 (z : Int32) {i : Nat} (hi : i < 32) : bt z.toInt16.toInt32 i = if i < 16 then bt z i else bt z 15 := by
  show (z.toInt16.toInt32).toBitVec.getLsbD i = if i < 16 then z.toBitVec.getLsbD i else z.toBitVec.getLsbD 15
  rw [Int16.toBitVec_toInt32, Int32.toBitVec_toInt16, BitVec.getLsbD_signExtend]
  by_cases c : i < 16
  · rw [if_pos c, if_pos c, BitVec.getLsbD_signExtend, if_pos (by omega)]
    simp [hi, c]
  · rw [if_neg c, if_neg c, BitVec.msb_eq_getLsbD_last, BitVec.getLsbD_signExtend, if_pos (by decide)]
    simp [hi]
theorem ld_w {wd me : Nat → Int32} (h : RelM wd me) {n : Nat} (hn : n < 16384) (h4 : n % 4 = 0) : F_bytesFrom wd (nI n) = F_m_bytes me (nI n) 4 := by
  apply b_ext
  intro i hi
  have e := my_bits h hn (Or.inr (Or.inr ⟨rfl, h4⟩)) hi
  rw [decide_eq_true (by omega), Bool.true_and] at e
  exact e.symm
theorem ld_bu {wd me : Nat → Int32} (h : RelM wd me) {n : Nat} (hn : n < 16384) : F_bytesFrom wd (nI n) &&& 255 = F_m_bytes me (nI n) 1 := by
  apply b_ext
  intro i hi
  have e : bt (F_m_bytes me (nI n) 1) i = _ := my_bits h hn (Or.inl ⟨rfl, Nat.mod_one n⟩) hi
  rw [e, b_and, b_255, Bool.and_comm]
theorem ld_hu {wd me : Nat → Int32} (h : RelM wd me) {n : Nat} (hn : n < 16384) (h2 : n % 2 = 0) : F_bytesFrom wd (nI n) &&& 65535 = F_m_bytes me (nI n) 2 := by
  apply b_ext
  intro i hi
  have e : bt (F_m_bytes me (nI n) 2) i = _ := my_bits h hn (Or.inr (Or.inl ⟨rfl, h2⟩)) hi
  rw [e, b_and, b_65535, Bool.and_comm]
theorem ld_b {wd me : Nat → Int32} (h : RelM wd me) {n : Nat} (hn : n < 16384) : (F_bytesFrom wd (nI n)).toInt8.toInt32 = F_m_signed (F_m_bytes me (nI n) 1) (8 * 1) := by
  have hb : ∀ i, i < 32 → bt (F_m_bytes me (nI n) 1) i = (decide (i < 8) && bt (F_bytesFrom wd (nI n)) i) := fun i hi => my_bits h hn (Or.inl ⟨rfl, Nat.mod_one n⟩) hi
  apply b_ext
  intro i hi
  have e := sgv_bits (v := F_m_bytes me (nI n) 1) (n := 8) (fun i hi q => by rw [hb i hi, decide_eq_false (by omega), Bool.false_and]) (by decide) (by decide) hi
  refine Eq.trans ?_ e.symm
  rw [bt_n8 _ hi, hb i hi, hb (8 - 1) (by decide)]
  by_cases c : i < 8
  · rw [if_pos c, if_pos c, decide_eq_true c, Bool.true_and]
  · rw [if_neg c, if_neg c]
    rfl
theorem ld_h {wd me : Nat → Int32} (h : RelM wd me) {n : Nat} (hn : n < 16384) (h2 : n % 2 = 0) : (F_bytesFrom wd (nI n)).toInt16.toInt32 = F_m_signed (F_m_bytes me (nI n) 2) (8 * 2) := by
  have hb : ∀ i, i < 32 → bt (F_m_bytes me (nI n) 2) i = (decide (i < 16) && bt (F_bytesFrom wd (nI n)) i) := fun i hi => my_bits h hn (Or.inr (Or.inl ⟨rfl, h2⟩)) hi
  apply b_ext
  intro i hi
  have e := sgv_bits (v := F_m_bytes me (nI n) 2) (n := 16) (fun i hi q => by rw [hb i hi, decide_eq_false (by omega), Bool.false_and]) (by decide) (by decide) hi
  refine Eq.trans ?_ e.symm
  rw [bt_n16 _ hi, hb i hi, hb (16 - 1) (by decide)]
  by_cases c : i < 16
  · rw [if_pos c, if_pos c, decide_eq_true c, Bool.true_and]
  · rw [if_neg c, if_neg c]
    rfl
theorem sto_bits (y : Int32) {j : Nat} (hj : j < 4) : ∀ i, i < 8 → bt (((y.toInt64.toUInt64 >>> ((8 * (nI j)).toInt64.toUInt64 &&& Int64.toUInt64 63)).toInt64).toInt32) i = bt (vp_nar .byte ((y >>> ((8 * (nI j)) &&& 31)).toInt8.toInt32)) i := by
  intro i hi
  have e : (8 : Int32) * nI j = nI (8 * j) := pk_mul 8 j
  rw [e, vp_nar_byte, bt_nar _ hi, bt_nar _ hi, bt_l2i _ (by omega), lb_ushr _ (by omega), b_sshr _ (by omega) _ (by omega), if_pos (by omega)]
  rw [Int32.toBitVec_toInt64, BitVec.getLsbD_signExtend, if_pos (by omega)]
  simp [show 8 * j + i < 64 by omega]
  rfl
theorem sto_rel {wd me : Nat → Int32} (h : RelM wd me) {a : Nat} (y : Int32) : ∀ n, n ≤ 4 → a + n ≤ 16384 → RelM (pbN wd (nI a) y.toInt64 n) (L_store me (nI a) y n) := by
  intro n
  induction n with
  | zero => intro _ _; exact h
  | succ n ih =>
    intro h1 h2
    show RelM (pbN wd (nI a) y.toInt64 (n + 1)) (B_store me (nI a) y n (L_store me (nI a) y n))
    unfold B_store pbN
    obtain ⟨e1, e2, e3⟩ := put_at (a := a) (j := n) (by omega)
    rw [e1, e2, e3]
    exact rel_put (ih (by omega) (by omega)) (sto_bits y (by omega))
abbrev stP : Type := (Nat → Int32) × (Nat → Int32) × Int32 × Int32 × Int32
/-- what a step of the class and what the model's 'perform' have to do with each other -/
def PR (trv vav pcv : Int32) (c : Int32 × stC) (m : stP) : Prop :=
  RelM c.2.1 m.1 ∧ c.2.2.1 = m.2.1 ∧ c.2.2.1 0 = 0 ∧ ((c.1 = 1 ∧ m.2.2.1 = -1 ∧ c.2.2.2.1 = m.2.2.2.2 ∧ c.2.2.2.2 = (trv, vav)) ∨ (c.1 = 0 ∧ ¬ m.2.2.1 = -1 ∧ c.2.2.2.1 = pcv ∧ c.2.2.2.2 = (m.2.2.1, m.2.2.2.1)))
theorem PR_trap {wd me rg rs : Nat → Int32} (h : RelM wd me) (h0 : rs 0 = 0) (pcv trv vav k v ne : Int32) (hk : ¬ k = -1) : PR trv vav pcv (F_trapWith wd rg rs pcv trv vav k v) (me, rs, k, v, ne) :=
  ⟨h, rfl, h0, Or.inr ⟨rfl, hk, rfl, rfl⟩⟩
theorem PR_bad {wd me rg rs : Nat → Int32} (h : RelM wd me) (h0 : rs 0 = 0) (pcv trv vav w ne : Int32) : PR trv vav pcv (F_refuse wd rg rs pcv trv vav w) (me, rs, (F_m_strange w).1, (F_m_strange w).2, ne) := PR_trap h h0 pcv trv vav 2 w ne (by decide)
theorem PR_fin {wd me rg rs : Nat → Int32} (h : RelM wd me) (h0 : rs 0 = 0) (pcv trv vav w wi : Int32) {x y : Int32} (e : x = y) : PR trv vav pcv (F_finish wd rg rs pcv trv vav w x) (me, F_m_put w rs y, -1, wi, pcv + 4) := by
  subst e
  have p := put_eq h0 w x
  exact ⟨h, p.1, (congrFun p.1 0).trans p.2, Or.inl ⟨rfl, rfl, rfl, rfl⟩⟩
theorem PR_link {wd me rg rs : Nat → Int32} (h : RelM wd me) (h0 : rs 0 = 0) (pcv trv vav w wi t : Int32) : PR trv vav pcv (F_linkAndGo wd rg rs pcv trv vav w t) (F_m_goTo me rg rs pcv w (-1) wi (pcv + 4) t 1) := by
  unfold F_linkAndGo F_m_goTo F_isCrooked
  have e : (4 : Int32) - 1 = 3 := by decide
  rw [e]
  by_cases c : t &&& 3 = 0
  · rw [if_pos c, if_pos c, if_pos (by rfl), if_neg (by decide)]
    have p := put_eq h0 w (pcv + 4)
    exact ⟨h, p.1, (congrFun p.1 0).trans p.2, Or.inl ⟨rfl, rfl, rfl, rfl⟩⟩
  · rw [if_neg c, if_neg c, if_neg (by decide)]
    exact PR_trap h h0 pcv trv vav 0 t _ (by decide)
theorem PR_go {wd me rg rs : Nat → Int32} (h : RelM wd me) (h0 : rs 0 = 0) (pcv trv vav w wi t : Int32) : PR trv vav pcv (if (F_isCrooked t 4) = 0 then (1, (wd, rs, t, trv, vav)) else F_trapWith wd rg rs pcv trv vav 0 t) (F_m_goTo me rg rs pcv w (-1) wi (pcv + 4) t 0) := by
  unfold F_m_goTo F_isCrooked
  have e : (4 : Int32) - 1 = 3 := by decide
  rw [e]
  by_cases c : t &&& 3 = 0
  · rw [if_pos c, if_pos c, if_pos (by rfl), if_pos rfl]
    exact ⟨h, rfl, h0, Or.inl ⟨rfl, rfl, rfl, rfl⟩⟩
  · rw [if_neg c, if_neg c, if_neg (by decide)]
    exact PR_trap h h0 pcv trv vav 0 t _ (by decide)
theorem al4 {p : Int32} (h : p &&& 3 = 0) : (p + 4) &&& 3 = 0 := by
  have e1 : p &&& 3 = nI (p.toBitVec.toNat % 2 ^ 2) := pk_and p 2 (by decide)
  have e2 : (p + 4) &&& 3 = nI ((p + 4).toBitVec.toNat % 2 ^ 2) := pk_and (p + 4) 2 (by decide)
  rw [e1] at h
  have h2 : p.toBitVec.toNat % 2 ^ 2 = 0 := by
    rcases Nat.eq_zero_or_pos (p.toBitVec.toNat % 2 ^ 2) with q | q
    · exact q
    · exact absurd h (nI_ne0 q (by omega))
  rw [e2]
  have h3 : (p + 4).toBitVec.toNat = (p.toBitVec.toNat + 4) % 2 ^ 32 := by
    rw [Int32.toBitVec_add, BitVec.toNat_add]
    rfl
  rw [h3]
  have h4 : (p.toBitVec.toNat + 4) % 2 ^ 32 % 2 ^ 2 = 0 := by omega
  rw [h4]
  rfl
theorem PR_stay {wd me rg rs : Nat → Int32} (h : RelM wd me) (h0 : rs 0 = 0) (pcv trv vav wi : Int32) (ha : pcv &&& 3 = 0) : PR trv vav pcv (if (F_isCrooked (pcv + 4) 4) = 0 then (1, (wd, rs, pcv + 4, trv, vav)) else F_trapWith wd rg rs pcv trv vav 0 (pcv + 4)) (me, rs, -1, wi, pcv + 4) := by
  unfold F_isCrooked
  have e : (4 : Int32) - 1 = 3 := by decide
  rw [e, if_pos (al4 ha), if_pos (by rfl)]
  exact ⟨h, rfl, h0, Or.inl ⟨rfl, rfl, rfl, rfl⟩⟩
