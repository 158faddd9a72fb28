def bt (x : Int32) (i : Nat) : Bool := x.toBitVec.getLsbD i
theorem b_ext {x y : Int32} (h : ∀ i, i < 32 → bt x i = bt y i) : x = y := Int32.toBitVec_inj.mp (BitVec.eq_of_getLsbD_eq (fun i hi => h i hi))
theorem b_or (x y : Int32) (i : Nat) : bt (x ||| y) i = (bt x i || bt y i) := by unfold bt; rw [Int32.toBitVec_or, BitVec.getLsbD_or]
theorem b_and (x y : Int32) (i : Nat) : bt (x &&& y) i = (bt x i && bt y i) := by unfold bt; rw [Int32.toBitVec_and, BitVec.getLsbD_and]
theorem b_xor (x y : Int32) (i : Nat) : bt (x ^^^ y) i = (bt x i ^^ bt y i) := by unfold bt; rw [Int32.toBitVec_xor, BitVec.getLsbD_xor]
theorem b_big {x : Int32} {i : Nat} (h : 32 ≤ i) : bt x i = false := BitVec.getLsbD_of_ge _ _ h
theorem b_255 (i : Nat) : bt 255 i = decide (i < 8) := by
  rcases Nat.lt_or_ge i 32 with h | h
  · exact (by decide +kernel : ∀ i, i < 32 → bt 255 i = decide (i < 8)) i h
  · rw [b_big h, decide_eq_false (by omega)]
theorem b_65535 (i : Nat) : bt 65535 i = decide (i < 16) := by
  rcases Nat.lt_or_ge i 32 with h | h
  · exact (by decide +kernel : ∀ i, i < 32 → bt 65535 i = decide (i < 16)) i h
  · rw [b_big h, decide_eq_false (by omega)]
theorem b_m1 : ∀ i, i < 32 → bt (-1) i = true := by decide +kernel
theorem b_0 (i : Nat) : bt 0 i = false := BitVec.getLsbD_zero
theorem s_l : ∀ n, n < 32 → ((nI n &&& 31).toBitVec.smod 32).toNat = n := by decide +kernel
theorem s_u : ∀ n, n < 32 → (((nI n).toUInt32 &&& Int32.toUInt32 31).toBitVec % 32).toNat = n := by decide +kernel
theorem b_shl (n : Nat) (hn : n < 32) (x : Int32) {i : Nat} (hi : i < 32) : bt (x <<< (nI n &&& 31)) i = (decide (n ≤ i) && bt x (i - n)) := by
  unfold bt
  rw [Int32.toBitVec_shiftLeft]
  show (x.toBitVec <<< ((nI n &&& 31).toBitVec.smod 32).toNat).getLsbD i = _
  rw [s_l n hn, BitVec.getLsbD_shiftLeft]
  rcases Nat.lt_or_ge i n with h | h
  · simp [h, Nat.not_le.mpr h]
  · simp [hi, h, Nat.not_lt.mpr h]
theorem b_ushr (n : Nat) (hn : n < 32) (x : Int32) (i : Nat) : bt ((x.toUInt32 >>> ((nI n).toUInt32 &&& Int32.toUInt32 31)).toInt32) i = bt x (n + i) := by
  show (x.toUInt32 >>> ((nI n).toUInt32 &&& Int32.toUInt32 31)).toBitVec.getLsbD i = x.toUInt32.toBitVec.getLsbD (n + i)
  rw [UInt32.toBitVec_shiftRight]
  show (x.toUInt32.toBitVec >>> (((nI n).toUInt32 &&& Int32.toUInt32 31).toBitVec % 32).toNat).getLsbD i = _
  rw [s_u n hn, BitVec.getLsbD_ushiftRight]
theorem b_sshr (n : Nat) (hn : n < 32) (x : Int32) {i : Nat} (hi : i < 32) : bt (x >>> (nI n &&& 31)) i = if n + i < 32 then bt x (n + i) else bt x 31 := by
  unfold bt
  rw [Int32.toBitVec_shiftRight]
  show (x.toBitVec.sshiftRight ((nI n &&& 31).toBitVec.smod 32).toNat).getLsbD i = _
  rw [s_l n hn, BitVec.getLsbD_sshiftRight, BitVec.msb_eq_getLsbD_last]
  simp [hi]
def B_part (wv a1 : Int32) (j : Nat) (acc : Int32) : Int32 :=
  (acc) ||| (((wv >>> ((a1 + (nI j)) &&& 31)) &&& 1) <<< ((nI j) &&& 31))
def L_part (wv a1 : Int32) : Nat → Int32
  | 0 => 0
  | j + 1 => B_part wv a1 j (L_part wv a1 j)
def F_m_part (wv : Int32) (a1 : Int32) (a2 : Int32) : Int32 :=
  (L_part wv a1 (a2.toNatClampNeg))
set_option maxHeartbeats 4000000 in
set_option maxRecDepth 100000 in
theorem c_m_part (l : Launch) (dC : Nat → ClassId) (dI : Nat → Nat → Nat) (y0 ym yr yg : Nat) (d1 d2 d3 : ClassId) (th : Int32) (me : Nat → Int32) (rg : Nat → Int32) (rs : Nat → Int32) (pcv : Int32) (trv : Int32) (vav : Int32) (dnv : Int32) (wv : Int32) (fa : Int32) (wi : Int32) (ne : Int32) (a1 : Int32) (a2 : Int32)  : Met l yX1_part wsX1_part ({ frames := 0, cells := 0, slots := 0, locals := 0 }) (va_Pc [.ref y0, .int a1, .int a2] (fun U => va_P (dC, dI) vwCl [(y0, .inr (1, [.int th, .ref ym, .ref yr, .ref yg, .int pcv, .int trv, .int vav, .int dnv, .int wv, .int fa, .int wi, .int ne])), (ym, .inl (d1, 16384, .inl me)), (yr, .inl (d2, 4, .inl rg)), (yg, .inl (d3, 32, .inl rs))] U.heap ∧ va_K (dC, dI) vwCl [(d1, .byte), (d2, .int), (d3, .int)] U)) (vp_Si (fun r : Int32 => r = F_m_part wv a1 a2)) 0 0 (fun _ => False) := by
  refine Met.ofW (cc := cX1_part) (maxL := 5) (ret := (some .int)) (by decide) rfl ?_
  intro p e s m args below meth c s₁ B hml hv
  obtain ⟨rfl, hP, hK⟩ := hv
  have hx := B.exec
  have hb := B.bytes
  have hr := B.returns
  have hts := atoms_spec (ws := wsX1_part) B.pre
  have hown : s.vm.findClass RX1 = some m.cls := findClass_of_methodNamed B.named
  have hlocks := B.notSynchronized
  have hP : va_P (dC, dI) vwCl [(y0, .inr (1, [.int th, .ref ym, .ref yr, .ref yg, .int pcv, .int trv, .int vav, .int dnv, .int wv, .int fa, .int wi, .int ne])), (ym, .inl (d1, 16384, .inl me)), (yr, .inl (d2, 4, .inl rg)), (yg, .inl (d3, 32, .inl rs))] s.heap := hP
  have hl := lv_entry ([.ref y0, .int a1, .int a2]) (n := 5) (Nat.le_of_ble_eq_true rfl)
  rw [lg_entry_eq]
  generalize (lg_sl ([.ref y0, .int a1, .int a2]) ++ List.replicate (5 - (lg_sl ([.ref y0, .int a1, .int a2])).length) Slot.unset).toArray = ls at hl ⊢
  have hl : lv_has ls 5 [(0, .ref y0), (1, .int a1), (2, .int a2)] := hl
  refine lv_iconst (v := 0) hx hb dX1_part_0 (by decide) ?_
  refine lv_istore_n (lv' := [(3, .int 0), (0, .ref y0), (1, .int a1), (2, .int a2)]) hx hb dX1_part_1 rfl hl (by decide) rfl (fun ls hl => ?_)
  refine lv_iconst (v := 0) hx hb dX1_part_2 (by decide) ?_
  refine lv_istore (lv' := [(4, .int 0), (3, .int 0), (0, .ref y0), (1, .int a1), (2, .int a2)]) hx hb dX1_part_3 hl (by decide) rfl (fun ls hl => ?_)
  have hl := lv_sub hl [0, 1, 2, 3, 4] rfl
  refine lv_loop (n := a2.toNatClampNeg) (P := fun j H locs ls => (H = s.heap ∧ locs = []) ∧ lv_has ls 5 [(4, .int (nI j)), (3, .int ((L_part wv a1 j))), (0, .ref y0), (1, .int a1), (2, .int a2)]) (Wg := fun H locs ls => W p l e _ s m _ below meth c H locs 0 0 _ (F0 m 5 ls [])) ?_ (a2.toNatClampNeg) 0 _ _ ls (by omega) (Nat.zero_le _) ⟨⟨rfl, rfl⟩, hl⟩
  rintro j H locs ls hj ⟨⟨rfl, rfl⟩, hl⟩ ih
  refine lv_iload hx hb dX1_part_5 (lv_at hl 0 rfl) ?_
  refine lv_iload_n hx hb dX1_part_7 rfl (lv_at hl 4 rfl) ?_
  refine lv_icmp_ge (tgt := 34) hx hb dX1_part_8 (by decide) (fun c_1 => ?_) (fun c_1 => ?_)
  · have hjn : j = a2.toNatClampNeg := lp_end hj c_1
    subst hjn
    refine lv_iload_n hx hb dX1_part_34 rfl (lv_at hl 1 rfl) ?_
    exact W.iret (v := (L_part wv a1 (a2.toNatClampNeg))) hx hb hr (fun t ht hW => ⟨_, rfl, (by unfold F_m_part; rfl), ht⟩) (fun _ h => by cases h) dX1_part_35
  · have hlt : j < a2.toNatClampNeg := lp_lt hj c_1
    refine lv_iload_n hx hb dX1_part_11 rfl (lv_at hl 1 rfl) ?_
    refine lv_aload_n hx hb dX1_part_12 rfl (lv_at hl 2 rfl) ?_
    refine va_get (D := (dC, dI)) (ci := 1) (v := .int wv) (C := RX1) (T := TX1) (N := 12) hx hb hts (gw_lay lay_X1) hown hK hP 0 rfl rfl 8 (by decide) (hts _ (gcons mF_X1_30)) (fun _ h9 => h9) rfl dX1_part_13 ?_
    refine lv_iload_n hx hb dX1_part_16 rfl (lv_at hl 3 rfl) ?_
    refine lv_iload hx hb dX1_part_17 (lv_at hl 0 rfl) ?_
    refine lv_iadd hx hb dX1_part_19 ?_
    refine lv_ishr hx hb dX1_part_20 ?_
    refine lv_iconst (v := 1) hx hb dX1_part_21 (by decide) ?_
    refine lv_iand hx hb dX1_part_22 ?_
    refine lv_iload hx hb dX1_part_23 (lv_at hl 0 rfl) ?_
    refine lv_ishl hx hb dX1_part_25 ?_
    refine lv_ior hx hb dX1_part_26 ?_
    refine lv_istore_n (lv' := [(3, .int (((L_part wv a1 j)) ||| (((wv >>> ((a1 + (nI j)) &&& 31)) &&& 1) <<< ((nI j) &&& 31)))), (4, .int (nI j)), (0, .ref y0), (1, .int a1), (2, .int a2)]) hx hb dX1_part_27 rfl hl (by decide) rfl (fun ls hl => ?_)
    refine lv_iinc (v := (nI j) + 1) (lv' := [(4, .int ((nI j) + 1)), (3, .int (((L_part wv a1 j)) ||| (((wv >>> ((a1 + (nI j)) &&& 31)) &&& 1) <<< ((nI j) &&& 31)))), (0, .ref y0), (1, .int a1), (2, .int a2)]) hx hb dX1_part_28 hl (k := 1) rfl rfl (by decide) rfl (fun ls hl => ?_)
    refine lv_goto (tgt := 5) hx hb dX1_part_31 (by decide) ?_
    have hl := lv_sub hl [0, 1, 2, 3, 4] rfl
    have hacc : (L_part wv a1 (j + 1)) = ((L_part wv a1 j)) ||| (((wv >>> ((a1 + (nI j)) &&& 31)) &&& 1) <<< ((nI j) &&& 31)) := by show B_part wv a1 j (L_part wv a1 j) = _; unfold B_part; rfl
    rw [nI_1] at hl
    exact ih _ _ ls hlt ⟨⟨rfl, rfl⟩, by rw [hacc]; exact hl⟩
theorem bt_nat (x : Int32) (i : Nat) : bt x i = x.toBitVec.toNat.testBit i := rfl
theorem bit_at (w : Int32) {k : Nat} (hk : k < 32) : (w >>> (nI k &&& 31)) &&& 1 = nI (w.toBitVec.toNat / 2 ^ k % 2) := by
  rw [pk_and _ (m := 1) 1 (by decide)]
  have h := b_sshr k hk w (i := 0) (by omega)
  rw [if_pos (by omega), bt_nat, bt_nat, Nat.add_zero] at h
  rw [Nat.testBit_zero, Nat.testBit_eq_decide_div_mod_eq] at h
  congr 1
  have h1 : (w >>> (nI k &&& 31)).toBitVec.toNat % 2 = 1 ↔ w.toBitVec.toNat / 2 ^ k % 2 = 1 := by simpa using h
  show (w >>> (nI k &&& 31)).toBitVec.toNat % 2 ^ 1 = _
  omega
theorem nI_or (a b : Nat) : nI a ||| nI b = nI (a ||| b) := by
  apply Int32.toBitVec_inj.mp
  rw [Int32.toBitVec_or]
  show BitVec.ofNat 32 a ||| BitVec.ofNat 32 b = BitVec.ofNat 32 (a ||| b)
  exact (BitVec.ofNat_or ..).symm
theorem nI_orD {j x b : Nat} (hx : x < 2 ^ j) : nI x ||| nI (b * 2 ^ j) = nI (x + b * 2 ^ j) := by
  rw [nI_or]
  congr 1
  rw [Nat.or_comm, Nat.mul_comm, Nat.add_comm]
  exact (Nat.two_pow_add_eq_or_of_lt hx b).symm
theorem part_val (w : Int32) (a : Nat) : ∀ n, a + n ≤ 32 → L_part w (nI a) n = nI (w.toBitVec.toNat / 2 ^ a % 2 ^ n) := by
  intro n
  induction n with
  | zero =>
    intro _
    show (0 : Int32) = nI (_ % 1)
    rw [Nat.mod_one]
    rfl
  | succ n ih =>
    intro h
    show B_part w (nI a) n (L_part w (nI a) n) = _
    unfold B_part
    rw [ih (by omega), nI_add, bit_at w (by omega), pk_shlN _ n (s_l n (by omega)) ?_, nI_orD (Nat.mod_lt _ (Nat.two_pow_pos n))]
    · congr 1
      rw [Nat.mod_pow_succ, Nat.div_div_eq_div_mul, ← Nat.pow_add, Nat.mul_comm (2 ^ n)]
    · have h1 : w.toBitVec.toNat / 2 ^ (a + n) % 2 < 2 := Nat.mod_lt _ (by decide)
      have h2 : (2 : Nat) ^ n ≤ 2 ^ 31 := Nat.pow_le_pow_right (by decide) (by omega)
      calc w.toBitVec.toNat / 2 ^ (a + n) % 2 * 2 ^ n ≤ 1 * 2 ^ n := Nat.mul_le_mul_right _ (by omega)
        _ < 2 ^ 32 := by omega
theorem part_lt (w a1 : Int32) : ∀ n, n ≤ 31 → ∃ x : Nat, x < 2 ^ n ∧ L_part w a1 n = nI x := by
  intro n
  induction n with
  | zero => intro _; exact ⟨0, by decide, rfl⟩
  | succ n ih =>
    intro h
    obtain ⟨x, hx, e⟩ := ih (by omega)
    obtain ⟨b, hb, e2⟩ := pk_andE (w >>> ((a1 + nI n) &&& 31)) (m := 1) 1 (by decide)
    refine ⟨x + b * 2 ^ n, ?_, ?_⟩
    · have : b * 2 ^ n ≤ 1 * 2 ^ n := Nat.mul_le_mul_right _ (by omega)
      rw [Nat.pow_succ]
      omega
    · show B_part w a1 n (L_part w a1 n) = _
      unfold B_part
      have h2 : (2 : Nat) ^ n ≤ 2 ^ 31 := Nat.pow_le_pow_right (by decide) (by omega)
      rw [e, e2, pk_shlN _ n (s_l n (by omega)) ?_, nI_orD hx]
      calc b * 2 ^ n ≤ 1 * 2 ^ n := Nat.mul_le_mul_right _ (by omega)
        _ < 2 ^ 32 := by omega
theorem in_part5 (w a1 : Int32) : vp_in (F_m_part w a1 5) 32 := by
  obtain ⟨x, hx, e⟩ := part_lt w a1 5 (by decide)
  have e2 : F_m_part w a1 5 = nI x := e
  rw [e2]
  exact vp_in_nI hx (by decide)
theorem in_may {a : Int32} (h1 : ¬ a < 0) (h2 : ¬ (16384 : Int32) ≤ a) : vp_in (a / 4096) 4 := by
  obtain ⟨j, hj, rfl⟩ := nI_of h1
  have hj2 : j < 16384 := by
    rcases Nat.lt_or_ge j 16384 with q | q
    · exact q
    · exact absurd (show nI 16384 ≤ nI j from nI_le q hj) h2
  have e : nI j / 4096 = nI (j / 4096) := pk_div hj (by decide) (by decide)
  rw [e]
  exact vp_in_nI (by omega) (by decide)
