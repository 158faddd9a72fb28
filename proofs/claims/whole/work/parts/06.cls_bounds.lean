theorem pages_of {a : Int32} (h : ¬ F_isInPages a = 0) : ∃ n : Nat, n < 16384 ∧ a = nI n := by
  unfold F_isInPages at h
  by_cases h1 : a < 0
  · rw [if_pos h1] at h; exact absurd rfl h
  · rw [if_neg h1] at h
    by_cases h2 : (16384 : Int32) ≤ a
    · rw [if_pos h2] at h; exact absurd rfl h
    · obtain ⟨j, hj, rfl⟩ := nI_of h1
      refine ⟨j, ?_, rfl⟩
      rcases Nat.lt_or_ge j 16384 with q | q
      · exact q
      · exact absurd (show nI 16384 ≤ nI j from nI_le q hj) h2
theorem in_partB (w : Int32) : vp_in (F_partB w) 32 := by
  unfold F_partB
  exact pk_andIn _ 5 (by decide) (by decide)
theorem in_word {a : Int32} (h : ¬ F_isInPages a = 0) : vp_in ((a.toUInt32 >>> ((2 : Int32).toUInt32 &&& Int32.toUInt32 31)).toInt32) 4096 := by
  obtain ⟨n, hn, rfl⟩ := pages_of h
  rw [pk_ushrN (by omega) 2 2 (by decide)]
  exact vp_in_nI (by omega) (by decide)
theorem in_right {a : Int32} (h : ¬ F_isInPages a = 0) : vp_in ((a.toUInt32 >>> ((12 : Int32).toUInt32 &&& Int32.toUInt32 31)).toInt32) 4 := by
  obtain ⟨n, hn, rfl⟩ := pages_of h
  rw [pk_ushrN (by omega) 12 12 (by decide)]
  exact vp_in_nI (by omega) (by decide)
theorem in_reg {a : Int32} (h1 : ¬ a ≤ 0) (h2 : ¬ (32 : Int32) ≤ a) : vp_in a 32 := by
  rw [vp_in_iff]
  rw [Int32.le_iff_toInt_le] at h1 h2
  have e0 : (0 : Int32).toInt = 0 := rfl
  have e1 : (32 : Int32).toInt = 32 := rfl
  rw [e0] at h1
  rw [e1] at h2
  omega
theorem un_ne {q : Int32} (h : ¬ q = 0) : ¬ F_unsigned q = 0 := by
  intro z
  unfold F_unsigned at z
  have z1 := congrArg Int64.toInt32 z
  rw [Int64.toInt32_and, Int32.toInt32_toInt64] at z1
  apply h
  have e1 : (4294967295 : Int64).toInt32 = -1 := by decide
  rw [e1, Int32.and_neg_one] at z1
  rw [z1]
  decide
theorem nI_of_toInt {x : Int32} (h : 0 ≤ x.toInt) : ∃ j : Nat, j < 2 ^ 31 ∧ x = nI j ∧ x.toInt = j := by
  obtain ⟨j, hj, rfl⟩ := nI_of (x := x) (by
    rw [Int32.lt_iff_toInt_lt]
    have e0 : (0 : Int32).toInt = 0 := rfl
    rw [e0]
    omega)
  exact ⟨j, hj, rfl, nI_toInt hj⟩
theorem pb_n {a1 a2 : Int32} (h : 0 ≤ a1.toInt ∧ 0 ≤ a2.toInt ∧ a2.toInt ≤ 8 ∧ a1.toInt + a2.toInt ≤ 16384) : ∃ n : Nat, n ≤ 8 ∧ a2 = nI n := by
  obtain ⟨j, hj, e1, e2⟩ := nI_of_toInt h.2.1
  exact ⟨j, by omega, e1⟩
theorem pb_lt {n j : Nat} (hn : n ≤ 8) (hj : j ≤ n) (h : ¬ nI n ≤ nI j) : j < n := by
  rcases Nat.lt_or_ge j n with q | q
  · exact q
  · exact absurd (nI_le q (by omega)) h
theorem pb_eq {n j : Nat} (hn : n ≤ 8) (hj : j ≤ n) (h : nI n ≤ nI j) : n = j := by
  rcases Nat.lt_or_ge j n with q | q
  · exact absurd h (nI_ge q (by omega))
  · omega
theorem in_pb {a1 : Int32} {n j : Nat} (hn : n ≤ 8) (h : 0 ≤ a1.toInt ∧ 0 ≤ (nI n).toInt ∧ (nI n).toInt ≤ 8 ∧ a1.toInt + (nI n).toInt ≤ 16384) (hlt : j < n) : vp_in (((a1 + nI j).toUInt32 >>> ((2 : Int32).toUInt32 &&& Int32.toUInt32 31)).toInt32) 4096 := by
  obtain ⟨a, ha, e1, e2⟩ := nI_of_toInt h.1
  have e3 : (nI n).toInt = (n : Int) := nI_toInt (by omega)
  have h4 := h.2.2.2
  rw [e2, e3] at h4
  rw [e1, nI_add, pk_ushrN (by omega) 2 2 (by decide)]
  exact vp_in_nI (by omega) (by decide)
theorem in_poke {a1 a2 : Int32} (h1 : ¬ a2 < 1) (h2 : a2 ≤ 8) (h3 : ¬ a1 < 0) (h4 : a1 ≤ 16384 - a2) : 0 ≤ a1.toInt ∧ 0 ≤ a2.toInt ∧ a2.toInt ≤ 8 ∧ a1.toInt + a2.toInt ≤ 16384 := by
  rw [Int32.lt_iff_toInt_lt] at h1 h3
  rw [Int32.le_iff_toInt_le] at h2 h4
  have e0 : (0 : Int32).toInt = 0 := rfl
  have e1 : (1 : Int32).toInt = 1 := rfl
  have e8 : (8 : Int32).toInt = 8 := rfl
  rw [e1] at h1
  rw [e8] at h2
  rw [e0] at h3
  obtain ⟨n, hn, en, tn⟩ := nI_of_toInt (x := a2) (by omega)
  have e5 : (16384 : Int32) - a2 = nI (16384 - n) := by rw [en]; exact pk_sub (a := 16384) (by omega)
  rw [e5, nI_toInt (by omega)] at h4
  omega
theorem in_page {a : Int32} (h1 : ¬ a < 0) (h2 : ¬ (4 : Int32) ≤ a) : vp_in a 4 := by
  rw [vp_in_iff]
  rw [Int32.lt_iff_toInt_lt] at h1
  rw [Int32.le_iff_toInt_le] at h2
  have e0 : (0 : Int32).toInt = 0 := rfl
  have e1 : (4 : Int32).toInt = 4 := rfl
  rw [e0] at h1
  rw [e1] at h2
  omega
theorem in_isreg {a : Int32} (h : ¬ F_isRegister a = 0) : vp_in a 32 := by
  unfold F_isRegister at h
  by_cases h1 : a < 0
  · rw [if_pos h1] at h; exact absurd rfl h
  · rw [if_neg h1] at h
    by_cases h2 : (32 : Int32) ≤ a
    · rw [if_pos h2] at h; exact absurd rfl h
    · rw [vp_in_iff]
      rw [Int32.lt_iff_toInt_lt] at h1
      rw [Int32.le_iff_toInt_le] at h2
      have e0 : (0 : Int32).toInt = 0 := rfl
      have e1 : (32 : Int32).toInt = 32 := rfl
      rw [e0] at h1
      rw [e1] at h2
      omega
def F_divide  (a1 : Int32) (a2 : Int32) (a3 : Int32) : Int32 :=
  if a3 = 0 then
    if (6 : Int32) ≤ a1 then
      a2
    else
      (-1)
  else
    if a1 = 4 then
      a2 / a3
    else
      if a1 = 5 then
        ((F_unsigned a2) / (F_unsigned a3)).toInt32
      else
        if a1 = 6 then
          a2 - a2 / a3 * a3
        else
          ((F_unsigned a2) - (F_unsigned a2) / (F_unsigned a3) * (F_unsigned a3)).toInt32
set_option maxHeartbeats 4000000 in
set_option maxRecDepth 100000 in
theorem c_divide (l : Launch) (a1 : Int32) (a2 : Int32) (a3 : Int32) : Met l yX0_divide wsX0_divide ({ frames := 1, cells := 0, slots := 0, locals := 20 }) (fun v _ => v = ([.int a1, .int a2, .int a3] : List Value).toArray) (vp_Si (fun r : Int32 => r = F_divide a1 a2 a3)) 0 0 (fun _ => False) := by
  refine Met.ofW (cc := cX0_divide) (maxL := 3) (ret := (some .int)) (by decide) rfl ?_
  intro p e s m args below meth c s₁ B hml hv
  obtain rfl := hv
  have hx := B.exec
  have hb := B.bytes
  have hr := B.returns
  have hts := atoms_spec (ws := wsX0_divide) B.pre
  have hown : s.vm.findClass RX0 = some m.cls := findClass_of_methodNamed B.named
  have hlocks := B.notSynchronized
  have hl := lv_entry ([.int a1, .int a2, .int a3]) (n := 3) (Nat.le_of_ble_eq_true rfl)
  rw [lg_entry_eq]
  generalize (lg_sl ([.int a1, .int a2, .int a3]) ++ List.replicate (3 - (lg_sl ([.int a1, .int a2, .int a3])).length) Slot.unset).toArray = ls at hl ⊢
  have hl : lv_has ls 3 [(0, .int a1), (1, .int a2), (2, .int a3)] := hl
  refine lv_iload_n hx hb dX0_divide_0 rfl (lv_at hl 2 rfl) ?_
  refine lv_if_ne (tgt := 16) hx hb dX0_divide_1 (by decide) (fun c_1 => ?_) (fun c_1 => ?_)
  · refine lv_iload_n hx hb dX0_divide_16 rfl (lv_at hl 0 rfl) ?_
    by_cases c_2 : a1 = 4
    · refine lv_tableIn (tgt := 44) (off := 27) hx hb dX0_divide_17 (by rw [c_2]; decide) (by rw [c_2]; decide) (by rw [c_2] <;> rfl) (by decide) ?_
      refine lv_iload_n hx hb dX0_divide_44 rfl (lv_at hl 1 rfl) ?_
      refine lv_iload_n hx hb dX0_divide_45 rfl (lv_at hl 2 rfl) ?_
      refine lv_idiv hx hb dX0_divide_46 c_1 ?_
      exact W.iret (v := a2 / a3) hx hb hr (fun t ht hW => ⟨_, rfl, (by unfold F_divide; rw [if_neg c_1, if_pos c_2]), ht⟩) (fun _ h => by cases h) dX0_divide_47
    · by_cases c_3 : a1 = 5
      · refine lv_tableIn (tgt := 48) (off := 31) hx hb dX0_divide_17 (by rw [c_3]; decide) (by rw [c_3]; decide) (by rw [c_3] <;> rfl) (by decide) ?_
        refine lv_iload_n hx hb dX0_divide_48 rfl (lv_at hl 1 rfl) ?_
        refine vp_callSl (W.runS (As := [.int a2]) (rest := []) ⟨hx, hb, hml, hown, hts⟩ (c_unsigned l a2) (cwS 1 hts (gS mL_X0_159 mS_X0_unsigned mN_X0 mC_X0_unsigned) rfl rfl rfl (by decide +kernel) ⟨Nat.le_of_ble_eq_true rfl, Nat.le_of_ble_eq_true rfl⟩) preEq rfl rfl hl.1 rfl (lv_room (Nat.le_of_ble_eq_true rfl)) dX0_divide_49 ⟨Nat.zero_le _, Nat.zero_le _⟩) (fun r_4 hw => ?_)
        subst hw
        refine lv_iload_n hx hb dX0_divide_52 rfl (lv_at hl 2 rfl) ?_
        refine vp_callSl (W.runS (As := [.int a3]) (rest := [.long (F_unsigned a2)]) ⟨hx, hb, hml, hown, hts⟩ (c_unsigned l a3) (cwS 1 hts (gS mL_X0_159 mS_X0_unsigned mN_X0 mC_X0_unsigned) rfl rfl rfl (by decide +kernel) ⟨Nat.le_of_ble_eq_true rfl, Nat.le_of_ble_eq_true rfl⟩) preEq rfl rfl hl.1 rfl (lv_room (Nat.le_of_ble_eq_true rfl)) dX0_divide_53 ⟨Nat.zero_le _, Nat.zero_le _⟩) (fun r_5 hw => ?_)
        subst hw
        refine lv_ldiv hx hb dX0_divide_56 (un_ne c_1) ?_
        refine lv_l2i (v := ((F_unsigned a2) / (F_unsigned a3)).toInt32) hx hb dX0_divide_57 rfl ?_
        exact W.iret (v := ((F_unsigned a2) / (F_unsigned a3)).toInt32) hx hb hr (fun t ht hW => ⟨_, rfl, (by unfold F_divide; rw [if_neg c_1, if_neg c_2, if_pos c_3]), ht⟩) (fun _ h => by cases h) dX0_divide_58
      · by_cases c_6 : a1 = 6
        · refine lv_tableIn (tgt := 59) (off := 42) hx hb dX0_divide_17 (by rw [c_6]; decide) (by rw [c_6]; decide) (by rw [c_6] <;> rfl) (by decide) ?_
          refine lv_iload_n hx hb dX0_divide_59 rfl (lv_at hl 1 rfl) ?_
          refine lv_iload_n hx hb dX0_divide_60 rfl (lv_at hl 2 rfl) ?_
          refine lv_irem hx hb dX0_divide_61 c_1 ?_
          exact W.iret (v := a2 - a2 / a3 * a3) hx hb hr (fun t ht hW => ⟨_, rfl, (by unfold F_divide; rw [if_neg c_1, if_neg c_2, if_neg c_3, if_pos c_6]), ht⟩) (fun _ h => by cases h) dX0_divide_62
        · have tc_2 := lv_neT (a := 4) c_2 (by decide)
          have tc_3 := lv_neT (a := 5) c_3 (by decide)
          have tc_6 := lv_neT (a := 6) c_6 (by decide)
          refine lv_tableOut (tgt := 63) hx hb dX0_divide_17 (by omega) (by decide) ?_
          refine lv_iload_n hx hb dX0_divide_63 rfl (lv_at hl 1 rfl) ?_
          refine vp_callSl (W.runS (As := [.int a2]) (rest := []) ⟨hx, hb, hml, hown, hts⟩ (c_unsigned l a2) (cwS 1 hts (gS mL_X0_159 mS_X0_unsigned mN_X0 mC_X0_unsigned) rfl rfl rfl (by decide +kernel) ⟨Nat.le_of_ble_eq_true rfl, Nat.le_of_ble_eq_true rfl⟩) preEq rfl rfl hl.1 rfl (lv_room (Nat.le_of_ble_eq_true rfl)) dX0_divide_64 ⟨Nat.zero_le _, Nat.zero_le _⟩) (fun r_7 hw => ?_)
          subst hw
          refine lv_iload_n hx hb dX0_divide_67 rfl (lv_at hl 2 rfl) ?_
          refine vp_callSl (W.runS (As := [.int a3]) (rest := [.long (F_unsigned a2)]) ⟨hx, hb, hml, hown, hts⟩ (c_unsigned l a3) (cwS 1 hts (gS mL_X0_159 mS_X0_unsigned mN_X0 mC_X0_unsigned) rfl rfl rfl (by decide +kernel) ⟨Nat.le_of_ble_eq_true rfl, Nat.le_of_ble_eq_true rfl⟩) preEq rfl rfl hl.1 rfl (lv_room (Nat.le_of_ble_eq_true rfl)) dX0_divide_68 ⟨Nat.zero_le _, Nat.zero_le _⟩) (fun r_8 hw => ?_)
          subst hw
          refine lv_lrem hx hb dX0_divide_71 (un_ne c_1) ?_
          refine lv_l2i (v := ((F_unsigned a2) - (F_unsigned a2) / (F_unsigned a3) * (F_unsigned a3)).toInt32) hx hb dX0_divide_72 rfl ?_
          exact W.iret (v := ((F_unsigned a2) - (F_unsigned a2) / (F_unsigned a3) * (F_unsigned a3)).toInt32) hx hb hr (fun t ht hW => ⟨_, rfl, (by unfold F_divide; rw [if_neg c_1, if_neg c_2, if_neg c_3, if_neg c_6]), ht⟩) (fun _ h => by cases h) dX0_divide_73
  · refine lv_iload_n hx hb dX0_divide_4 rfl (lv_at hl 0 rfl) ?_
    refine lv_bipush (v := 6) hx hb dX0_divide_5 (by decide) ?_
    refine lv_icmp_ge (tgt := 14) hx hb dX0_divide_7 (by decide) (fun c_9 => ?_) (fun c_9 => ?_)
    · refine lv_iload_n hx hb dX0_divide_14 rfl (lv_at hl 1 rfl) ?_
      exact W.iret (v := a2) hx hb hr (fun t ht hW => ⟨_, rfl, (by unfold F_divide; rw [if_pos c_1, if_pos c_9]), ht⟩) (fun _ h => by cases h) dX0_divide_15
    · refine lv_iconst (v := (-1)) hx hb dX0_divide_10 (by decide) ?_
      refine lv_goto (tgt := 15) hx hb dX0_divide_11 (by decide) ?_
      exact W.iret (v := (-1)) hx hb hr (fun t ht hW => ⟨_, rfl, (by unfold F_divide; rw [if_pos c_1, if_neg c_9]), ht⟩) (fun _ h => by cases h) dX0_divide_15

def F_multiplyOrDivide  (a1 : Int32) (a2 : Int32) (a3 : Int32) : Int32 :=
  if a1 = 0 then
    a2 * a3
  else
    if a1 = 1 then
      F_upperHalf (a2.toInt64 * a3.toInt64)
    else
      if a1 = 2 then
        F_upperHalf (a2.toInt64 * (F_unsigned a3))
      else
        if a1 = 3 then
          F_upperHalf ((F_unsigned a2) * (F_unsigned a3))
        else
          F_divide a1 a2 a3
set_option maxHeartbeats 4000000 in
set_option maxRecDepth 100000 in
theorem c_multiplyOrDivide (l : Launch) (a1 : Int32) (a2 : Int32) (a3 : Int32) : Met l yX0_multiplyOrDivide wsX0_multiplyOrDivide ({ frames := 2, cells := 0, slots := 0, locals := 42 }) (fun v _ => v = ([.int a1, .int a2, .int a3] : List Value).toArray) (vp_Si (fun r : Int32 => r = F_multiplyOrDivide a1 a2 a3)) 0 0 (fun _ => False) := by
  refine Met.ofW (cc := cX0_multiplyOrDivide) (maxL := 3) (ret := (some .int)) (by decide) rfl ?_
  intro p e s m args below meth c s₁ B hml hv
  obtain rfl := hv
  have hx := B.exec
  have hb := B.bytes
  have hr := B.returns
  have hts := atoms_spec (ws := wsX0_multiplyOrDivide) B.pre
  have hown : s.vm.findClass RX0 = some m.cls := findClass_of_methodNamed B.named
  have hlocks := B.notSynchronized
  have hl := lv_entry ([.int a1, .int a2, .int a3]) (n := 3) (Nat.le_of_ble_eq_true rfl)
  rw [lg_entry_eq]
  generalize (lg_sl ([.int a1, .int a2, .int a3]) ++ List.replicate (3 - (lg_sl ([.int a1, .int a2, .int a3])).length) Slot.unset).toArray = ls at hl ⊢
  have hl : lv_has ls 3 [(0, .int a1), (1, .int a2), (2, .int a3)] := hl
  refine lv_iload_n hx hb dX0_multiplyOrDivide_0 rfl (lv_at hl 0 rfl) ?_
  by_cases c_1 : a1 = 0
  · refine lv_tableIn (tgt := 32) (off := 31) hx hb dX0_multiplyOrDivide_1 (by rw [c_1]; decide) (by rw [c_1]; decide) (by rw [c_1] <;> rfl) (by decide) ?_
    refine lv_iload_n hx hb dX0_multiplyOrDivide_32 rfl (lv_at hl 1 rfl) ?_
    refine lv_iload_n hx hb dX0_multiplyOrDivide_33 rfl (lv_at hl 2 rfl) ?_
    refine lv_imul hx hb dX0_multiplyOrDivide_34 ?_
    exact W.iret (v := a2 * a3) hx hb hr (fun t ht hW => ⟨_, rfl, (by unfold F_multiplyOrDivide; rw [if_pos c_1]), ht⟩) (fun _ h => by cases h) dX0_multiplyOrDivide_35
  · by_cases c_2 : a1 = 1
    · refine lv_tableIn (tgt := 36) (off := 35) hx hb dX0_multiplyOrDivide_1 (by rw [c_2]; decide) (by rw [c_2]; decide) (by rw [c_2] <;> rfl) (by decide) ?_
      refine lv_iload_n hx hb dX0_multiplyOrDivide_36 rfl (lv_at hl 1 rfl) ?_
      refine lv_i2l (v := a2.toInt64) hx hb dX0_multiplyOrDivide_37 rfl ?_
      refine lv_iload_n hx hb dX0_multiplyOrDivide_38 rfl (lv_at hl 2 rfl) ?_
      refine lv_i2l (v := a3.toInt64) hx hb dX0_multiplyOrDivide_39 rfl ?_
      refine lv_lmul hx hb dX0_multiplyOrDivide_40 ?_
      refine vp_callSi (W.runS (As := [.long (a2.toInt64 * a3.toInt64)]) (rest := []) ⟨hx, hb, hml, hown, hts⟩ (c_upperHalf l (a2.toInt64 * a3.toInt64)) (cwS 1 hts (gS mL_X0_164 mS_X0_upperHalf mN_X0 mC_X0_upperHalf) rfl rfl rfl (by decide +kernel) ⟨Nat.le_of_ble_eq_true rfl, Nat.le_of_ble_eq_true rfl⟩) preEq rfl rfl hl.1 rfl (lv_room (Nat.le_of_ble_eq_true rfl)) dX0_multiplyOrDivide_41 ⟨Nat.zero_le _, Nat.zero_le _⟩) (fun r_3 hw => ?_)
      subst hw
      exact W.iret (v := F_upperHalf (a2.toInt64 * a3.toInt64)) hx hb hr (fun t ht hW => ⟨_, rfl, (by unfold F_multiplyOrDivide; rw [if_neg c_1, if_pos c_2]), ht⟩) (fun _ h => by cases h) dX0_multiplyOrDivide_44
    · by_cases c_4 : a1 = 2
      · refine lv_tableIn (tgt := 45) (off := 44) hx hb dX0_multiplyOrDivide_1 (by rw [c_4]; decide) (by rw [c_4]; decide) (by rw [c_4] <;> rfl) (by decide) ?_
        refine lv_iload_n hx hb dX0_multiplyOrDivide_45 rfl (lv_at hl 1 rfl) ?_
        refine lv_i2l (v := a2.toInt64) hx hb dX0_multiplyOrDivide_46 rfl ?_
        refine lv_iload_n hx hb dX0_multiplyOrDivide_47 rfl (lv_at hl 2 rfl) ?_
        refine vp_callSl (W.runS (As := [.int a3]) (rest := [.long a2.toInt64]) ⟨hx, hb, hml, hown, hts⟩ (c_unsigned l a3) (cwS 1 hts (gS mL_X0_159 mS_X0_unsigned mN_X0 mC_X0_unsigned) rfl rfl rfl (by decide +kernel) ⟨Nat.le_of_ble_eq_true rfl, Nat.le_of_ble_eq_true rfl⟩) preEq rfl rfl hl.1 rfl (lv_room (Nat.le_of_ble_eq_true rfl)) dX0_multiplyOrDivide_48 ⟨Nat.zero_le _, Nat.zero_le _⟩) (fun r_5 hw => ?_)
        subst hw
        refine lv_lmul hx hb dX0_multiplyOrDivide_51 ?_
        refine vp_callSi (W.runS (As := [.long (a2.toInt64 * (F_unsigned a3))]) (rest := []) ⟨hx, hb, hml, hown, hts⟩ (c_upperHalf l (a2.toInt64 * (F_unsigned a3))) (cwS 1 hts (gS mL_X0_164 mS_X0_upperHalf mN_X0 mC_X0_upperHalf) rfl rfl rfl (by decide +kernel) ⟨Nat.le_of_ble_eq_true rfl, Nat.le_of_ble_eq_true rfl⟩) preEq rfl rfl hl.1 rfl (lv_room (Nat.le_of_ble_eq_true rfl)) dX0_multiplyOrDivide_52 ⟨Nat.zero_le _, Nat.zero_le _⟩) (fun r_6 hw => ?_)
        subst hw
        exact W.iret (v := F_upperHalf (a2.toInt64 * (F_unsigned a3))) hx hb hr (fun t ht hW => ⟨_, rfl, (by unfold F_multiplyOrDivide; rw [if_neg c_1, if_neg c_2, if_pos c_4]), ht⟩) (fun _ h => by cases h) dX0_multiplyOrDivide_55
      · by_cases c_7 : a1 = 3
        · refine lv_tableIn (tgt := 56) (off := 55) hx hb dX0_multiplyOrDivide_1 (by rw [c_7]; decide) (by rw [c_7]; decide) (by rw [c_7] <;> rfl) (by decide) ?_
          refine lv_iload_n hx hb dX0_multiplyOrDivide_56 rfl (lv_at hl 1 rfl) ?_
          refine vp_callSl (W.runS (As := [.int a2]) (rest := []) ⟨hx, hb, hml, hown, hts⟩ (c_unsigned l a2) (cwS 1 hts (gS mL_X0_159 mS_X0_unsigned mN_X0 mC_X0_unsigned) rfl rfl rfl (by decide +kernel) ⟨Nat.le_of_ble_eq_true rfl, Nat.le_of_ble_eq_true rfl⟩) preEq rfl rfl hl.1 rfl (lv_room (Nat.le_of_ble_eq_true rfl)) dX0_multiplyOrDivide_57 ⟨Nat.zero_le _, Nat.zero_le _⟩) (fun r_8 hw => ?_)
          subst hw
          refine lv_iload_n hx hb dX0_multiplyOrDivide_60 rfl (lv_at hl 2 rfl) ?_
          refine vp_callSl (W.runS (As := [.int a3]) (rest := [.long (F_unsigned a2)]) ⟨hx, hb, hml, hown, hts⟩ (c_unsigned l a3) (cwS 1 hts (gS mL_X0_159 mS_X0_unsigned mN_X0 mC_X0_unsigned) rfl rfl rfl (by decide +kernel) ⟨Nat.le_of_ble_eq_true rfl, Nat.le_of_ble_eq_true rfl⟩) preEq rfl rfl hl.1 rfl (lv_room (Nat.le_of_ble_eq_true rfl)) dX0_multiplyOrDivide_61 ⟨Nat.zero_le _, Nat.zero_le _⟩) (fun r_9 hw => ?_)
          subst hw
          refine lv_lmul hx hb dX0_multiplyOrDivide_64 ?_
          refine vp_callSi (W.runS (As := [.long ((F_unsigned a2) * (F_unsigned a3))]) (rest := []) ⟨hx, hb, hml, hown, hts⟩ (c_upperHalf l ((F_unsigned a2) * (F_unsigned a3))) (cwS 1 hts (gS mL_X0_164 mS_X0_upperHalf mN_X0 mC_X0_upperHalf) rfl rfl rfl (by decide +kernel) ⟨Nat.le_of_ble_eq_true rfl, Nat.le_of_ble_eq_true rfl⟩) preEq rfl rfl hl.1 rfl (lv_room (Nat.le_of_ble_eq_true rfl)) dX0_multiplyOrDivide_65 ⟨Nat.zero_le _, Nat.zero_le _⟩) (fun r_10 hw => ?_)
          subst hw
          exact W.iret (v := F_upperHalf ((F_unsigned a2) * (F_unsigned a3))) hx hb hr (fun t ht hW => ⟨_, rfl, (by unfold F_multiplyOrDivide; rw [if_neg c_1, if_neg c_2, if_neg c_4, if_pos c_7]), ht⟩) (fun _ h => by cases h) dX0_multiplyOrDivide_68
        · have tc_1 := lv_neT (a := 0) c_1 (by decide)
          have tc_2 := lv_neT (a := 1) c_2 (by decide)
          have tc_4 := lv_neT (a := 2) c_4 (by decide)
          have tc_7 := lv_neT (a := 3) c_7 (by decide)
          refine lv_tableOut (tgt := 69) hx hb dX0_multiplyOrDivide_1 (by omega) (by decide) ?_
          refine lv_iload_n hx hb dX0_multiplyOrDivide_69 rfl (lv_at hl 0 rfl) ?_
          refine lv_iload_n hx hb dX0_multiplyOrDivide_70 rfl (lv_at hl 1 rfl) ?_
          refine lv_iload_n hx hb dX0_multiplyOrDivide_71 rfl (lv_at hl 2 rfl) ?_
          refine vp_callSi (W.runS (As := [.int a1, .int a2, .int a3]) (rest := []) ⟨hx, hb, hml, hown, hts⟩ (c_divide l a1 a2 a3) (cwS 3 hts (gS mL_X0_168 mS_X0_divide mN_X0 mC_X0_divide) rfl rfl rfl (by decide +kernel) ⟨Nat.le_of_ble_eq_true rfl, Nat.le_of_ble_eq_true rfl⟩) preEq rfl rfl hl.1 rfl (lv_room (Nat.le_of_ble_eq_true rfl)) dX0_multiplyOrDivide_72 ⟨Nat.zero_le _, Nat.zero_le _⟩) (fun r_11 hw => ?_)
          subst hw
          exact W.iret (v := F_divide a1 a2 a3) hx hb hr (fun t ht hW => ⟨_, rfl, (by unfold F_multiplyOrDivide; rw [if_neg c_1, if_neg c_2, if_neg c_4, if_neg c_7]), ht⟩) (fun _ h => by cases h) dX0_multiplyOrDivide_75
