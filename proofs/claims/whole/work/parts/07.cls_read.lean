def F_registerA (rs : Nat → Int32) (a1 : Int32) : Int32 :=
  rs (((a1.toUInt32 >>> ((15 : Int32).toUInt32 &&& Int32.toUInt32 31)).toInt32) &&& 31).toNatClampNeg
set_option maxHeartbeats 4000000 in
set_option maxRecDepth 100000 in
theorem c_registerA (l : Launch) (dC : Nat → ClassId) (dI : Nat → Nat → Nat) (x0 xw xr xg : Nat) (c1 c2 c3 : ClassId) (wd : Nat → Int32) (rg : Nat → Int32) (rs : Nat → Int32) (pcv : Int32) (trv : Int32) (vav : Int32) (dnv : Int32) (a1 : Int32)  : Met l yX0_registerA wsX0_registerA ({ frames := 0, cells := 0, slots := 0, locals := 0 }) (va_Pc [.ref x0, .int a1] (fun U => va_P (dC, dI) vwCl [(x0, .inr (0, [.ref xw, .ref xr, .ref xg, .int pcv, .int trv, .int vav, .int dnv])), (xw, .inl (c1, 4096, .inl wd)), (xr, .inl (c2, 4, .inl rg)), (xg, .inl (c3, 32, .inl rs))] U.heap ∧ va_K (dC, dI) vwCl [(c1, .int), (c2, .int), (c3, .int)] U)) (vp_Si (fun r : Int32 => r = F_registerA rs a1)) 0 0 (fun _ => False) := by
  refine Met.ofW (cc := cX0_registerA) (maxL := 2) (ret := (some .int)) (by decide) rfl ?_
  intro p e s m args below meth c s₁ B hml hv
  obtain ⟨rfl, hP, hK⟩ := hv
  have hx := B.exec
  have hb := B.bytes
  have hr := B.returns
  have hts := atoms_spec (ws := wsX0_registerA) B.pre
  have hown : s.vm.findClass RX0 = some m.cls := findClass_of_methodNamed B.named
  have hlocks := B.notSynchronized
  have hP : va_P (dC, dI) vwCl [(x0, .inr (0, [.ref xw, .ref xr, .ref xg, .int pcv, .int trv, .int vav, .int dnv])), (xw, .inl (c1, 4096, .inl wd)), (xr, .inl (c2, 4, .inl rg)), (xg, .inl (c3, 32, .inl rs))] s.heap := hP
  have hl := lv_entry ([.ref x0, .int a1]) (n := 2) (Nat.le_of_ble_eq_true rfl)
  rw [lg_entry_eq]
  generalize (lg_sl ([.ref x0, .int a1]) ++ List.replicate (2 - (lg_sl ([.ref x0, .int a1])).length) Slot.unset).toArray = ls at hl ⊢
  have hl : lv_has ls 2 [(0, .ref x0), (1, .int a1)] := hl
  refine lv_aload_n hx hb dX0_registerA_0 rfl (lv_at hl 0 rfl) ?_
  refine va_get (D := (dC, dI)) (ci := 0) (v := .ref xg) (C := RX0) (T := TX0) (N := 7) hx hb hts (gw_lay lay_X0) hown hK hP 0 rfl rfl 2 (by decide) (hts _ (gcons mF_X0_16)) (fun _ h9 => h9) rfl dX0_registerA_1 ?_
  refine lv_iload_n hx hb dX0_registerA_4 rfl (lv_at hl 1 rfl) ?_
  refine lv_bipush (v := 15) hx hb dX0_registerA_5 (by decide) ?_
  refine lv_iushr (v := (a1.toUInt32 >>> ((15 : Int32).toUInt32 &&& Int32.toUInt32 31)).toInt32) hx hb dX0_registerA_7 rfl ?_
  refine lv_bipush (v := 31) hx hb dX0_registerA_8 (by decide) ?_
  refine lv_iand hx hb dX0_registerA_10 ?_
  refine va_iald hx hb hK hP 3 2 rfl rfl (show vp_in _ 32 from pk_andIn _ 5 (by decide) (by decide)) dX0_registerA_11 ?_
  exact W.iret (v := rs (((a1.toUInt32 >>> ((15 : Int32).toUInt32 &&& Int32.toUInt32 31)).toInt32) &&& 31).toNatClampNeg) hx hb hr (fun t ht hW => ⟨_, rfl, (by unfold F_registerA; rfl), ht⟩) (fun _ h => by cases h) dX0_registerA_12
def F_registerB (rs : Nat → Int32) (a1 : Int32) : Int32 :=
  rs (F_partB a1).toNatClampNeg
set_option maxHeartbeats 4000000 in
set_option maxRecDepth 100000 in
theorem c_registerB (l : Launch) (dC : Nat → ClassId) (dI : Nat → Nat → Nat) (x0 xw xr xg : Nat) (c1 c2 c3 : ClassId) (wd : Nat → Int32) (rg : Nat → Int32) (rs : Nat → Int32) (pcv : Int32) (trv : Int32) (vav : Int32) (dnv : Int32) (a1 : Int32)  : Met l yX0_registerB wsX0_registerB ({ frames := 1, cells := 0, slots := 0, locals := 20 }) (va_Pc [.ref x0, .int a1] (fun U => va_P (dC, dI) vwCl [(x0, .inr (0, [.ref xw, .ref xr, .ref xg, .int pcv, .int trv, .int vav, .int dnv])), (xw, .inl (c1, 4096, .inl wd)), (xr, .inl (c2, 4, .inl rg)), (xg, .inl (c3, 32, .inl rs))] U.heap ∧ va_K (dC, dI) vwCl [(c1, .int), (c2, .int), (c3, .int)] U)) (vp_Si (fun r : Int32 => r = F_registerB rs a1)) 0 0 (fun _ => False) := by
  refine Met.ofW (cc := cX0_registerB) (maxL := 2) (ret := (some .int)) (by decide) rfl ?_
  intro p e s m args below meth c s₁ B hml hv
  obtain ⟨rfl, hP, hK⟩ := hv
  have hx := B.exec
  have hb := B.bytes
  have hr := B.returns
  have hts := atoms_spec (ws := wsX0_registerB) B.pre
  have hown : s.vm.findClass RX0 = some m.cls := findClass_of_methodNamed B.named
  have hlocks := B.notSynchronized
  have hP : va_P (dC, dI) vwCl [(x0, .inr (0, [.ref xw, .ref xr, .ref xg, .int pcv, .int trv, .int vav, .int dnv])), (xw, .inl (c1, 4096, .inl wd)), (xr, .inl (c2, 4, .inl rg)), (xg, .inl (c3, 32, .inl rs))] s.heap := hP
  have hl := lv_entry ([.ref x0, .int a1]) (n := 2) (Nat.le_of_ble_eq_true rfl)
  rw [lg_entry_eq]
  generalize (lg_sl ([.ref x0, .int a1]) ++ List.replicate (2 - (lg_sl ([.ref x0, .int a1])).length) Slot.unset).toArray = ls at hl ⊢
  have hl : lv_has ls 2 [(0, .ref x0), (1, .int a1)] := hl
  refine lv_aload_n hx hb dX0_registerB_0 rfl (lv_at hl 0 rfl) ?_
  refine va_get (D := (dC, dI)) (ci := 0) (v := .ref xg) (C := RX0) (T := TX0) (N := 7) hx hb hts (gw_lay lay_X0) hown hK hP 0 rfl rfl 2 (by decide) (hts _ (gcons mF_X0_16)) (fun _ h9 => h9) rfl dX0_registerB_1 ?_
  refine lv_iload_n hx hb dX0_registerB_4 rfl (lv_at hl 1 rfl) ?_
  refine vp_callSi (W.runS (As := [.int a1]) (rest := [.ref xg]) ⟨hx, hb, hml, hown, hts⟩ (c_partB l a1) (cwS 1 hts (gS mL_X0_143 mS_X0_partB mN_X0 mC_X0_partB) rfl rfl rfl (by decide +kernel) ⟨Nat.le_of_ble_eq_true rfl, Nat.le_of_ble_eq_true rfl⟩) preEq rfl rfl hl.1 rfl (lv_room (Nat.le_of_ble_eq_true rfl)) dX0_registerB_5 ⟨Nat.zero_le _, Nat.zero_le _⟩) (fun r_1 hw => ?_)
  subst hw
  refine va_iald hx hb hK hP 3 2 rfl rfl (in_partB _) dX0_registerB_8 ?_
  exact W.iret (v := rs (F_partB a1).toNatClampNeg) hx hb hr (fun t ht hW => ⟨_, rfl, (by unfold F_registerB; rfl), ht⟩) (fun _ h => by cases h) dX0_registerB_9
def F_hasRight (rg : Nat → Int32) (a1 : Int32) (a2 : Int32) : Int32 :=
  if (F_isInPages a1) = 0 then
    0
  else
    if ((rg ((a1.toUInt32 >>> ((12 : Int32).toUInt32 &&& Int32.toUInt32 31)).toInt32).toNatClampNeg) &&& a2) = 0 then
      0
    else
      1
set_option maxHeartbeats 4000000 in
set_option maxRecDepth 100000 in
theorem c_hasRight (l : Launch) (dC : Nat → ClassId) (dI : Nat → Nat → Nat) (x0 xw xr xg : Nat) (c1 c2 c3 : ClassId) (wd : Nat → Int32) (rg : Nat → Int32) (rs : Nat → Int32) (pcv : Int32) (trv : Int32) (vav : Int32) (dnv : Int32) (a1 : Int32) (a2 : Int32)  : Met l yX0_hasRight wsX0_hasRight ({ frames := 1, cells := 0, slots := 0, locals := 20 }) (va_Pc [.ref x0, .int a1, .int a2] (fun U => va_P (dC, dI) vwCl [(x0, .inr (0, [.ref xw, .ref xr, .ref xg, .int pcv, .int trv, .int vav, .int dnv])), (xw, .inl (c1, 4096, .inl wd)), (xr, .inl (c2, 4, .inl rg)), (xg, .inl (c3, 32, .inl rs))] U.heap ∧ va_K (dC, dI) vwCl [(c1, .int), (c2, .int), (c3, .int)] U)) (vp_Si (fun r : Int32 => narrow .boolean (.int r) = .int r ∧ r = F_hasRight rg a1 a2)) 0 0 (fun _ => False) := by
  refine Met.ofW (cc := cX0_hasRight) (maxL := 3) (ret := (some .boolean)) (by decide) rfl ?_
  intro p e s m args below meth c s₁ B hml hv
  obtain ⟨rfl, hP, hK⟩ := hv
  have hx := B.exec
  have hb := B.bytes
  have hr := B.returns
  have hts := atoms_spec (ws := wsX0_hasRight) B.pre
  have hown : s.vm.findClass RX0 = some m.cls := findClass_of_methodNamed B.named
  have hlocks := B.notSynchronized
  have hP : va_P (dC, dI) vwCl [(x0, .inr (0, [.ref xw, .ref xr, .ref xg, .int pcv, .int trv, .int vav, .int dnv])), (xw, .inl (c1, 4096, .inl wd)), (xr, .inl (c2, 4, .inl rg)), (xg, .inl (c3, 32, .inl rs))] s.heap := hP
  have hl := lv_entry ([.ref x0, .int a1, .int a2]) (n := 3) (Nat.le_of_ble_eq_true rfl)
  rw [lg_entry_eq]
  generalize (lg_sl ([.ref x0, .int a1, .int a2]) ++ List.replicate (3 - (lg_sl ([.ref x0, .int a1, .int a2])).length) Slot.unset).toArray = ls at hl ⊢
  have hl : lv_has ls 3 [(0, .ref x0), (1, .int a1), (2, .int a2)] := hl
  refine lv_iload_n hx hb dX0_hasRight_0 rfl (lv_at hl 1 rfl) ?_
  refine vp_callSi (W.runS (As := [.int a1]) (rest := []) ⟨hx, hb, hml, hown, hts⟩ (c_isInPages l a1) (cwS 1 hts (gS mL_X0_36 mS_X0_isInPages mN_X0 mC_X0_isInPages) rfl rfl rfl (by decide +kernel) ⟨Nat.le_of_ble_eq_true rfl, Nat.le_of_ble_eq_true rfl⟩) preEq rfl rfl hl.1 rfl (lv_room (Nat.le_of_ble_eq_true rfl)) dX0_hasRight_1 ⟨Nat.zero_le _, Nat.zero_le _⟩) (fun r_1 hw => ?_)
  obtain ⟨b_2, hw⟩ := hw
  subst hw
  refine lv_if_eq (tgt := 25) hx hb dX0_hasRight_4 (by decide) (fun c_3 => ?_) (fun c_3 => ?_)
  · refine lv_iconst (v := 0) hx hb dX0_hasRight_25 (by decide) ?_
    exact W.zret (v := 0) (ty := .boolean) hx hb hr rfl (fun t ht hW => ⟨_, rfl, ⟨rfl, (by unfold F_hasRight; rw [if_pos c_3])⟩, ht⟩) (fun _ h => by cases h) dX0_hasRight_26
  · refine lv_aload_n hx hb dX0_hasRight_7 rfl (lv_at hl 0 rfl) ?_
    refine va_get (D := (dC, dI)) (ci := 0) (v := .ref xr) (C := RX0) (T := TX0) (N := 7) hx hb hts (gw_lay lay_X0) hown hK hP 0 rfl rfl 1 (by decide) (hts _ (gcons mF_X0_13)) (fun _ h9 => h9) rfl dX0_hasRight_8 ?_
    refine lv_iload_n hx hb dX0_hasRight_11 rfl (lv_at hl 1 rfl) ?_
    refine lv_bipush (v := 12) hx hb dX0_hasRight_12 (by decide) ?_
    refine lv_iushr (v := (a1.toUInt32 >>> ((12 : Int32).toUInt32 &&& Int32.toUInt32 31)).toInt32) hx hb dX0_hasRight_14 rfl ?_
    refine va_iald hx hb hK hP 2 1 rfl rfl (in_right c_3) dX0_hasRight_15 ?_
    refine lv_iload_n hx hb dX0_hasRight_16 rfl (lv_at hl 2 rfl) ?_
    refine lv_iand hx hb dX0_hasRight_17 ?_
    refine lv_if_eq (tgt := 25) hx hb dX0_hasRight_18 (by decide) (fun c_4 => ?_) (fun c_4 => ?_)
    · refine lv_iconst (v := 0) hx hb dX0_hasRight_25 (by decide) ?_
      exact W.zret (v := 0) (ty := .boolean) hx hb hr rfl (fun t ht hW => ⟨_, rfl, ⟨rfl, (by unfold F_hasRight; rw [if_neg c_3, if_pos c_4])⟩, ht⟩) (fun _ h => by cases h) dX0_hasRight_26
    · refine lv_iconst (v := 1) hx hb dX0_hasRight_21 (by decide) ?_
      refine lv_goto (tgt := 26) hx hb dX0_hasRight_22 (by decide) ?_
      exact W.zret (v := 1) (ty := .boolean) hx hb hr rfl (fun t ht hW => ⟨_, rfl, ⟨rfl, (by unfold F_hasRight; rw [if_neg c_3, if_neg c_4])⟩, ht⟩) (fun _ h => by cases h) dX0_hasRight_26
theorem in_has {rg : Nat → Int32} {a k : Int32} (h : ¬ F_hasRight rg a k = 0) : ¬ F_isInPages a = 0 := fun q => h (by unfold F_hasRight; rw [if_pos q])
theorem in_step {rg : Nat → Int32} {a k : Int32} (h : ¬ F_hasRight rg a k = 0) : vp_in ((a.toUInt32 >>> ((2 : Int32).toUInt32 &&& Int32.toUInt32 31)).toInt32) 4096 := in_word (in_has h)
theorem crook_of {a n : Int32} (h : F_isCrooked a n = 0) : a &&& (n - 1) = 0 := by
  unfold F_isCrooked at h
  by_cases q : a &&& (n - 1) = 0
  · exact q
  · rw [if_neg q] at h; exact absurd h (by decide)
theorem in_put {w a : Int32} {rg : Nat → Int32} (h1 : F_partF w ≤ 2) (h2 : F_isCrooked a (1 <<< (F_partF w &&& 31)) = 0) (h3 : ¬ F_hasRight rg a 2 = 0) : 0 ≤ a.toInt ∧ 0 ≤ ((1 : Int32) <<< (F_partF w &&& 31)).toInt ∧ ((1 : Int32) <<< (F_partF w &&& 31)).toInt ≤ 8 ∧ a.toInt + ((1 : Int32) <<< (F_partF w &&& 31)).toInt ≤ 16384 := by
  obtain ⟨n, hn, rfl⟩ := pages_of (in_has h3)
  have h4 := crook_of h2
  obtain ⟨j, hj, ej⟩ : ∃ j : Nat, j < 2 ^ 3 ∧ F_partF w = nI j := by unfold F_partF; exact pk_andE _ 3 (by decide)
  rw [ej] at h1 h4 ⊢
  have hj2 : j ≤ 2 := by
    rcases Nat.lt_or_ge 2 j with q | q
    · exact absurd (show nI j ≤ nI 2 from h1) (nI_ge q (by omega))
    · exact q
  have tn : (nI n).toInt = (n : Int) := nI_toInt (by omega)
  rw [tn]
  rcases (show j = 0 ∨ j = 1 ∨ j = 2 by omega) with rfl | rfl | rfl
  · have e : (1 : Int32) <<< (nI 0 &&& 31) = 1 := by decide
    rw [e]
    have e1 : (1 : Int32).toInt = 1 := rfl
    rw [e1]
    omega
  · have e : (1 : Int32) <<< (nI 1 &&& 31) = 2 := by decide
    rw [e] at h4 ⊢
    have e1 : (2 : Int32).toInt = 2 := rfl
    rw [e1]
    have h5 : nI n &&& (2 - 1) = nI (n % 2 ^ 1) := pk_andN (by omega) 1 (by decide)
    rw [h5] at h4
    have h6 := nI_ne0 (n := n % 2 ^ 1)
    have h7 : n % 2 ^ 1 = 0 := by
      rcases Nat.eq_zero_or_pos (n % 2 ^ 1) with q | q
      · exact q
      · exact absurd h4 (h6 q (by omega))
    omega
  · have e : (1 : Int32) <<< (nI 2 &&& 31) = 4 := by decide
    rw [e] at h4 ⊢
    have e1 : (4 : Int32).toInt = 4 := rfl
    rw [e1]
    have h5 : nI n &&& (4 - 1) = nI (n % 2 ^ 2) := pk_andN (by omega) 2 (by decide)
    rw [h5] at h4
    have h6 := nI_ne0 (n := n % 2 ^ 2)
    have h7 : n % 2 ^ 2 = 0 := by
      rcases Nat.eq_zero_or_pos (n % 2 ^ 2) with q | q
      · exact q
      · exact absurd h4 (h6 q (by omega))
    omega
def F_bytesFrom (wd : Nat → Int32) (a1 : Int32) : Int32 :=
  ((wd ((a1.toUInt32 >>> ((2 : Int32).toUInt32 &&& Int32.toUInt32 31)).toInt32).toNatClampNeg).toUInt32 >>> (((a1 &&& 3) * 8).toUInt32 &&& Int32.toUInt32 31)).toInt32
set_option maxHeartbeats 4000000 in
set_option maxRecDepth 100000 in
theorem c_bytesFrom (l : Launch) (dC : Nat → ClassId) (dI : Nat → Nat → Nat) (x0 xw xr xg : Nat) (c1 c2 c3 : ClassId) (wd : Nat → Int32) (rg : Nat → Int32) (rs : Nat → Int32) (pcv : Int32) (trv : Int32) (vav : Int32) (dnv : Int32) (a1 : Int32) (hin : ¬ F_isInPages a1 = 0) : Met l yX0_bytesFrom wsX0_bytesFrom ({ frames := 0, cells := 0, slots := 0, locals := 0 }) (va_Pc [.ref x0, .int a1] (fun U => va_P (dC, dI) vwCl [(x0, .inr (0, [.ref xw, .ref xr, .ref xg, .int pcv, .int trv, .int vav, .int dnv])), (xw, .inl (c1, 4096, .inl wd)), (xr, .inl (c2, 4, .inl rg)), (xg, .inl (c3, 32, .inl rs))] U.heap ∧ va_K (dC, dI) vwCl [(c1, .int), (c2, .int), (c3, .int)] U)) (vp_Si (fun r : Int32 => r = F_bytesFrom wd a1)) 0 0 (fun _ => False) := by
  refine Met.ofW (cc := cX0_bytesFrom) (maxL := 2) (ret := (some .int)) (by decide) rfl ?_
  intro p e s m args below meth c s₁ B hml hv
  obtain ⟨rfl, hP, hK⟩ := hv
  have hx := B.exec
  have hb := B.bytes
  have hr := B.returns
  have hts := atoms_spec (ws := wsX0_bytesFrom) B.pre
  have hown : s.vm.findClass RX0 = some m.cls := findClass_of_methodNamed B.named
  have hlocks := B.notSynchronized
  have hP : va_P (dC, dI) vwCl [(x0, .inr (0, [.ref xw, .ref xr, .ref xg, .int pcv, .int trv, .int vav, .int dnv])), (xw, .inl (c1, 4096, .inl wd)), (xr, .inl (c2, 4, .inl rg)), (xg, .inl (c3, 32, .inl rs))] s.heap := hP
  have hl := lv_entry ([.ref x0, .int a1]) (n := 2) (Nat.le_of_ble_eq_true rfl)
  rw [lg_entry_eq]
  generalize (lg_sl ([.ref x0, .int a1]) ++ List.replicate (2 - (lg_sl ([.ref x0, .int a1])).length) Slot.unset).toArray = ls at hl ⊢
  have hl : lv_has ls 2 [(0, .ref x0), (1, .int a1)] := hl
  refine lv_aload_n hx hb dX0_bytesFrom_0 rfl (lv_at hl 0 rfl) ?_
  refine va_get (D := (dC, dI)) (ci := 0) (v := .ref xw) (C := RX0) (T := TX0) (N := 7) hx hb hts (gw_lay lay_X0) hown hK hP 0 rfl rfl 0 (by decide) (hts _ (gcons mF_X0_9)) (fun _ h9 => h9) rfl dX0_bytesFrom_1 ?_
  refine lv_iload_n hx hb dX0_bytesFrom_4 rfl (lv_at hl 1 rfl) ?_
  refine lv_iconst (v := 2) hx hb dX0_bytesFrom_5 (by decide) ?_
  refine lv_iushr (v := (a1.toUInt32 >>> ((2 : Int32).toUInt32 &&& Int32.toUInt32 31)).toInt32) hx hb dX0_bytesFrom_6 rfl ?_
  refine va_iald hx hb hK hP 1 0 rfl rfl (in_word hin) dX0_bytesFrom_7 ?_
  refine lv_iload_n hx hb dX0_bytesFrom_8 rfl (lv_at hl 1 rfl) ?_
  refine lv_iconst (v := 3) hx hb dX0_bytesFrom_9 (by decide) ?_
  refine lv_iand hx hb dX0_bytesFrom_10 ?_
  refine lv_bipush (v := 8) hx hb dX0_bytesFrom_11 (by decide) ?_
  refine lv_imul hx hb dX0_bytesFrom_13 ?_
  refine lv_iushr (v := ((wd ((a1.toUInt32 >>> ((2 : Int32).toUInt32 &&& Int32.toUInt32 31)).toInt32).toNatClampNeg).toUInt32 >>> (((a1 &&& 3) * 8).toUInt32 &&& Int32.toUInt32 31)).toInt32) hx hb dX0_bytesFrom_14 rfl ?_
  exact W.iret (v := ((wd ((a1.toUInt32 >>> ((2 : Int32).toUInt32 &&& Int32.toUInt32 31)).toInt32).toNatClampNeg).toUInt32 >>> (((a1 &&& 3) * 8).toUInt32 &&& Int32.toUInt32 31)).toInt32) hx hb hr (fun t ht hW => ⟨_, rfl, (by unfold F_bytesFrom; rfl), ht⟩) (fun _ h => by cases h) dX0_bytesFrom_15
