def F_store (wd : Nat → Int32) (rg : Nat → Int32) (rs : Nat → Int32) (pcv : Int32) (trv : Int32) (vav : Int32) (a1 : Int32) : Int32 × (Nat → Int32) × (Nat → Int32) × Int32 × Int32 × Int32 :=
  if (F_partF a1) ≤ 2 then
    if (F_isCrooked ((F_registerA rs a1) + (F_storeImmediate a1)) (1 <<< ((F_partF a1) &&& 31))) = 0 then
      if (F_hasRight rg ((F_registerA rs a1) + (F_storeImmediate a1)) 2) = 0 then
        F_trapWith wd rg rs pcv trv vav 15 ((F_registerA rs a1) + (F_storeImmediate a1))
      else
        (1, (F_putBytes wd ((F_registerA rs a1) + (F_storeImmediate a1)) (1 <<< ((F_partF a1) &&& 31)) ((F_registerB rs a1).toInt64), rs, pcv + 4, trv, vav))
    else
      F_trapWith wd rg rs pcv trv vav 6 ((F_registerA rs a1) + (F_storeImmediate a1))
  else
    F_refuse wd rg rs pcv trv vav a1
set_option maxHeartbeats 4000000 in
set_option maxRecDepth 100000 in
theorem c_store (l : Launch) (dC : Nat → ClassId) (dI : Nat → Nat → Nat) (x0 xw xr xg : Nat) (c1 c2 c3 : ClassId) (sz : Nat) (wd : Nat → Int32) (rg : Nat → Int32) (rs : Nat → Int32) (pcv : Int32) (trv : Int32) (vav : Int32) (dnv : Int32) (a1 : Int32)  : Met l yX0_store wsX0_store ({ frames := 2, cells := 0, slots := 0, locals := 43 }) (va_Pc [.ref x0, .int a1] (fun U => U.heap.size = sz ∧ va_P (dC, dI) vwCl [(x0, .inr (0, [.ref xw, .ref xr, .ref xg, .int pcv, .int trv, .int vav, .int dnv])), (xw, .inl (c1, 4096, .inl wd)), (xr, .inl (c2, 4, .inl rg)), (xg, .inl (c3, 32, .inl rs))] U.heap ∧ va_K (dC, dI) vwCl [(c1, .int), (c2, .int), (c3, .int)] U ∧ va_D (fun _ => True) [(x0, .inr (0, [.ref xw, .ref xr, .ref xg, .int pcv, .int trv, .int vav, .int dnv])), (xw, .inl (c1, 4096, .inl wd)), (xr, .inl (c2, 4, .inl rg)), (xg, .inl (c3, 32, .inl rs))])) (va_Qi (fun (r : Int32) (u : (Nat → Int32) × (Nat → Int32) × Int32 × Int32 × Int32) => narrow .boolean (.int r) = .int r ∧ (r, u) = F_store wd rg rs pcv trv vav a1) (fun (u : (Nat → Int32) × (Nat → Int32) × Int32 × Int32 × Int32) (t : State) => va_P (dC, dI) vwCl [(x0, .inr (0, [.ref xw, .ref xr, .ref xg, .int u.2.2.1, .int u.2.2.2.1, .int u.2.2.2.2, .int dnv])), (xw, .inl (c1, 4096, .inl u.1)), (xr, .inl (c2, 4, .inl rg)), (xg, .inl (c3, 32, .inl u.2.1))] t.heap ∧ va_K (dC, dI) vwCl [(c1, .int), (c2, .int), (c3, .int)] t ∧ va_D (va_A [(x0, .inr (0, [.ref xw, .ref xr, .ref xg, .int pcv, .int trv, .int vav, .int dnv])), (xw, .inl (c1, 4096, .inl wd)), (xr, .inl (c2, 4, .inl rg)), (xg, .inl (c3, 32, .inl rs))] sz) [(x0, .inr (0, [.ref xw, .ref xr, .ref xg, .int u.2.2.1, .int u.2.2.2.1, .int u.2.2.2.2, .int dnv])), (xw, .inl (c1, 4096, .inl u.1)), (xr, .inl (c2, 4, .inl rg)), (xg, .inl (c3, 32, .inl u.2.1))]) (va_A [(x0, .inr (0, [.ref xw, .ref xr, .ref xg, .int pcv, .int trv, .int vav, .int dnv])), (xw, .inl (c1, 4096, .inl wd)), (xr, .inl (c2, 4, .inl rg)), (xg, .inl (c3, 32, .inl rs))] sz)) 0 0 (va_A [(x0, .inr (0, [.ref xw, .ref xr, .ref xg, .int pcv, .int trv, .int vav, .int dnv])), (xw, .inl (c1, 4096, .inl wd)), (xr, .inl (c2, 4, .inl rg)), (xg, .inl (c3, 32, .inl rs))] sz) := by
  refine Met.ofW (cc := cX0_store) (maxL := 5) (ret := (some .boolean)) (by decide) rfl ?_
  intro p e s m args below meth c s₁ B hml hv
  obtain ⟨rfl, hsz, hP, hK, hD0⟩ := hv
  have hx := B.exec
  have hb := B.bytes
  have hr := B.returns
  have hts := atoms_spec (ws := wsX0_store) B.pre
  have hown : s.vm.findClass RX0 = some m.cls := findClass_of_methodNamed B.named
  have hlocks := B.notSynchronized
  subst hsz
  have hD := hD0.self (sz := s.heap.size)
  generalize hAe : va_A [(x0, .inr (0, [.ref xw, .ref xr, .ref xg, .int pcv, .int trv, .int vav, .int dnv])), (xw, .inl (c1, 4096, .inl wd)), (xr, .inl (c2, 4, .inl rg)), (xg, .inl (c3, 32, .inl rs))] s.heap.size = A at hD ⊢
  have hA : ∀ q : Nat, s.heap.size ≤ q → A q := fun q h => by rw [← hAe]; exact Or.inr h
  have hS : va_S A s.heap s.heap [] := va_S.rf
  have hP : va_P (dC, dI) vwCl [(x0, .inr (0, [.ref xw, .ref xr, .ref xg, .int pcv, .int trv, .int vav, .int dnv])), (xw, .inl (c1, 4096, .inl wd)), (xr, .inl (c2, 4, .inl rg)), (xg, .inl (c3, 32, .inl rs))] s.heap := hP
  have hl := lv_entry ([.ref x0, .int a1]) (n := 5) (Nat.le_of_ble_eq_true rfl)
  rw [lg_entry_eq]
  generalize (lg_sl ([.ref x0, .int a1]) ++ List.replicate (5 - (lg_sl ([.ref x0, .int a1])).length) Slot.unset).toArray = ls at hl ⊢
  have hl : lv_has ls 5 [(0, .ref x0), (1, .int a1)] := hl
  refine lv_iload_n hx hb dX0_store_0 rfl (lv_at hl 1 rfl) ?_
  refine vp_callSi (W.runS (As := [.int a1]) (rest := []) ⟨hx, hb, hml, hown, hts⟩ (c_partF l a1) (cwS 1 hts (gS mL_X0_114 mS_X0_partF mN_X0 mC_X0_partF) rfl rfl rfl (by decide +kernel) ⟨Nat.le_of_ble_eq_true rfl, Nat.le_of_ble_eq_true rfl⟩) preEq rfl rfl hl.1 rfl (lv_room (Nat.le_of_ble_eq_true rfl)) dX0_store_1 ⟨Nat.zero_le _, Nat.zero_le _⟩) (fun r_1 hw => ?_)
  subst hw
  refine lv_istore_n (lv' := [(2, .int (F_partF a1)), (0, .ref x0), (1, .int a1)]) hx hb dX0_store_4 rfl hl (by decide) rfl (fun ls hl => ?_)
  refine lv_iload_n hx hb dX0_store_5 rfl (lv_at hl 0 rfl) ?_
  refine lv_iconst (v := 2) hx hb dX0_store_6 (by decide) ?_
  refine lv_icmp_le (tgt := 16) hx hb dX0_store_7 (by decide) (fun c_2 => ?_) (fun c_2 => ?_)
  · refine lv_aload_n hx hb dX0_store_16 rfl (lv_at hl 1 rfl) ?_
    refine lv_iload_n hx hb dX0_store_17 rfl (lv_at hl 2 rfl) ?_
    refine vp_callSi (W.runV (As := [.int a1]) (rest := []) ⟨hx, hb, hml, hown, hts⟩ (c_registerA l dC dI x0 xw xr xg c1 c2 c3 wd rg rs pcv trv vav dnv a1) (cwV 1 hts (gV mL_X0_117 mI_X0_registerA mE_X0_registerA mN_X0 mC_X0_registerA) rfl rfl rfl (by decide +kernel) ⟨Nat.le_of_ble_eq_true rfl, Nat.le_of_ble_eq_true rfl⟩) ⟨fun a U g mk q => by obtain ⟨q0, qP, qK⟩ := q; exact ⟨q0, qP, va_K.moved (u := U) (U := U.calling g mk a) (Vm.Alike.refl U.vm) qK⟩, va_recv hK hP (ci := 0) (q0 := 0) rfl rfl, fun U hU hW => ⟨rfl, by rw [hU]; exact hP, va_K.moved hW.alike hK⟩⟩ rfl rfl hl.1 rfl (lv_room (Nat.le_of_ble_eq_true rfl)) dX0_store_18 ⟨Nat.zero_le _, Nat.zero_le _⟩) (fun r_3 hw => ?_)
    subst hw
    refine lv_iload_n hx hb dX0_store_21 rfl (lv_at hl 2 rfl) ?_
    refine vp_callSi (W.runS (As := [.int a1]) (rest := [.int (F_registerA rs a1)]) ⟨hx, hb, hml, hown, hts⟩ (c_storeImmediate l a1) (cwS 1 hts (gS mL_X0_137 mS_X0_storeImmediate mN_X0 mC_X0_storeImmediate) rfl rfl rfl (by decide +kernel) ⟨Nat.le_of_ble_eq_true rfl, Nat.le_of_ble_eq_true rfl⟩) preEq rfl rfl hl.1 rfl (lv_room (Nat.le_of_ble_eq_true rfl)) dX0_store_22 ⟨Nat.zero_le _, Nat.zero_le _⟩) (fun r_4 hw => ?_)
    subst hw
    refine lv_iadd hx hb dX0_store_25 ?_
    refine lv_istore_n (lv' := [(3, .int ((F_registerA rs a1) + (F_storeImmediate a1))), (2, .int (F_partF a1)), (0, .ref x0), (1, .int a1)]) hx hb dX0_store_26 rfl hl (by decide) rfl (fun ls hl => ?_)
    refine lv_iconst (v := 1) hx hb dX0_store_27 (by decide) ?_
    refine lv_iload_n hx hb dX0_store_28 rfl (lv_at hl 1 rfl) ?_
    refine lv_ishl hx hb dX0_store_29 ?_
    refine lv_istore (lv' := [(4, .int (1 <<< ((F_partF a1) &&& 31))), (3, .int ((F_registerA rs a1) + (F_storeImmediate a1))), (2, .int (F_partF a1)), (0, .ref x0), (1, .int a1)]) hx hb dX0_store_30 hl (by decide) rfl (fun ls hl => ?_)
    refine lv_iload_n hx hb dX0_store_32 rfl (lv_at hl 1 rfl) ?_
    refine lv_iload hx hb dX0_store_33 (lv_at hl 0 rfl) ?_
    refine vp_callSi (W.runS (As := [.int ((F_registerA rs a1) + (F_storeImmediate a1)), .int (1 <<< ((F_partF a1) &&& 31))]) (rest := []) ⟨hx, hb, hml, hown, hts⟩ (c_isCrooked l ((F_registerA rs a1) + (F_storeImmediate a1)) (1 <<< ((F_partF a1) &&& 31))) (cwS 2 hts (gS mL_X0_62 mS_X0_isCrooked mN_X0 mC_X0_isCrooked) rfl rfl rfl (by decide +kernel) ⟨Nat.le_of_ble_eq_true rfl, Nat.le_of_ble_eq_true rfl⟩) preEq rfl rfl hl.1 rfl (lv_room (Nat.le_of_ble_eq_true rfl)) dX0_store_35 ⟨Nat.zero_le _, Nat.zero_le _⟩) (fun r_5 hw => ?_)
    obtain ⟨b_6, hw⟩ := hw
    subst hw
    refine lv_if_eq (tgt := 49) hx hb dX0_store_38 (by decide) (fun c_7 => ?_) (fun c_7 => ?_)
    · refine lv_aload_n hx hb dX0_store_49 rfl (lv_at hl 3 rfl) ?_
      refine lv_iload_n hx hb dX0_store_50 rfl (lv_at hl 1 rfl) ?_
      refine lv_iconst (v := 2) hx hb dX0_store_51 (by decide) ?_
      refine vp_callSi (W.runV (As := [.int ((F_registerA rs a1) + (F_storeImmediate a1)), .int 2]) (rest := []) ⟨hx, hb, hml, hown, hts⟩ (c_hasRight l dC dI x0 xw xr xg c1 c2 c3 wd rg rs pcv trv vav dnv ((F_registerA rs a1) + (F_storeImmediate a1)) 2) (cwV 2 hts (gV mL_X0_69 mI_X0_hasRight mE_X0_hasRight mN_X0 mC_X0_hasRight) rfl rfl rfl (by decide +kernel) ⟨Nat.le_of_ble_eq_true rfl, Nat.le_of_ble_eq_true rfl⟩) ⟨fun a U g mk q => by obtain ⟨q0, qP, qK⟩ := q; exact ⟨q0, qP, va_K.moved (u := U) (U := U.calling g mk a) (Vm.Alike.refl U.vm) qK⟩, va_recv hK hP (ci := 0) (q0 := 0) rfl rfl, fun U hU hW => ⟨rfl, by rw [hU]; exact hP, va_K.moved hW.alike hK⟩⟩ rfl rfl hl.1 rfl (lv_room (Nat.le_of_ble_eq_true rfl)) dX0_store_52 ⟨Nat.zero_le _, Nat.zero_le _⟩) (fun r_8 hw => ?_)
      obtain ⟨b_9, hw⟩ := hw
      subst hw
      refine lv_if_ne (tgt := 66) hx hb dX0_store_55 (by decide) (fun c_10 => ?_) (fun c_10 => ?_)
      · refine lv_aload_n hx hb dX0_store_66 rfl (lv_at hl 3 rfl) ?_
        refine lv_iload_n hx hb dX0_store_67 rfl (lv_at hl 1 rfl) ?_
        refine lv_iload hx hb dX0_store_68 (lv_at hl 0 rfl) ?_
        refine lv_aload_n hx hb dX0_store_70 rfl (lv_at hl 3 rfl) ?_
        refine lv_iload_n hx hb dX0_store_71 rfl (lv_at hl 4 rfl) ?_
        refine vp_callSi (W.runV (As := [.int a1]) (rest := [.int (1 <<< ((F_partF a1) &&& 31)), .int ((F_registerA rs a1) + (F_storeImmediate a1)), .ref x0]) ⟨hx, hb, hml, hown, hts⟩ (c_registerB l dC dI x0 xw xr xg c1 c2 c3 wd rg rs pcv trv vav dnv a1) (cwV 1 hts (gV mL_X0_123 mI_X0_registerB mE_X0_registerB mN_X0 mC_X0_registerB) rfl rfl rfl (by decide +kernel) ⟨Nat.le_of_ble_eq_true rfl, Nat.le_of_ble_eq_true rfl⟩) ⟨fun a U g mk q => by obtain ⟨q0, qP, qK⟩ := q; exact ⟨q0, qP, va_K.moved (u := U) (U := U.calling g mk a) (Vm.Alike.refl U.vm) qK⟩, va_recv hK hP (ci := 0) (q0 := 0) rfl rfl, fun U hU hW => ⟨rfl, by rw [hU]; exact hP, va_K.moved hW.alike hK⟩⟩ rfl rfl hl.1 rfl (lv_room (Nat.le_of_ble_eq_true rfl)) dX0_store_72 ⟨Nat.zero_le _, Nat.zero_le _⟩) (fun r_11 hw => ?_)
        subst hw
        refine lv_i2l (v := (F_registerB rs a1).toInt64) hx hb dX0_store_75 rfl ?_
        have hFc := va_free (wc := [(x0, .inr (0, [.ref xw, .ref xr, .ref xg, .int pcv, .int trv, .int vav, .int dnv])), (xw, .inl (c1, 4096, .inl wd)), (xr, .inl (c2, 4, .inl rg)), (xg, .inl (c3, 32, .inl rs))]) hD hS hA [0, 1, 2, 3] rfl
        refine va_callv (va_runV (As := [.int ((F_registerA rs a1) + (F_storeImmediate a1)), .int (1 <<< ((F_partF a1) &&& 31)), .long ((F_registerB rs a1).toInt64)]) (rest := []) ⟨hx, hb, hml, hown, hts⟩ (c_putBytes l dC dI x0 xw xr xg c1 c2 c3 s.heap.size wd rg rs pcv trv vav dnv ((F_registerA rs a1) + (F_storeImmediate a1)) (1 <<< ((F_partF a1) &&& 31)) ((F_registerB rs a1).toInt64) ((in_put c_2 c_7 c_10))) (cwV 3 hts (gV mL_X0_32 mI_X0_putBytes mE_X0_putBytes mN_X0 mC_X0_putBytes) rfl rfl rfl (by decide +kernel) ⟨Nat.le_of_ble_eq_true rfl, Nat.le_of_ble_eq_true rfl⟩) ⟨fun a U g mk q => by obtain ⟨q0, q1, qP, qK, qD⟩ := q; exact ⟨q0, q1, qP, va_K.moved (u := U) (U := U.calling g mk a) (Vm.Alike.refl U.vm) qK, qD⟩, va_recv hK hP (ci := 0) (q0 := 0) rfl rfl, fun U hU hW => ⟨rfl, by rw [hU], by rw [hU]; exact hP, va_K.moved hW.alike hK, hD.weaken (fun _ _ _ _ => trivial)⟩⟩ rfl rfl hl.1 rfl (lv_room (Nat.le_of_ble_eq_true rfl)) dX0_store_76 ⟨Nat.zero_le _, Nat.zero_le _⟩) hS (fun q _ h => hFc q h) hFc (fun u t H1 locs ht hvm hw hB hz1 hk1 hS => ?_)
        subst hw
        obtain ⟨hP1, hK1, hD1⟩ := hB
        rw [ht] at hP1
        obtain ⟨hP, hD⟩ := va_join (wr := []) (w1 := [(x0, .inr (0, [.ref xw, .ref xr, .ref xg, .int pcv, .int trv, .int vav, .int dnv])), (xw, .inl (c1, 4096, .inl (F_putBytes wd ((F_registerA rs a1) + (F_storeImmediate a1)) (1 <<< ((F_partF a1) &&& 31)) ((F_registerB rs a1).toInt64)))), (xr, .inl (c2, 4, .inl rg)), (xg, .inl (c3, 32, .inl rs))]) hP hD [0, 1, 2, 3] [] rfl rfl (by decide) (by decide) hk1 hFc hP1 hD1
        generalize H1 = H at hP hS ⊢
        have hP : va_P (dC, dI) vwCl [(x0, .inr (0, [.ref xw, .ref xr, .ref xg, .int pcv, .int trv, .int vav, .int dnv])), (xw, .inl (c1, 4096, .inl (F_putBytes wd ((F_registerA rs a1) + (F_storeImmediate a1)) (1 <<< ((F_partF a1) &&& 31)) ((F_registerB rs a1).toInt64)))), (xr, .inl (c2, 4, .inl rg)), (xg, .inl (c3, 32, .inl rs))] H := hP
        have hD : va_D A [(x0, .inr (0, [.ref xw, .ref xr, .ref xg, .int pcv, .int trv, .int vav, .int dnv])), (xw, .inl (c1, 4096, .inl (F_putBytes wd ((F_registerA rs a1) + (F_storeImmediate a1)) (1 <<< ((F_partF a1) &&& 31)) ((F_registerB rs a1).toInt64)))), (xr, .inl (c2, 4, .inl rg)), (xg, .inl (c3, 32, .inl rs))] := hD
        refine lv_aload_n hx hb dX0_store_79 rfl (lv_at hl 3 rfl) ?_
        refine lv_dup hx hb dX0_store_80 rfl ?_
        refine va_get (D := (dC, dI)) (ci := 0) (v := .int pcv) (C := RX0) (T := TX0) (N := 7) hx hb hts (gw_lay lay_X0) hown hK hP 0 rfl rfl 3 (by decide) (hts _ (gcons mF_X0_19)) (fun _ h9 => h9) rfl dX0_store_81 ?_
        refine lv_iconst (v := 4) hx hb dX0_store_84 (by decide) ?_
        refine lv_iadd hx hb dX0_store_85 ?_
        refine va_put (D := (dC, dI)) (ci := 0) (v := .int (pcv + 4)) (ty := .int) (C := RX0) (T := TX0) (N := 7) hx hb hts (gw_lay lay_X0) tyX0 tyX0_ok nmX0 hown hK hP hD hS 0 rfl rfl 3 (by decide) (hts _ (gcons mF_X0_19)) (fun _ h9 => h9) rfl (by decide +kernel) rfl rfl (Nat.le_of_ble_eq_true rfl) dX0_store_86 (fun H locs hP hD hS => ?_)
        have hP : va_P (dC, dI) vwCl [(x0, .inr (0, [.ref xw, .ref xr, .ref xg, .int (pcv + 4), .int trv, .int vav, .int dnv])), (xw, .inl (c1, 4096, .inl (F_putBytes wd ((F_registerA rs a1) + (F_storeImmediate a1)) (1 <<< ((F_partF a1) &&& 31)) ((F_registerB rs a1).toInt64)))), (xr, .inl (c2, 4, .inl rg)), (xg, .inl (c3, 32, .inl rs))] H := hP
        have hD : va_D A [(x0, .inr (0, [.ref xw, .ref xr, .ref xg, .int (pcv + 4), .int trv, .int vav, .int dnv])), (xw, .inl (c1, 4096, .inl (F_putBytes wd ((F_registerA rs a1) + (F_storeImmediate a1)) (1 <<< ((F_partF a1) &&& 31)) ((F_registerB rs a1).toInt64)))), (xr, .inl (c2, 4, .inl rg)), (xg, .inl (c3, 32, .inl rs))] := hD
        refine lv_iconst (v := 1) hx hb dX0_store_89 (by decide) ?_
        exact W.zret (v := 1) (ty := .boolean) hx hb hr rfl (fun t ht hW => ⟨⟨_, (F_putBytes wd ((F_registerA rs a1) + (F_storeImmediate a1)) (1 <<< ((F_partF a1) &&& 31)) ((F_registerB rs a1).toInt64), rs, pcv + 4, trv, vav), rfl, ⟨rfl, (by unfold F_store; rw [if_pos c_2, if_pos c_7, if_neg c_10])⟩, by rw [ht]; exact hP, va_K.moved hW.alike hK, hD⟩, hS.F ht⟩) hS.2.2 dX0_store_90
      · refine lv_aload_n hx hb dX0_store_58 rfl (lv_at hl 3 rfl) ?_
        refine lv_bipush (v := 15) hx hb dX0_store_59 (by decide) ?_
        refine lv_iload_n hx hb dX0_store_61 rfl (lv_at hl 1 rfl) ?_
        have hFc := va_free (wc := [(x0, .inr (0, [.ref xw, .ref xr, .ref xg, .int pcv, .int trv, .int vav, .int dnv])), (xw, .inl (c1, 4096, .inl wd)), (xr, .inl (c2, 4, .inl rg)), (xg, .inl (c3, 32, .inl rs))]) hD hS hA [0, 1, 2, 3] rfl
        refine va_calli (va_runV (As := [.int 15, .int ((F_registerA rs a1) + (F_storeImmediate a1))]) (rest := []) ⟨hx, hb, hml, hown, hts⟩ (c_trapWith l dC dI x0 xw xr xg c1 c2 c3 s.heap.size wd rg rs pcv trv vav dnv 15 ((F_registerA rs a1) + (F_storeImmediate a1))) (cwV 2 hts (gV mL_X0_66 mI_X0_trapWith mE_X0_trapWith mN_X0 mC_X0_trapWith) rfl rfl rfl (by decide +kernel) ⟨Nat.le_of_ble_eq_true rfl, Nat.le_of_ble_eq_true rfl⟩) ⟨fun a U g mk q => by obtain ⟨q0, q1, qP, qK, qD⟩ := q; exact ⟨q0, q1, qP, va_K.moved (u := U) (U := U.calling g mk a) (Vm.Alike.refl U.vm) qK, qD⟩, va_recv hK hP (ci := 0) (q0 := 0) rfl rfl, fun U hU hW => ⟨rfl, by rw [hU], by rw [hU]; exact hP, va_K.moved hW.alike hK, hD.weaken (fun _ _ _ _ => trivial)⟩⟩ rfl rfl hl.1 rfl (lv_room (Nat.le_of_ble_eq_true rfl)) dX0_store_62 ⟨Nat.zero_le _, Nat.zero_le _⟩) hS (fun q _ h => hFc q h) hFc (fun r_13 u t H1 locs ht hvm hw hB hz1 hk1 hS => ?_)
        obtain ⟨b_14, hw⟩ := hw
        obtain ⟨wd_15, rs_16, pcv_17, trv_18, vav_19⟩ := u
        obtain ⟨hP1, hK1, hD1⟩ := hB
        rw [ht] at hP1
        obtain ⟨hP, hD⟩ := va_join (wr := []) (w1 := [(x0, .inr (0, [.ref xw, .ref xr, .ref xg, .int pcv_17, .int trv_18, .int vav_19, .int dnv])), (xw, .inl (c1, 4096, .inl wd_15)), (xr, .inl (c2, 4, .inl rg)), (xg, .inl (c3, 32, .inl rs_16))]) hP hD [0, 1, 2, 3] [] rfl rfl (by decide) (by decide) hk1 hFc hP1 hD1
        generalize H1 = H at hP hS ⊢
        have hP : va_P (dC, dI) vwCl [(x0, .inr (0, [.ref xw, .ref xr, .ref xg, .int pcv_17, .int trv_18, .int vav_19, .int dnv])), (xw, .inl (c1, 4096, .inl wd_15)), (xr, .inl (c2, 4, .inl rg)), (xg, .inl (c3, 32, .inl rs_16))] H := hP
        have hD : va_D A [(x0, .inr (0, [.ref xw, .ref xr, .ref xg, .int pcv_17, .int trv_18, .int vav_19, .int dnv])), (xw, .inl (c1, 4096, .inl wd_15)), (xr, .inl (c2, 4, .inl rg)), (xg, .inl (c3, 32, .inl rs_16))] := hD
        exact W.zret (v := r_13) (ty := .boolean) hx hb hr b_14 (fun t ht hW => ⟨⟨_, (wd_15, rs_16, pcv_17, trv_18, vav_19), rfl, ⟨b_14, (by unfold F_store; rw [if_pos c_2, if_pos c_7, if_pos c_10]; exact hw)⟩, by rw [ht]; exact hP, va_K.moved hW.alike hK, hD⟩, hS.F ht⟩) hS.2.2 dX0_store_65
    · refine lv_aload_n hx hb dX0_store_41 rfl (lv_at hl 3 rfl) ?_
      refine lv_bipush (v := 6) hx hb dX0_store_42 (by decide) ?_
      refine lv_iload_n hx hb dX0_store_44 rfl (lv_at hl 1 rfl) ?_
      have hFc := va_free (wc := [(x0, .inr (0, [.ref xw, .ref xr, .ref xg, .int pcv, .int trv, .int vav, .int dnv])), (xw, .inl (c1, 4096, .inl wd)), (xr, .inl (c2, 4, .inl rg)), (xg, .inl (c3, 32, .inl rs))]) hD hS hA [0, 1, 2, 3] rfl
      refine va_calli (va_runV (As := [.int 6, .int ((F_registerA rs a1) + (F_storeImmediate a1))]) (rest := []) ⟨hx, hb, hml, hown, hts⟩ (c_trapWith l dC dI x0 xw xr xg c1 c2 c3 s.heap.size wd rg rs pcv trv vav dnv 6 ((F_registerA rs a1) + (F_storeImmediate a1))) (cwV 2 hts (gV mL_X0_66 mI_X0_trapWith mE_X0_trapWith mN_X0 mC_X0_trapWith) rfl rfl rfl (by decide +kernel) ⟨Nat.le_of_ble_eq_true rfl, Nat.le_of_ble_eq_true rfl⟩) ⟨fun a U g mk q => by obtain ⟨q0, q1, qP, qK, qD⟩ := q; exact ⟨q0, q1, qP, va_K.moved (u := U) (U := U.calling g mk a) (Vm.Alike.refl U.vm) qK, qD⟩, va_recv hK hP (ci := 0) (q0 := 0) rfl rfl, fun U hU hW => ⟨rfl, by rw [hU], by rw [hU]; exact hP, va_K.moved hW.alike hK, hD.weaken (fun _ _ _ _ => trivial)⟩⟩ rfl rfl hl.1 rfl (lv_room (Nat.le_of_ble_eq_true rfl)) dX0_store_45 ⟨Nat.zero_le _, Nat.zero_le _⟩) hS (fun q _ h => hFc q h) hFc (fun r_20 u t H1 locs ht hvm hw hB hz1 hk1 hS => ?_)
      obtain ⟨b_21, hw⟩ := hw
      obtain ⟨wd_22, rs_23, pcv_24, trv_25, vav_26⟩ := u
      obtain ⟨hP1, hK1, hD1⟩ := hB
      rw [ht] at hP1
      obtain ⟨hP, hD⟩ := va_join (wr := []) (w1 := [(x0, .inr (0, [.ref xw, .ref xr, .ref xg, .int pcv_24, .int trv_25, .int vav_26, .int dnv])), (xw, .inl (c1, 4096, .inl wd_22)), (xr, .inl (c2, 4, .inl rg)), (xg, .inl (c3, 32, .inl rs_23))]) hP hD [0, 1, 2, 3] [] rfl rfl (by decide) (by decide) hk1 hFc hP1 hD1
      generalize H1 = H at hP hS ⊢
      have hP : va_P (dC, dI) vwCl [(x0, .inr (0, [.ref xw, .ref xr, .ref xg, .int pcv_24, .int trv_25, .int vav_26, .int dnv])), (xw, .inl (c1, 4096, .inl wd_22)), (xr, .inl (c2, 4, .inl rg)), (xg, .inl (c3, 32, .inl rs_23))] H := hP
      have hD : va_D A [(x0, .inr (0, [.ref xw, .ref xr, .ref xg, .int pcv_24, .int trv_25, .int vav_26, .int dnv])), (xw, .inl (c1, 4096, .inl wd_22)), (xr, .inl (c2, 4, .inl rg)), (xg, .inl (c3, 32, .inl rs_23))] := hD
      exact W.zret (v := r_20) (ty := .boolean) hx hb hr b_21 (fun t ht hW => ⟨⟨_, (wd_22, rs_23, pcv_24, trv_25, vav_26), rfl, ⟨b_21, (by unfold F_store; rw [if_pos c_2, if_neg c_7]; exact hw)⟩, by rw [ht]; exact hP, va_K.moved hW.alike hK, hD⟩, hS.F ht⟩) hS.2.2 dX0_store_48
  · refine lv_aload_n hx hb dX0_store_10 rfl (lv_at hl 1 rfl) ?_
    refine lv_iload_n hx hb dX0_store_11 rfl (lv_at hl 2 rfl) ?_
    have hFc := va_free (wc := [(x0, .inr (0, [.ref xw, .ref xr, .ref xg, .int pcv, .int trv, .int vav, .int dnv])), (xw, .inl (c1, 4096, .inl wd)), (xr, .inl (c2, 4, .inl rg)), (xg, .inl (c3, 32, .inl rs))]) hD hS hA [0, 1, 2, 3] rfl
    refine va_calli (va_runV (As := [.int a1]) (rest := []) ⟨hx, hb, hml, hown, hts⟩ (c_refuse l dC dI x0 xw xr xg c1 c2 c3 s.heap.size wd rg rs pcv trv vav dnv a1) (cwV 1 hts (gV mL_X0_111 mI_X0_refuse mE_X0_refuse mN_X0 mC_X0_refuse) rfl rfl rfl (by decide +kernel) ⟨Nat.le_of_ble_eq_true rfl, Nat.le_of_ble_eq_true rfl⟩) ⟨fun a U g mk q => by obtain ⟨q0, q1, qP, qK, qD⟩ := q; exact ⟨q0, q1, qP, va_K.moved (u := U) (U := U.calling g mk a) (Vm.Alike.refl U.vm) qK, qD⟩, va_recv hK hP (ci := 0) (q0 := 0) rfl rfl, fun U hU hW => ⟨rfl, by rw [hU], by rw [hU]; exact hP, va_K.moved hW.alike hK, hD.weaken (fun _ _ _ _ => trivial)⟩⟩ rfl rfl hl.1 rfl (lv_room (Nat.le_of_ble_eq_true rfl)) dX0_store_12 ⟨Nat.zero_le _, Nat.zero_le _⟩) hS (fun q _ h => hFc q h) hFc (fun r_27 u t H1 locs ht hvm hw hB hz1 hk1 hS => ?_)
    obtain ⟨b_28, hw⟩ := hw
    obtain ⟨wd_29, rs_30, pcv_31, trv_32, vav_33⟩ := u
    obtain ⟨hP1, hK1, hD1⟩ := hB
    rw [ht] at hP1
    obtain ⟨hP, hD⟩ := va_join (wr := []) (w1 := [(x0, .inr (0, [.ref xw, .ref xr, .ref xg, .int pcv_31, .int trv_32, .int vav_33, .int dnv])), (xw, .inl (c1, 4096, .inl wd_29)), (xr, .inl (c2, 4, .inl rg)), (xg, .inl (c3, 32, .inl rs_30))]) hP hD [0, 1, 2, 3] [] rfl rfl (by decide) (by decide) hk1 hFc hP1 hD1
    generalize H1 = H at hP hS ⊢
    have hP : va_P (dC, dI) vwCl [(x0, .inr (0, [.ref xw, .ref xr, .ref xg, .int pcv_31, .int trv_32, .int vav_33, .int dnv])), (xw, .inl (c1, 4096, .inl wd_29)), (xr, .inl (c2, 4, .inl rg)), (xg, .inl (c3, 32, .inl rs_30))] H := hP
    have hD : va_D A [(x0, .inr (0, [.ref xw, .ref xr, .ref xg, .int pcv_31, .int trv_32, .int vav_33, .int dnv])), (xw, .inl (c1, 4096, .inl wd_29)), (xr, .inl (c2, 4, .inl rg)), (xg, .inl (c3, 32, .inl rs_30))] := hD
    exact W.zret (v := r_27) (ty := .boolean) hx hb hr b_28 (fun t ht hW => ⟨⟨_, (wd_29, rs_30, pcv_31, trv_32, vav_33), rfl, ⟨b_28, (by unfold F_store; rw [if_neg c_2]; exact hw)⟩, by rw [ht]; exact hP, va_K.moved hW.alike hK, hD⟩, hS.F ht⟩) hS.2.2 dX0_store_15
def F_load (wd : Nat → Int32) (rg : Nat → Int32) (rs : Nat → Int32) (pcv : Int32) (trv : Int32) (vav : Int32) (a1 : Int32) : Int32 × (Nat → Int32) × (Nat → Int32) × Int32 × Int32 × Int32 :=
  if (F_partF a1) = 3 then
    F_refuse wd rg rs pcv trv vav a1
  else
    if (F_partF a1) ≤ 5 then
      if (F_isCrooked ((F_registerA rs a1) + (F_lowImmediate a1)) (1 <<< (((F_partF a1) &&& 3) &&& 31))) = 0 then
        if (F_hasRight rg ((F_registerA rs a1) + (F_lowImmediate a1)) 1) = 0 then
          F_trapWith wd rg rs pcv trv vav 13 ((F_registerA rs a1) + (F_lowImmediate a1))
        else
          F_finish wd rg rs pcv trv vav a1 (F_narrow (F_partF a1) (F_bytesFrom wd ((F_registerA rs a1) + (F_lowImmediate a1))))
      else
        F_trapWith wd rg rs pcv trv vav 4 ((F_registerA rs a1) + (F_lowImmediate a1))
    else
      F_refuse wd rg rs pcv trv vav a1
set_option maxHeartbeats 4000000 in
set_option maxRecDepth 100000 in
theorem c_load (l : Launch) (dC : Nat → ClassId) (dI : Nat → Nat → Nat) (x0 xw xr xg : Nat) (c1 c2 c3 : ClassId) (sz : Nat) (wd : Nat → Int32) (rg : Nat → Int32) (rs : Nat → Int32) (pcv : Int32) (trv : Int32) (vav : Int32) (dnv : Int32) (a1 : Int32)  : Met l yX0_load wsX0_load ({ frames := 2, cells := 0, slots := 0, locals := 44 }) (va_Pc [.ref x0, .int a1] (fun U => U.heap.size = sz ∧ va_P (dC, dI) vwCl [(x0, .inr (0, [.ref xw, .ref xr, .ref xg, .int pcv, .int trv, .int vav, .int dnv])), (xw, .inl (c1, 4096, .inl wd)), (xr, .inl (c2, 4, .inl rg)), (xg, .inl (c3, 32, .inl rs))] U.heap ∧ va_K (dC, dI) vwCl [(c1, .int), (c2, .int), (c3, .int)] U ∧ va_D (fun _ => True) [(x0, .inr (0, [.ref xw, .ref xr, .ref xg, .int pcv, .int trv, .int vav, .int dnv])), (xw, .inl (c1, 4096, .inl wd)), (xr, .inl (c2, 4, .inl rg)), (xg, .inl (c3, 32, .inl rs))])) (va_Qi (fun (r : Int32) (u : (Nat → Int32) × (Nat → Int32) × Int32 × Int32 × Int32) => narrow .boolean (.int r) = .int r ∧ (r, u) = F_load wd rg rs pcv trv vav a1) (fun (u : (Nat → Int32) × (Nat → Int32) × Int32 × Int32 × Int32) (t : State) => va_P (dC, dI) vwCl [(x0, .inr (0, [.ref xw, .ref xr, .ref xg, .int u.2.2.1, .int u.2.2.2.1, .int u.2.2.2.2, .int dnv])), (xw, .inl (c1, 4096, .inl u.1)), (xr, .inl (c2, 4, .inl rg)), (xg, .inl (c3, 32, .inl u.2.1))] t.heap ∧ va_K (dC, dI) vwCl [(c1, .int), (c2, .int), (c3, .int)] t ∧ va_D (va_A [(x0, .inr (0, [.ref xw, .ref xr, .ref xg, .int pcv, .int trv, .int vav, .int dnv])), (xw, .inl (c1, 4096, .inl wd)), (xr, .inl (c2, 4, .inl rg)), (xg, .inl (c3, 32, .inl rs))] sz) [(x0, .inr (0, [.ref xw, .ref xr, .ref xg, .int u.2.2.1, .int u.2.2.2.1, .int u.2.2.2.2, .int dnv])), (xw, .inl (c1, 4096, .inl u.1)), (xr, .inl (c2, 4, .inl rg)), (xg, .inl (c3, 32, .inl u.2.1))]) (va_A [(x0, .inr (0, [.ref xw, .ref xr, .ref xg, .int pcv, .int trv, .int vav, .int dnv])), (xw, .inl (c1, 4096, .inl wd)), (xr, .inl (c2, 4, .inl rg)), (xg, .inl (c3, 32, .inl rs))] sz)) 0 0 (va_A [(x0, .inr (0, [.ref xw, .ref xr, .ref xg, .int pcv, .int trv, .int vav, .int dnv])), (xw, .inl (c1, 4096, .inl wd)), (xr, .inl (c2, 4, .inl rg)), (xg, .inl (c3, 32, .inl rs))] sz) := by
  refine Met.ofW (cc := cX0_load) (maxL := 4) (ret := (some .boolean)) (by decide) rfl ?_
  intro p e s m args below meth c s₁ B hml hv
  obtain ⟨rfl, hsz, hP, hK, hD0⟩ := hv
  have hx := B.exec
  have hb := B.bytes
  have hr := B.returns
  have hts := atoms_spec (ws := wsX0_load) B.pre
  have hown : s.vm.findClass RX0 = some m.cls := findClass_of_methodNamed B.named
  have hlocks := B.notSynchronized
  subst hsz
  have hD := hD0.self (sz := s.heap.size)
  generalize hAe : va_A [(x0, .inr (0, [.ref xw, .ref xr, .ref xg, .int pcv, .int trv, .int vav, .int dnv])), (xw, .inl (c1, 4096, .inl wd)), (xr, .inl (c2, 4, .inl rg)), (xg, .inl (c3, 32, .inl rs))] s.heap.size = A at hD ⊢
  have hA : ∀ q : Nat, s.heap.size ≤ q → A q := fun q h => by rw [← hAe]; exact Or.inr h
  have hS : va_S A s.heap s.heap [] := va_S.rf
  have hP : va_P (dC, dI) vwCl [(x0, .inr (0, [.ref xw, .ref xr, .ref xg, .int pcv, .int trv, .int vav, .int dnv])), (xw, .inl (c1, 4096, .inl wd)), (xr, .inl (c2, 4, .inl rg)), (xg, .inl (c3, 32, .inl rs))] s.heap := hP
  have hl := lv_entry ([.ref x0, .int a1]) (n := 4) (Nat.le_of_ble_eq_true rfl)
  rw [lg_entry_eq]
  generalize (lg_sl ([.ref x0, .int a1]) ++ List.replicate (4 - (lg_sl ([.ref x0, .int a1])).length) Slot.unset).toArray = ls at hl ⊢
  have hl : lv_has ls 4 [(0, .ref x0), (1, .int a1)] := hl
  refine lv_iload_n hx hb dX0_load_0 rfl (lv_at hl 1 rfl) ?_
  refine vp_callSi (W.runS (As := [.int a1]) (rest := []) ⟨hx, hb, hml, hown, hts⟩ (c_partF l a1) (cwS 1 hts (gS mL_X0_114 mS_X0_partF mN_X0 mC_X0_partF) rfl rfl rfl (by decide +kernel) ⟨Nat.le_of_ble_eq_true rfl, Nat.le_of_ble_eq_true rfl⟩) preEq rfl rfl hl.1 rfl (lv_room (Nat.le_of_ble_eq_true rfl)) dX0_load_1 ⟨Nat.zero_le _, Nat.zero_le _⟩) (fun r_1 hw => ?_)
  subst hw
  refine lv_istore_n (lv' := [(2, .int (F_partF a1)), (0, .ref x0), (1, .int a1)]) hx hb dX0_load_4 rfl hl (by decide) rfl (fun ls hl => ?_)
  refine lv_iload_n hx hb dX0_load_5 rfl (lv_at hl 0 rfl) ?_
  refine lv_iconst (v := 3) hx hb dX0_load_6 (by decide) ?_
  refine lv_icmp_eq (tgt := 15) hx hb dX0_load_7 (by decide) (fun c_2 => ?_) (fun c_2 => ?_)
  · refine lv_aload_n hx hb dX0_load_15 rfl (lv_at hl 1 rfl) ?_
    refine lv_iload_n hx hb dX0_load_16 rfl (lv_at hl 2 rfl) ?_
    have hFc := va_free (wc := [(x0, .inr (0, [.ref xw, .ref xr, .ref xg, .int pcv, .int trv, .int vav, .int dnv])), (xw, .inl (c1, 4096, .inl wd)), (xr, .inl (c2, 4, .inl rg)), (xg, .inl (c3, 32, .inl rs))]) hD hS hA [0, 1, 2, 3] rfl
    refine va_calli (va_runV (As := [.int a1]) (rest := []) ⟨hx, hb, hml, hown, hts⟩ (c_refuse l dC dI x0 xw xr xg c1 c2 c3 s.heap.size wd rg rs pcv trv vav dnv a1) (cwV 1 hts (gV mL_X0_111 mI_X0_refuse mE_X0_refuse mN_X0 mC_X0_refuse) rfl rfl rfl (by decide +kernel) ⟨Nat.le_of_ble_eq_true rfl, Nat.le_of_ble_eq_true rfl⟩) ⟨fun a U g mk q => by obtain ⟨q0, q1, qP, qK, qD⟩ := q; exact ⟨q0, q1, qP, va_K.moved (u := U) (U := U.calling g mk a) (Vm.Alike.refl U.vm) qK, qD⟩, va_recv hK hP (ci := 0) (q0 := 0) rfl rfl, fun U hU hW => ⟨rfl, by rw [hU], by rw [hU]; exact hP, va_K.moved hW.alike hK, hD.weaken (fun _ _ _ _ => trivial)⟩⟩ rfl rfl hl.1 rfl (lv_room (Nat.le_of_ble_eq_true rfl)) dX0_load_17 ⟨Nat.zero_le _, Nat.zero_le _⟩) hS (fun q _ h => hFc q h) hFc (fun r_3 u t H1 locs ht hvm hw hB hz1 hk1 hS => ?_)
    obtain ⟨b_4, hw⟩ := hw
    obtain ⟨wd_5, rs_6, pcv_7, trv_8, vav_9⟩ := u
    obtain ⟨hP1, hK1, hD1⟩ := hB
    rw [ht] at hP1
    obtain ⟨hP, hD⟩ := va_join (wr := []) (w1 := [(x0, .inr (0, [.ref xw, .ref xr, .ref xg, .int pcv_7, .int trv_8, .int vav_9, .int dnv])), (xw, .inl (c1, 4096, .inl wd_5)), (xr, .inl (c2, 4, .inl rg)), (xg, .inl (c3, 32, .inl rs_6))]) hP hD [0, 1, 2, 3] [] rfl rfl (by decide) (by decide) hk1 hFc hP1 hD1
    generalize H1 = H at hP hS ⊢
    have hP : va_P (dC, dI) vwCl [(x0, .inr (0, [.ref xw, .ref xr, .ref xg, .int pcv_7, .int trv_8, .int vav_9, .int dnv])), (xw, .inl (c1, 4096, .inl wd_5)), (xr, .inl (c2, 4, .inl rg)), (xg, .inl (c3, 32, .inl rs_6))] H := hP
    have hD : va_D A [(x0, .inr (0, [.ref xw, .ref xr, .ref xg, .int pcv_7, .int trv_8, .int vav_9, .int dnv])), (xw, .inl (c1, 4096, .inl wd_5)), (xr, .inl (c2, 4, .inl rg)), (xg, .inl (c3, 32, .inl rs_6))] := hD
    exact W.zret (v := r_3) (ty := .boolean) hx hb hr b_4 (fun t ht hW => ⟨⟨_, (wd_5, rs_6, pcv_7, trv_8, vav_9), rfl, ⟨b_4, (by unfold F_load; rw [if_pos c_2]; exact hw)⟩, by rw [ht]; exact hP, va_K.moved hW.alike hK, hD⟩, hS.F ht⟩) hS.2.2 dX0_load_20
  · refine lv_iload_n hx hb dX0_load_10 rfl (lv_at hl 0 rfl) ?_
    refine lv_iconst (v := 5) hx hb dX0_load_11 (by decide) ?_
    refine lv_icmp_le (tgt := 21) hx hb dX0_load_12 (by decide) (fun c_10 => ?_) (fun c_10 => ?_)
    · refine lv_aload_n hx hb dX0_load_21 rfl (lv_at hl 1 rfl) ?_
      refine lv_iload_n hx hb dX0_load_22 rfl (lv_at hl 2 rfl) ?_
      refine vp_callSi (W.runV (As := [.int a1]) (rest := []) ⟨hx, hb, hml, hown, hts⟩ (c_registerA l dC dI x0 xw xr xg c1 c2 c3 wd rg rs pcv trv vav dnv a1) (cwV 1 hts (gV mL_X0_117 mI_X0_registerA mE_X0_registerA mN_X0 mC_X0_registerA) rfl rfl rfl (by decide +kernel) ⟨Nat.le_of_ble_eq_true rfl, Nat.le_of_ble_eq_true rfl⟩) ⟨fun a U g mk q => by obtain ⟨q0, qP, qK⟩ := q; exact ⟨q0, qP, va_K.moved (u := U) (U := U.calling g mk a) (Vm.Alike.refl U.vm) qK⟩, va_recv hK hP (ci := 0) (q0 := 0) rfl rfl, fun U hU hW => ⟨rfl, by rw [hU]; exact hP, va_K.moved hW.alike hK⟩⟩ rfl rfl hl.1 rfl (lv_room (Nat.le_of_ble_eq_true rfl)) dX0_load_23 ⟨Nat.zero_le _, Nat.zero_le _⟩) (fun r_11 hw => ?_)
      subst hw
      refine lv_iload_n hx hb dX0_load_26 rfl (lv_at hl 2 rfl) ?_
      refine vp_callSi (W.runS (As := [.int a1]) (rest := [.int (F_registerA rs a1)]) ⟨hx, hb, hml, hown, hts⟩ (c_lowImmediate l a1) (cwS 1 hts (gS mL_X0_120 mS_X0_lowImmediate mN_X0 mC_X0_lowImmediate) rfl rfl rfl (by decide +kernel) ⟨Nat.le_of_ble_eq_true rfl, Nat.le_of_ble_eq_true rfl⟩) preEq rfl rfl hl.1 rfl (lv_room (Nat.le_of_ble_eq_true rfl)) dX0_load_27 ⟨Nat.zero_le _, Nat.zero_le _⟩) (fun r_12 hw => ?_)
      subst hw
      refine lv_iadd hx hb dX0_load_30 ?_
      refine lv_istore_n (lv' := [(3, .int ((F_registerA rs a1) + (F_lowImmediate a1))), (2, .int (F_partF a1)), (0, .ref x0), (1, .int a1)]) hx hb dX0_load_31 rfl hl (by decide) rfl (fun ls hl => ?_)
      refine lv_iload_n hx hb dX0_load_32 rfl (lv_at hl 0 rfl) ?_
      refine lv_iconst (v := 1) hx hb dX0_load_33 (by decide) ?_
      refine lv_iload_n hx hb dX0_load_34 rfl (lv_at hl 1 rfl) ?_
      refine lv_iconst (v := 3) hx hb dX0_load_35 (by decide) ?_
      refine lv_iand hx hb dX0_load_36 ?_
      refine lv_ishl hx hb dX0_load_37 ?_
      refine vp_callSi (W.runS (As := [.int ((F_registerA rs a1) + (F_lowImmediate a1)), .int (1 <<< (((F_partF a1) &&& 3) &&& 31))]) (rest := []) ⟨hx, hb, hml, hown, hts⟩ (c_isCrooked l ((F_registerA rs a1) + (F_lowImmediate a1)) (1 <<< (((F_partF a1) &&& 3) &&& 31))) (cwS 2 hts (gS mL_X0_62 mS_X0_isCrooked mN_X0 mC_X0_isCrooked) rfl rfl rfl (by decide +kernel) ⟨Nat.le_of_ble_eq_true rfl, Nat.le_of_ble_eq_true rfl⟩) preEq rfl rfl hl.1 rfl (lv_room (Nat.le_of_ble_eq_true rfl)) dX0_load_38 ⟨Nat.zero_le _, Nat.zero_le _⟩) (fun r_13 hw => ?_)
      obtain ⟨b_14, hw⟩ := hw
      subst hw
      refine lv_if_eq (tgt := 51) hx hb dX0_load_41 (by decide) (fun c_15 => ?_) (fun c_15 => ?_)
      · refine lv_aload_n hx hb dX0_load_51 rfl (lv_at hl 2 rfl) ?_
        refine lv_iload_n hx hb dX0_load_52 rfl (lv_at hl 0 rfl) ?_
        refine lv_iconst (v := 1) hx hb dX0_load_53 (by decide) ?_
        refine vp_callSi (W.runV (As := [.int ((F_registerA rs a1) + (F_lowImmediate a1)), .int 1]) (rest := []) ⟨hx, hb, hml, hown, hts⟩ (c_hasRight l dC dI x0 xw xr xg c1 c2 c3 wd rg rs pcv trv vav dnv ((F_registerA rs a1) + (F_lowImmediate a1)) 1) (cwV 2 hts (gV mL_X0_69 mI_X0_hasRight mE_X0_hasRight mN_X0 mC_X0_hasRight) rfl rfl rfl (by decide +kernel) ⟨Nat.le_of_ble_eq_true rfl, Nat.le_of_ble_eq_true rfl⟩) ⟨fun a U g mk q => by obtain ⟨q0, qP, qK⟩ := q; exact ⟨q0, qP, va_K.moved (u := U) (U := U.calling g mk a) (Vm.Alike.refl U.vm) qK⟩, va_recv hK hP (ci := 0) (q0 := 0) rfl rfl, fun U hU hW => ⟨rfl, by rw [hU]; exact hP, va_K.moved hW.alike hK⟩⟩ rfl rfl hl.1 rfl (lv_room (Nat.le_of_ble_eq_true rfl)) dX0_load_54 ⟨Nat.zero_le _, Nat.zero_le _⟩) (fun r_16 hw => ?_)
        obtain ⟨b_17, hw⟩ := hw
        subst hw
        refine lv_if_ne (tgt := 68) hx hb dX0_load_57 (by decide) (fun c_18 => ?_) (fun c_18 => ?_)
        · refine lv_aload_n hx hb dX0_load_68 rfl (lv_at hl 2 rfl) ?_
          refine lv_iload_n hx hb dX0_load_69 rfl (lv_at hl 3 rfl) ?_
          refine lv_iload_n hx hb dX0_load_70 rfl (lv_at hl 1 rfl) ?_
          refine lv_aload_n hx hb dX0_load_71 rfl (lv_at hl 2 rfl) ?_
          refine lv_iload_n hx hb dX0_load_72 rfl (lv_at hl 0 rfl) ?_
          refine vp_callSi (W.runV (As := [.int ((F_registerA rs a1) + (F_lowImmediate a1))]) (rest := [.int (F_partF a1), .int a1, .ref x0]) ⟨hx, hb, hml, hown, hts⟩ (c_bytesFrom l dC dI x0 xw xr xg c1 c2 c3 wd rg rs pcv trv vav dnv ((F_registerA rs a1) + (F_lowImmediate a1)) ((in_has c_18))) (cwV 1 hts (gV mL_X0_40 mI_X0_bytesFrom mE_X0_bytesFrom mN_X0 mC_X0_bytesFrom) rfl rfl rfl (by decide +kernel) ⟨Nat.le_of_ble_eq_true rfl, Nat.le_of_ble_eq_true rfl⟩) ⟨fun a U g mk q => by obtain ⟨q0, qP, qK⟩ := q; exact ⟨q0, qP, va_K.moved (u := U) (U := U.calling g mk a) (Vm.Alike.refl U.vm) qK⟩, va_recv hK hP (ci := 0) (q0 := 0) rfl rfl, fun U hU hW => ⟨rfl, by rw [hU]; exact hP, va_K.moved hW.alike hK⟩⟩ rfl rfl hl.1 rfl (lv_room (Nat.le_of_ble_eq_true rfl)) dX0_load_73 ⟨Nat.zero_le _, Nat.zero_le _⟩) (fun r_19 hw => ?_)
          subst hw
          refine vp_callSi (W.runS (As := [.int (F_partF a1), .int (F_bytesFrom wd ((F_registerA rs a1) + (F_lowImmediate a1)))]) (rest := [.int a1, .ref x0]) ⟨hx, hb, hml, hown, hts⟩ (c_narrow l (F_partF a1) (F_bytesFrom wd ((F_registerA rs a1) + (F_lowImmediate a1)))) (cwS 2 hts (gS mL_X0_133 mS_X0_narrow mN_X0 mC_X0_narrow) rfl rfl rfl (by decide +kernel) ⟨Nat.le_of_ble_eq_true rfl, Nat.le_of_ble_eq_true rfl⟩) preEq rfl rfl hl.1 rfl (lv_room (Nat.le_of_ble_eq_true rfl)) dX0_load_76 ⟨Nat.zero_le _, Nat.zero_le _⟩) (fun r_20 hw => ?_)
          subst hw
          have hFc := va_free (wc := [(x0, .inr (0, [.ref xw, .ref xr, .ref xg, .int pcv, .int trv, .int vav, .int dnv])), (xw, .inl (c1, 4096, .inl wd)), (xr, .inl (c2, 4, .inl rg)), (xg, .inl (c3, 32, .inl rs))]) hD hS hA [0, 1, 2, 3] rfl
          refine va_calli (va_runV (As := [.int a1, .int (F_narrow (F_partF a1) (F_bytesFrom wd ((F_registerA rs a1) + (F_lowImmediate a1))))]) (rest := []) ⟨hx, hb, hml, hown, hts⟩ (c_finish l dC dI x0 xw xr xg c1 c2 c3 s.heap.size wd rg rs pcv trv vav dnv a1 (F_narrow (F_partF a1) (F_bytesFrom wd ((F_registerA rs a1) + (F_lowImmediate a1))))) (cwV 2 hts (gV mL_X0_78 mI_X0_finish mE_X0_finish mN_X0 mC_X0_finish) rfl rfl rfl (by decide +kernel) ⟨Nat.le_of_ble_eq_true rfl, Nat.le_of_ble_eq_true rfl⟩) ⟨fun a U g mk q => by obtain ⟨q0, q1, qP, qK, qD⟩ := q; exact ⟨q0, q1, qP, va_K.moved (u := U) (U := U.calling g mk a) (Vm.Alike.refl U.vm) qK, qD⟩, va_recv hK hP (ci := 0) (q0 := 0) rfl rfl, fun U hU hW => ⟨rfl, by rw [hU], by rw [hU]; exact hP, va_K.moved hW.alike hK, hD.weaken (fun _ _ _ _ => trivial)⟩⟩ rfl rfl hl.1 rfl (lv_room (Nat.le_of_ble_eq_true rfl)) dX0_load_79 ⟨Nat.zero_le _, Nat.zero_le _⟩) hS (fun q _ h => hFc q h) hFc (fun r_21 u t H1 locs ht hvm hw hB hz1 hk1 hS => ?_)
          obtain ⟨b_22, hw⟩ := hw
          obtain ⟨wd_23, rs_24, pcv_25, trv_26, vav_27⟩ := u
          obtain ⟨hP1, hK1, hD1⟩ := hB
          rw [ht] at hP1
          obtain ⟨hP, hD⟩ := va_join (wr := []) (w1 := [(x0, .inr (0, [.ref xw, .ref xr, .ref xg, .int pcv_25, .int trv_26, .int vav_27, .int dnv])), (xw, .inl (c1, 4096, .inl wd_23)), (xr, .inl (c2, 4, .inl rg)), (xg, .inl (c3, 32, .inl rs_24))]) hP hD [0, 1, 2, 3] [] rfl rfl (by decide) (by decide) hk1 hFc hP1 hD1
          generalize H1 = H at hP hS ⊢
          have hP : va_P (dC, dI) vwCl [(x0, .inr (0, [.ref xw, .ref xr, .ref xg, .int pcv_25, .int trv_26, .int vav_27, .int dnv])), (xw, .inl (c1, 4096, .inl wd_23)), (xr, .inl (c2, 4, .inl rg)), (xg, .inl (c3, 32, .inl rs_24))] H := hP
          have hD : va_D A [(x0, .inr (0, [.ref xw, .ref xr, .ref xg, .int pcv_25, .int trv_26, .int vav_27, .int dnv])), (xw, .inl (c1, 4096, .inl wd_23)), (xr, .inl (c2, 4, .inl rg)), (xg, .inl (c3, 32, .inl rs_24))] := hD
          exact W.zret (v := r_21) (ty := .boolean) hx hb hr b_22 (fun t ht hW => ⟨⟨_, (wd_23, rs_24, pcv_25, trv_26, vav_27), rfl, ⟨b_22, (by unfold F_load; rw [if_neg c_2, if_pos c_10, if_pos c_15, if_neg c_18]; exact hw)⟩, by rw [ht]; exact hP, va_K.moved hW.alike hK, hD⟩, hS.F ht⟩) hS.2.2 dX0_load_82
        · refine lv_aload_n hx hb dX0_load_60 rfl (lv_at hl 2 rfl) ?_
          refine lv_bipush (v := 13) hx hb dX0_load_61 (by decide) ?_
          refine lv_iload_n hx hb dX0_load_63 rfl (lv_at hl 0 rfl) ?_
          have hFc := va_free (wc := [(x0, .inr (0, [.ref xw, .ref xr, .ref xg, .int pcv, .int trv, .int vav, .int dnv])), (xw, .inl (c1, 4096, .inl wd)), (xr, .inl (c2, 4, .inl rg)), (xg, .inl (c3, 32, .inl rs))]) hD hS hA [0, 1, 2, 3] rfl
          refine va_calli (va_runV (As := [.int 13, .int ((F_registerA rs a1) + (F_lowImmediate a1))]) (rest := []) ⟨hx, hb, hml, hown, hts⟩ (c_trapWith l dC dI x0 xw xr xg c1 c2 c3 s.heap.size wd rg rs pcv trv vav dnv 13 ((F_registerA rs a1) + (F_lowImmediate a1))) (cwV 2 hts (gV mL_X0_66 mI_X0_trapWith mE_X0_trapWith mN_X0 mC_X0_trapWith) rfl rfl rfl (by decide +kernel) ⟨Nat.le_of_ble_eq_true rfl, Nat.le_of_ble_eq_true rfl⟩) ⟨fun a U g mk q => by obtain ⟨q0, q1, qP, qK, qD⟩ := q; exact ⟨q0, q1, qP, va_K.moved (u := U) (U := U.calling g mk a) (Vm.Alike.refl U.vm) qK, qD⟩, va_recv hK hP (ci := 0) (q0 := 0) rfl rfl, fun U hU hW => ⟨rfl, by rw [hU], by rw [hU]; exact hP, va_K.moved hW.alike hK, hD.weaken (fun _ _ _ _ => trivial)⟩⟩ rfl rfl hl.1 rfl (lv_room (Nat.le_of_ble_eq_true rfl)) dX0_load_64 ⟨Nat.zero_le _, Nat.zero_le _⟩) hS (fun q _ h => hFc q h) hFc (fun r_28 u t H1 locs ht hvm hw hB hz1 hk1 hS => ?_)
          obtain ⟨b_29, hw⟩ := hw
          obtain ⟨wd_30, rs_31, pcv_32, trv_33, vav_34⟩ := u
          obtain ⟨hP1, hK1, hD1⟩ := hB
          rw [ht] at hP1
          obtain ⟨hP, hD⟩ := va_join (wr := []) (w1 := [(x0, .inr (0, [.ref xw, .ref xr, .ref xg, .int pcv_32, .int trv_33, .int vav_34, .int dnv])), (xw, .inl (c1, 4096, .inl wd_30)), (xr, .inl (c2, 4, .inl rg)), (xg, .inl (c3, 32, .inl rs_31))]) hP hD [0, 1, 2, 3] [] rfl rfl (by decide) (by decide) hk1 hFc hP1 hD1
          generalize H1 = H at hP hS ⊢
          have hP : va_P (dC, dI) vwCl [(x0, .inr (0, [.ref xw, .ref xr, .ref xg, .int pcv_32, .int trv_33, .int vav_34, .int dnv])), (xw, .inl (c1, 4096, .inl wd_30)), (xr, .inl (c2, 4, .inl rg)), (xg, .inl (c3, 32, .inl rs_31))] H := hP
          have hD : va_D A [(x0, .inr (0, [.ref xw, .ref xr, .ref xg, .int pcv_32, .int trv_33, .int vav_34, .int dnv])), (xw, .inl (c1, 4096, .inl wd_30)), (xr, .inl (c2, 4, .inl rg)), (xg, .inl (c3, 32, .inl rs_31))] := hD
          exact W.zret (v := r_28) (ty := .boolean) hx hb hr b_29 (fun t ht hW => ⟨⟨_, (wd_30, rs_31, pcv_32, trv_33, vav_34), rfl, ⟨b_29, (by unfold F_load; rw [if_neg c_2, if_pos c_10, if_pos c_15, if_pos c_18]; exact hw)⟩, by rw [ht]; exact hP, va_K.moved hW.alike hK, hD⟩, hS.F ht⟩) hS.2.2 dX0_load_67
      · refine lv_aload_n hx hb dX0_load_44 rfl (lv_at hl 2 rfl) ?_
        refine lv_iconst (v := 4) hx hb dX0_load_45 (by decide) ?_
        refine lv_iload_n hx hb dX0_load_46 rfl (lv_at hl 0 rfl) ?_
        have hFc := va_free (wc := [(x0, .inr (0, [.ref xw, .ref xr, .ref xg, .int pcv, .int trv, .int vav, .int dnv])), (xw, .inl (c1, 4096, .inl wd)), (xr, .inl (c2, 4, .inl rg)), (xg, .inl (c3, 32, .inl rs))]) hD hS hA [0, 1, 2, 3] rfl
        refine va_calli (va_runV (As := [.int 4, .int ((F_registerA rs a1) + (F_lowImmediate a1))]) (rest := []) ⟨hx, hb, hml, hown, hts⟩ (c_trapWith l dC dI x0 xw xr xg c1 c2 c3 s.heap.size wd rg rs pcv trv vav dnv 4 ((F_registerA rs a1) + (F_lowImmediate a1))) (cwV 2 hts (gV mL_X0_66 mI_X0_trapWith mE_X0_trapWith mN_X0 mC_X0_trapWith) rfl rfl rfl (by decide +kernel) ⟨Nat.le_of_ble_eq_true rfl, Nat.le_of_ble_eq_true rfl⟩) ⟨fun a U g mk q => by obtain ⟨q0, q1, qP, qK, qD⟩ := q; exact ⟨q0, q1, qP, va_K.moved (u := U) (U := U.calling g mk a) (Vm.Alike.refl U.vm) qK, qD⟩, va_recv hK hP (ci := 0) (q0 := 0) rfl rfl, fun U hU hW => ⟨rfl, by rw [hU], by rw [hU]; exact hP, va_K.moved hW.alike hK, hD.weaken (fun _ _ _ _ => trivial)⟩⟩ rfl rfl hl.1 rfl (lv_room (Nat.le_of_ble_eq_true rfl)) dX0_load_47 ⟨Nat.zero_le _, Nat.zero_le _⟩) hS (fun q _ h => hFc q h) hFc (fun r_35 u t H1 locs ht hvm hw hB hz1 hk1 hS => ?_)
        obtain ⟨b_36, hw⟩ := hw
        obtain ⟨wd_37, rs_38, pcv_39, trv_40, vav_41⟩ := u
        obtain ⟨hP1, hK1, hD1⟩ := hB
        rw [ht] at hP1
        obtain ⟨hP, hD⟩ := va_join (wr := []) (w1 := [(x0, .inr (0, [.ref xw, .ref xr, .ref xg, .int pcv_39, .int trv_40, .int vav_41, .int dnv])), (xw, .inl (c1, 4096, .inl wd_37)), (xr, .inl (c2, 4, .inl rg)), (xg, .inl (c3, 32, .inl rs_38))]) hP hD [0, 1, 2, 3] [] rfl rfl (by decide) (by decide) hk1 hFc hP1 hD1
        generalize H1 = H at hP hS ⊢
        have hP : va_P (dC, dI) vwCl [(x0, .inr (0, [.ref xw, .ref xr, .ref xg, .int pcv_39, .int trv_40, .int vav_41, .int dnv])), (xw, .inl (c1, 4096, .inl wd_37)), (xr, .inl (c2, 4, .inl rg)), (xg, .inl (c3, 32, .inl rs_38))] H := hP
        have hD : va_D A [(x0, .inr (0, [.ref xw, .ref xr, .ref xg, .int pcv_39, .int trv_40, .int vav_41, .int dnv])), (xw, .inl (c1, 4096, .inl wd_37)), (xr, .inl (c2, 4, .inl rg)), (xg, .inl (c3, 32, .inl rs_38))] := hD
        exact W.zret (v := r_35) (ty := .boolean) hx hb hr b_36 (fun t ht hW => ⟨⟨_, (wd_37, rs_38, pcv_39, trv_40, vav_41), rfl, ⟨b_36, (by unfold F_load; rw [if_neg c_2, if_pos c_10, if_neg c_15]; exact hw)⟩, by rw [ht]; exact hP, va_K.moved hW.alike hK, hD⟩, hS.F ht⟩) hS.2.2 dX0_load_50
    · refine lv_aload_n hx hb dX0_load_15 rfl (lv_at hl 1 rfl) ?_
      refine lv_iload_n hx hb dX0_load_16 rfl (lv_at hl 2 rfl) ?_
      have hFc := va_free (wc := [(x0, .inr (0, [.ref xw, .ref xr, .ref xg, .int pcv, .int trv, .int vav, .int dnv])), (xw, .inl (c1, 4096, .inl wd)), (xr, .inl (c2, 4, .inl rg)), (xg, .inl (c3, 32, .inl rs))]) hD hS hA [0, 1, 2, 3] rfl
      refine va_calli (va_runV (As := [.int a1]) (rest := []) ⟨hx, hb, hml, hown, hts⟩ (c_refuse l dC dI x0 xw xr xg c1 c2 c3 s.heap.size wd rg rs pcv trv vav dnv a1) (cwV 1 hts (gV mL_X0_111 mI_X0_refuse mE_X0_refuse mN_X0 mC_X0_refuse) rfl rfl rfl (by decide +kernel) ⟨Nat.le_of_ble_eq_true rfl, Nat.le_of_ble_eq_true rfl⟩) ⟨fun a U g mk q => by obtain ⟨q0, q1, qP, qK, qD⟩ := q; exact ⟨q0, q1, qP, va_K.moved (u := U) (U := U.calling g mk a) (Vm.Alike.refl U.vm) qK, qD⟩, va_recv hK hP (ci := 0) (q0 := 0) rfl rfl, fun U hU hW => ⟨rfl, by rw [hU], by rw [hU]; exact hP, va_K.moved hW.alike hK, hD.weaken (fun _ _ _ _ => trivial)⟩⟩ rfl rfl hl.1 rfl (lv_room (Nat.le_of_ble_eq_true rfl)) dX0_load_17 ⟨Nat.zero_le _, Nat.zero_le _⟩) hS (fun q _ h => hFc q h) hFc (fun r_42 u t H1 locs ht hvm hw hB hz1 hk1 hS => ?_)
      obtain ⟨b_43, hw⟩ := hw
      obtain ⟨wd_44, rs_45, pcv_46, trv_47, vav_48⟩ := u
      obtain ⟨hP1, hK1, hD1⟩ := hB
      rw [ht] at hP1
      obtain ⟨hP, hD⟩ := va_join (wr := []) (w1 := [(x0, .inr (0, [.ref xw, .ref xr, .ref xg, .int pcv_46, .int trv_47, .int vav_48, .int dnv])), (xw, .inl (c1, 4096, .inl wd_44)), (xr, .inl (c2, 4, .inl rg)), (xg, .inl (c3, 32, .inl rs_45))]) hP hD [0, 1, 2, 3] [] rfl rfl (by decide) (by decide) hk1 hFc hP1 hD1
      generalize H1 = H at hP hS ⊢
      have hP : va_P (dC, dI) vwCl [(x0, .inr (0, [.ref xw, .ref xr, .ref xg, .int pcv_46, .int trv_47, .int vav_48, .int dnv])), (xw, .inl (c1, 4096, .inl wd_44)), (xr, .inl (c2, 4, .inl rg)), (xg, .inl (c3, 32, .inl rs_45))] H := hP
      have hD : va_D A [(x0, .inr (0, [.ref xw, .ref xr, .ref xg, .int pcv_46, .int trv_47, .int vav_48, .int dnv])), (xw, .inl (c1, 4096, .inl wd_44)), (xr, .inl (c2, 4, .inl rg)), (xg, .inl (c3, 32, .inl rs_45))] := hD
      exact W.zret (v := r_42) (ty := .boolean) hx hb hr b_43 (fun t ht hW => ⟨⟨_, (wd_44, rs_45, pcv_46, trv_47, vav_48), rfl, ⟨b_43, (by unfold F_load; rw [if_neg c_2, if_neg c_10]; exact hw)⟩, by rw [ht]; exact hP, va_K.moved hW.alike hK, hD⟩, hS.F ht⟩) hS.2.2 dX0_load_20
def F_branch (wd : Nat → Int32) (rg : Nat → Int32) (rs : Nat → Int32) (pcv : Int32) (trv : Int32) (vav : Int32) (a1 : Int32) : Int32 × (Nat → Int32) × (Nat → Int32) × Int32 × Int32 × Int32 :=
  if (F_partF a1) = 2 then
    F_refuse wd rg rs pcv trv vav a1
  else
    if (F_partF a1) = 3 then
      F_refuse wd rg rs pcv trv vav a1
    else
      if ((F_partF a1) &&& 1) = 1 then
        if (F_compare ((F_partF a1) &&& 6) (F_registerA rs a1) (F_registerB rs a1)) = 1 then
          if (F_isCrooked (pcv + 4) 4) = 0 then
            (1, (wd, rs, pcv + 4, trv, vav))
          else
            F_trapWith wd rg rs pcv trv vav 0 (pcv + 4)
        else
          if (F_isCrooked (pcv + (F_branchImmediate a1)) 4) = 0 then
            (1, (wd, rs, pcv + (F_branchImmediate a1), trv, vav))
          else
            F_trapWith wd rg rs pcv trv vav 0 (pcv + (F_branchImmediate a1))
      else
        if (F_compare ((F_partF a1) &&& 6) (F_registerA rs a1) (F_registerB rs a1)) = 0 then
          if (F_isCrooked (pcv + 4) 4) = 0 then
            (1, (wd, rs, pcv + 4, trv, vav))
          else
            F_trapWith wd rg rs pcv trv vav 0 (pcv + 4)
        else
          if (F_isCrooked (pcv + (F_branchImmediate a1)) 4) = 0 then
            (1, (wd, rs, pcv + (F_branchImmediate a1), trv, vav))
          else
            F_trapWith wd rg rs pcv trv vav 0 (pcv + (F_branchImmediate a1))
set_option maxHeartbeats 4000000 in
set_option maxRecDepth 100000 in
theorem c_branch (l : Launch) (dC : Nat → ClassId) (dI : Nat → Nat → Nat) (x0 xw xr xg : Nat) (c1 c2 c3 : ClassId) (sz : Nat) (wd : Nat → Int32) (rg : Nat → Int32) (rs : Nat → Int32) (pcv : Int32) (trv : Int32) (vav : Int32) (dnv : Int32) (a1 : Int32)  : Met l yX0_branch wsX0_branch ({ frames := 2, cells := 0, slots := 0, locals := 43 }) (va_Pc [.ref x0, .int a1] (fun U => U.heap.size = sz ∧ va_P (dC, dI) vwCl [(x0, .inr (0, [.ref xw, .ref xr, .ref xg, .int pcv, .int trv, .int vav, .int dnv])), (xw, .inl (c1, 4096, .inl wd)), (xr, .inl (c2, 4, .inl rg)), (xg, .inl (c3, 32, .inl rs))] U.heap ∧ va_K (dC, dI) vwCl [(c1, .int), (c2, .int), (c3, .int)] U ∧ va_D (fun _ => True) [(x0, .inr (0, [.ref xw, .ref xr, .ref xg, .int pcv, .int trv, .int vav, .int dnv])), (xw, .inl (c1, 4096, .inl wd)), (xr, .inl (c2, 4, .inl rg)), (xg, .inl (c3, 32, .inl rs))])) (va_Qi (fun (r : Int32) (u : (Nat → Int32) × (Nat → Int32) × Int32 × Int32 × Int32) => narrow .boolean (.int r) = .int r ∧ (r, u) = F_branch wd rg rs pcv trv vav a1) (fun (u : (Nat → Int32) × (Nat → Int32) × Int32 × Int32 × Int32) (t : State) => va_P (dC, dI) vwCl [(x0, .inr (0, [.ref xw, .ref xr, .ref xg, .int u.2.2.1, .int u.2.2.2.1, .int u.2.2.2.2, .int dnv])), (xw, .inl (c1, 4096, .inl u.1)), (xr, .inl (c2, 4, .inl rg)), (xg, .inl (c3, 32, .inl u.2.1))] t.heap ∧ va_K (dC, dI) vwCl [(c1, .int), (c2, .int), (c3, .int)] t ∧ va_D (va_A [(x0, .inr (0, [.ref xw, .ref xr, .ref xg, .int pcv, .int trv, .int vav, .int dnv])), (xw, .inl (c1, 4096, .inl wd)), (xr, .inl (c2, 4, .inl rg)), (xg, .inl (c3, 32, .inl rs))] sz) [(x0, .inr (0, [.ref xw, .ref xr, .ref xg, .int u.2.2.1, .int u.2.2.2.1, .int u.2.2.2.2, .int dnv])), (xw, .inl (c1, 4096, .inl u.1)), (xr, .inl (c2, 4, .inl rg)), (xg, .inl (c3, 32, .inl u.2.1))]) (va_A [(x0, .inr (0, [.ref xw, .ref xr, .ref xg, .int pcv, .int trv, .int vav, .int dnv])), (xw, .inl (c1, 4096, .inl wd)), (xr, .inl (c2, 4, .inl rg)), (xg, .inl (c3, 32, .inl rs))] sz)) 0 0 (va_A [(x0, .inr (0, [.ref xw, .ref xr, .ref xg, .int pcv, .int trv, .int vav, .int dnv])), (xw, .inl (c1, 4096, .inl wd)), (xr, .inl (c2, 4, .inl rg)), (xg, .inl (c3, 32, .inl rs))] sz) := by
  refine Met.ofW (cc := cX0_branch) (maxL := 6) (ret := (some .boolean)) (by decide) rfl ?_
  intro p e s m args below meth c s₁ B hml hv
  obtain ⟨rfl, hsz, hP, hK, hD0⟩ := hv
  have hx := B.exec
  have hb := B.bytes
  have hr := B.returns
  have hts := atoms_spec (ws := wsX0_branch) B.pre
  have hown : s.vm.findClass RX0 = some m.cls := findClass_of_methodNamed B.named
  have hlocks := B.notSynchronized
  subst hsz
  have hD := hD0.self (sz := s.heap.size)
  generalize hAe : va_A [(x0, .inr (0, [.ref xw, .ref xr, .ref xg, .int pcv, .int trv, .int vav, .int dnv])), (xw, .inl (c1, 4096, .inl wd)), (xr, .inl (c2, 4, .inl rg)), (xg, .inl (c3, 32, .inl rs))] s.heap.size = A at hD ⊢
  have hA : ∀ q : Nat, s.heap.size ≤ q → A q := fun q h => by rw [← hAe]; exact Or.inr h
  have hS : va_S A s.heap s.heap [] := va_S.rf
  have hP : va_P (dC, dI) vwCl [(x0, .inr (0, [.ref xw, .ref xr, .ref xg, .int pcv, .int trv, .int vav, .int dnv])), (xw, .inl (c1, 4096, .inl wd)), (xr, .inl (c2, 4, .inl rg)), (xg, .inl (c3, 32, .inl rs))] s.heap := hP
  have hl := lv_entry ([.ref x0, .int a1]) (n := 6) (Nat.le_of_ble_eq_true rfl)
  rw [lg_entry_eq]
  generalize (lg_sl ([.ref x0, .int a1]) ++ List.replicate (6 - (lg_sl ([.ref x0, .int a1])).length) Slot.unset).toArray = ls at hl ⊢
  have hl : lv_has ls 6 [(0, .ref x0), (1, .int a1)] := hl
  refine lv_iload_n hx hb dX0_branch_0 rfl (lv_at hl 1 rfl) ?_
  refine vp_callSi (W.runS (As := [.int a1]) (rest := []) ⟨hx, hb, hml, hown, hts⟩ (c_partF l a1) (cwS 1 hts (gS mL_X0_114 mS_X0_partF mN_X0 mC_X0_partF) rfl rfl rfl (by decide +kernel) ⟨Nat.le_of_ble_eq_true rfl, Nat.le_of_ble_eq_true rfl⟩) preEq rfl rfl hl.1 rfl (lv_room (Nat.le_of_ble_eq_true rfl)) dX0_branch_1 ⟨Nat.zero_le _, Nat.zero_le _⟩) (fun r_1 hw => ?_)
  subst hw
  refine lv_istore_n (lv' := [(2, .int (F_partF a1)), (0, .ref x0), (1, .int a1)]) hx hb dX0_branch_4 rfl hl (by decide) rfl (fun ls hl => ?_)
  refine lv_iload_n hx hb dX0_branch_5 rfl (lv_at hl 0 rfl) ?_
  refine lv_iconst (v := 2) hx hb dX0_branch_6 (by decide) ?_
  refine lv_icmp_eq (tgt := 15) hx hb dX0_branch_7 (by decide) (fun c_2 => ?_) (fun c_2 => ?_)
  · refine lv_aload_n hx hb dX0_branch_15 rfl (lv_at hl 1 rfl) ?_
    refine lv_iload_n hx hb dX0_branch_16 rfl (lv_at hl 2 rfl) ?_
    have hFc := va_free (wc := [(x0, .inr (0, [.ref xw, .ref xr, .ref xg, .int pcv, .int trv, .int vav, .int dnv])), (xw, .inl (c1, 4096, .inl wd)), (xr, .inl (c2, 4, .inl rg)), (xg, .inl (c3, 32, .inl rs))]) hD hS hA [0, 1, 2, 3] rfl
    refine va_calli (va_runV (As := [.int a1]) (rest := []) ⟨hx, hb, hml, hown, hts⟩ (c_refuse l dC dI x0 xw xr xg c1 c2 c3 s.heap.size wd rg rs pcv trv vav dnv a1) (cwV 1 hts (gV mL_X0_111 mI_X0_refuse mE_X0_refuse mN_X0 mC_X0_refuse) rfl rfl rfl (by decide +kernel) ⟨Nat.le_of_ble_eq_true rfl, Nat.le_of_ble_eq_true rfl⟩) ⟨fun a U g mk q => by obtain ⟨q0, q1, qP, qK, qD⟩ := q; exact ⟨q0, q1, qP, va_K.moved (u := U) (U := U.calling g mk a) (Vm.Alike.refl U.vm) qK, qD⟩, va_recv hK hP (ci := 0) (q0 := 0) rfl rfl, fun U hU hW => ⟨rfl, by rw [hU], by rw [hU]; exact hP, va_K.moved hW.alike hK, hD.weaken (fun _ _ _ _ => trivial)⟩⟩ rfl rfl hl.1 rfl (lv_room (Nat.le_of_ble_eq_true rfl)) dX0_branch_17 ⟨Nat.zero_le _, Nat.zero_le _⟩) hS (fun q _ h => hFc q h) hFc (fun r_3 u t H1 locs ht hvm hw hB hz1 hk1 hS => ?_)
    obtain ⟨b_4, hw⟩ := hw
    obtain ⟨wd_5, rs_6, pcv_7, trv_8, vav_9⟩ := u
    obtain ⟨hP1, hK1, hD1⟩ := hB
    rw [ht] at hP1
    obtain ⟨hP, hD⟩ := va_join (wr := []) (w1 := [(x0, .inr (0, [.ref xw, .ref xr, .ref xg, .int pcv_7, .int trv_8, .int vav_9, .int dnv])), (xw, .inl (c1, 4096, .inl wd_5)), (xr, .inl (c2, 4, .inl rg)), (xg, .inl (c3, 32, .inl rs_6))]) hP hD [0, 1, 2, 3] [] rfl rfl (by decide) (by decide) hk1 hFc hP1 hD1
    generalize H1 = H at hP hS ⊢
    have hP : va_P (dC, dI) vwCl [(x0, .inr (0, [.ref xw, .ref xr, .ref xg, .int pcv_7, .int trv_8, .int vav_9, .int dnv])), (xw, .inl (c1, 4096, .inl wd_5)), (xr, .inl (c2, 4, .inl rg)), (xg, .inl (c3, 32, .inl rs_6))] H := hP
    have hD : va_D A [(x0, .inr (0, [.ref xw, .ref xr, .ref xg, .int pcv_7, .int trv_8, .int vav_9, .int dnv])), (xw, .inl (c1, 4096, .inl wd_5)), (xr, .inl (c2, 4, .inl rg)), (xg, .inl (c3, 32, .inl rs_6))] := hD
    exact W.zret (v := r_3) (ty := .boolean) hx hb hr b_4 (fun t ht hW => ⟨⟨_, (wd_5, rs_6, pcv_7, trv_8, vav_9), rfl, ⟨b_4, (by unfold F_branch; rw [if_pos c_2]; exact hw)⟩, by rw [ht]; exact hP, va_K.moved hW.alike hK, hD⟩, hS.F ht⟩) hS.2.2 dX0_branch_20
  · refine lv_iload_n hx hb dX0_branch_10 rfl (lv_at hl 0 rfl) ?_
    refine lv_iconst (v := 3) hx hb dX0_branch_11 (by decide) ?_
    refine lv_icmp_ne (tgt := 21) hx hb dX0_branch_12 (by decide) (fun c_10 => ?_) (fun c_10 => ?_)
    · refine lv_iload_n hx hb dX0_branch_21 rfl (lv_at hl 0 rfl) ?_
      refine lv_iconst (v := 1) hx hb dX0_branch_22 (by decide) ?_
      refine lv_iand hx hb dX0_branch_23 ?_
      refine lv_iconst (v := 1) hx hb dX0_branch_24 (by decide) ?_
      refine lv_icmp_ne (tgt := 32) hx hb dX0_branch_25 (by decide) (fun c_11 => ?_) (fun c_11 => ?_)
      · refine lv_iconst (v := 0) hx hb dX0_branch_32 (by decide) ?_
        refine lv_istore_n (lv' := [(3, .int 0), (2, .int (F_partF a1)), (0, .ref x0), (1, .int a1)]) hx hb dX0_branch_33 rfl hl (by decide) rfl (fun ls hl => ?_)
        refine lv_iload_n hx hb dX0_branch_34 rfl (lv_at hl 1 rfl) ?_
        refine lv_bipush (v := 6) hx hb dX0_branch_35 (by decide) ?_
        refine lv_iand hx hb dX0_branch_37 ?_
        refine lv_aload_n hx hb dX0_branch_38 rfl (lv_at hl 2 rfl) ?_
        refine lv_iload_n hx hb dX0_branch_39 rfl (lv_at hl 3 rfl) ?_
        refine vp_callSi (W.runV (As := [.int a1]) (rest := [.int ((F_partF a1) &&& 6)]) ⟨hx, hb, hml, hown, hts⟩ (c_registerA l dC dI x0 xw xr xg c1 c2 c3 wd rg rs pcv trv vav dnv a1) (cwV 1 hts (gV mL_X0_117 mI_X0_registerA mE_X0_registerA mN_X0 mC_X0_registerA) rfl rfl rfl (by decide +kernel) ⟨Nat.le_of_ble_eq_true rfl, Nat.le_of_ble_eq_true rfl⟩) ⟨fun a U g mk q => by obtain ⟨q0, qP, qK⟩ := q; exact ⟨q0, qP, va_K.moved (u := U) (U := U.calling g mk a) (Vm.Alike.refl U.vm) qK⟩, va_recv hK hP (ci := 0) (q0 := 0) rfl rfl, fun U hU hW => ⟨rfl, by rw [hU]; exact hP, va_K.moved hW.alike hK⟩⟩ rfl rfl hl.1 rfl (lv_room (Nat.le_of_ble_eq_true rfl)) dX0_branch_40 ⟨Nat.zero_le _, Nat.zero_le _⟩) (fun r_12 hw => ?_)
        subst hw
        refine lv_aload_n hx hb dX0_branch_43 rfl (lv_at hl 2 rfl) ?_
        refine lv_iload_n hx hb dX0_branch_44 rfl (lv_at hl 3 rfl) ?_
        refine vp_callSi (W.runV (As := [.int a1]) (rest := [.int (F_registerA rs a1), .int ((F_partF a1) &&& 6)]) ⟨hx, hb, hml, hown, hts⟩ (c_registerB l dC dI x0 xw xr xg c1 c2 c3 wd rg rs pcv trv vav dnv a1) (cwV 1 hts (gV mL_X0_123 mI_X0_registerB mE_X0_registerB mN_X0 mC_X0_registerB) rfl rfl rfl (by decide +kernel) ⟨Nat.le_of_ble_eq_true rfl, Nat.le_of_ble_eq_true rfl⟩) ⟨fun a U g mk q => by obtain ⟨q0, qP, qK⟩ := q; exact ⟨q0, qP, va_K.moved (u := U) (U := U.calling g mk a) (Vm.Alike.refl U.vm) qK⟩, va_recv hK hP (ci := 0) (q0 := 0) rfl rfl, fun U hU hW => ⟨rfl, by rw [hU]; exact hP, va_K.moved hW.alike hK⟩⟩ rfl rfl hl.1 rfl (lv_room (Nat.le_of_ble_eq_true rfl)) dX0_branch_45 ⟨Nat.zero_le _, Nat.zero_le _⟩) (fun r_13 hw => ?_)
        subst hw
        refine vp_callSi (W.runS (As := [.int ((F_partF a1) &&& 6), .int (F_registerA rs a1), .int (F_registerB rs a1)]) (rest := []) ⟨hx, hb, hml, hown, hts⟩ (c_compare l ((F_partF a1) &&& 6) (F_registerA rs a1) (F_registerB rs a1)) (cwS 3 hts (gS mL_X0_126 mS_X0_compare mN_X0 mC_X0_compare) rfl rfl rfl (by decide +kernel) ⟨Nat.le_of_ble_eq_true rfl, Nat.le_of_ble_eq_true rfl⟩) preEq rfl rfl hl.1 rfl (lv_room (Nat.le_of_ble_eq_true rfl)) dX0_branch_48 ⟨Nat.zero_le _, Nat.zero_le _⟩) (fun r_14 hw => ?_)
        obtain ⟨b_15, hw⟩ := hw
        subst hw
        refine lv_iload_n hx hb dX0_branch_51 rfl (lv_at hl 0 rfl) ?_
        refine lv_icmp_eq (tgt := 59) hx hb dX0_branch_52 (by decide) (fun c_16 => ?_) (fun c_16 => ?_)
        · refine lv_iconst (v := 0) hx hb dX0_branch_59 (by decide) ?_
          refine lv_istore (lv' := [(4, .int 0), (3, .int 0), (2, .int (F_partF a1)), (0, .ref x0), (1, .int a1)]) hx hb dX0_branch_60 hl (by decide) rfl (fun ls hl => ?_)
          refine lv_iload hx hb dX0_branch_62 (lv_at hl 0 rfl) ?_
          refine lv_if_eq (tgt := 79) hx hb dX0_branch_64 (by decide) (fun c_17 => ?_) (fun c_17 => ?_)
          · refine lv_aload_n hx hb dX0_branch_79 rfl (lv_at hl 3 rfl) ?_
            refine va_get (D := (dC, dI)) (ci := 0) (v := .int pcv) (C := RX0) (T := TX0) (N := 7) hx hb hts (gw_lay lay_X0) hown hK hP 0 rfl rfl 3 (by decide) (hts _ (gcons mF_X0_19)) (fun _ h9 => h9) rfl dX0_branch_80 ?_
            refine lv_iconst (v := 4) hx hb dX0_branch_83 (by decide) ?_
            refine lv_iadd hx hb dX0_branch_84 ?_
            refine lv_istore (lv' := [(5, .int (pcv + 4)), (4, .int 0), (3, .int 0), (2, .int (F_partF a1)), (0, .ref x0), (1, .int a1)]) hx hb dX0_branch_85 hl (by decide) rfl (fun ls hl => ?_)
            refine lv_iload hx hb dX0_branch_87 (lv_at hl 0 rfl) ?_
            refine lv_iconst (v := 4) hx hb dX0_branch_89 (by decide) ?_
            refine vp_callSi (W.runS (As := [.int (pcv + 4), .int 4]) (rest := []) ⟨hx, hb, hml, hown, hts⟩ (c_isCrooked l (pcv + 4) 4) (cwS 2 hts (gS mL_X0_62 mS_X0_isCrooked mN_X0 mC_X0_isCrooked) rfl rfl rfl (by decide +kernel) ⟨Nat.le_of_ble_eq_true rfl, Nat.le_of_ble_eq_true rfl⟩) preEq rfl rfl hl.1 rfl (lv_room (Nat.le_of_ble_eq_true rfl)) dX0_branch_90 ⟨Nat.zero_le _, Nat.zero_le _⟩) (fun r_18 hw => ?_)
            obtain ⟨b_19, hw⟩ := hw
            subst hw
            refine lv_if_eq (tgt := 104) hx hb dX0_branch_93 (by decide) (fun c_20 => ?_) (fun c_20 => ?_)
            · refine lv_aload_n hx hb dX0_branch_104 rfl (lv_at hl 4 rfl) ?_
              refine lv_iload hx hb dX0_branch_105 (lv_at hl 0 rfl) ?_
              refine va_put (D := (dC, dI)) (ci := 0) (v := .int (pcv + 4)) (ty := .int) (C := RX0) (T := TX0) (N := 7) hx hb hts (gw_lay lay_X0) tyX0 tyX0_ok nmX0 hown hK hP hD hS 0 rfl rfl 3 (by decide) (hts _ (gcons mF_X0_19)) (fun _ h9 => h9) rfl (by decide +kernel) rfl rfl (Nat.le_of_ble_eq_true rfl) dX0_branch_107 (fun H locs hP hD hS => ?_)
              have hP : va_P (dC, dI) vwCl [(x0, .inr (0, [.ref xw, .ref xr, .ref xg, .int (pcv + 4), .int trv, .int vav, .int dnv])), (xw, .inl (c1, 4096, .inl wd)), (xr, .inl (c2, 4, .inl rg)), (xg, .inl (c3, 32, .inl rs))] H := hP
              have hD : va_D A [(x0, .inr (0, [.ref xw, .ref xr, .ref xg, .int (pcv + 4), .int trv, .int vav, .int dnv])), (xw, .inl (c1, 4096, .inl wd)), (xr, .inl (c2, 4, .inl rg)), (xg, .inl (c3, 32, .inl rs))] := hD
              refine lv_iconst (v := 1) hx hb dX0_branch_110 (by decide) ?_
              exact W.zret (v := 1) (ty := .boolean) hx hb hr rfl (fun t ht hW => ⟨⟨_, (wd, rs, pcv + 4, trv, vav), rfl, ⟨rfl, (by unfold F_branch; rw [if_neg c_2, if_neg c_10, if_neg c_11, if_pos c_16, if_pos c_20])⟩, by rw [ht]; exact hP, va_K.moved hW.alike hK, hD⟩, hS.F ht⟩) hS.2.2 dX0_branch_111
            · refine lv_aload_n hx hb dX0_branch_96 rfl (lv_at hl 4 rfl) ?_
              refine lv_iconst (v := 0) hx hb dX0_branch_97 (by decide) ?_
              refine lv_iload hx hb dX0_branch_98 (lv_at hl 0 rfl) ?_
              have hFc := va_free (wc := [(x0, .inr (0, [.ref xw, .ref xr, .ref xg, .int pcv, .int trv, .int vav, .int dnv])), (xw, .inl (c1, 4096, .inl wd)), (xr, .inl (c2, 4, .inl rg)), (xg, .inl (c3, 32, .inl rs))]) hD hS hA [0, 1, 2, 3] rfl
              refine va_calli (va_runV (As := [.int 0, .int (pcv + 4)]) (rest := []) ⟨hx, hb, hml, hown, hts⟩ (c_trapWith l dC dI x0 xw xr xg c1 c2 c3 s.heap.size wd rg rs pcv trv vav dnv 0 (pcv + 4)) (cwV 2 hts (gV mL_X0_66 mI_X0_trapWith mE_X0_trapWith mN_X0 mC_X0_trapWith) rfl rfl rfl (by decide +kernel) ⟨Nat.le_of_ble_eq_true rfl, Nat.le_of_ble_eq_true rfl⟩) ⟨fun a U g mk q => by obtain ⟨q0, q1, qP, qK, qD⟩ := q; exact ⟨q0, q1, qP, va_K.moved (u := U) (U := U.calling g mk a) (Vm.Alike.refl U.vm) qK, qD⟩, va_recv hK hP (ci := 0) (q0 := 0) rfl rfl, fun U hU hW => ⟨rfl, by rw [hU], by rw [hU]; exact hP, va_K.moved hW.alike hK, hD.weaken (fun _ _ _ _ => trivial)⟩⟩ rfl rfl hl.1 rfl (lv_room (Nat.le_of_ble_eq_true rfl)) dX0_branch_100 ⟨Nat.zero_le _, Nat.zero_le _⟩) hS (fun q _ h => hFc q h) hFc (fun r_21 u t H1 locs ht hvm hw hB hz1 hk1 hS => ?_)
              obtain ⟨b_22, hw⟩ := hw
              obtain ⟨wd_23, rs_24, pcv_25, trv_26, vav_27⟩ := u
              obtain ⟨hP1, hK1, hD1⟩ := hB
              rw [ht] at hP1
              obtain ⟨hP, hD⟩ := va_join (wr := []) (w1 := [(x0, .inr (0, [.ref xw, .ref xr, .ref xg, .int pcv_25, .int trv_26, .int vav_27, .int dnv])), (xw, .inl (c1, 4096, .inl wd_23)), (xr, .inl (c2, 4, .inl rg)), (xg, .inl (c3, 32, .inl rs_24))]) hP hD [0, 1, 2, 3] [] rfl rfl (by decide) (by decide) hk1 hFc hP1 hD1
              generalize H1 = H at hP hS ⊢
              have hP : va_P (dC, dI) vwCl [(x0, .inr (0, [.ref xw, .ref xr, .ref xg, .int pcv_25, .int trv_26, .int vav_27, .int dnv])), (xw, .inl (c1, 4096, .inl wd_23)), (xr, .inl (c2, 4, .inl rg)), (xg, .inl (c3, 32, .inl rs_24))] H := hP
              have hD : va_D A [(x0, .inr (0, [.ref xw, .ref xr, .ref xg, .int pcv_25, .int trv_26, .int vav_27, .int dnv])), (xw, .inl (c1, 4096, .inl wd_23)), (xr, .inl (c2, 4, .inl rg)), (xg, .inl (c3, 32, .inl rs_24))] := hD
              exact W.zret (v := r_21) (ty := .boolean) hx hb hr b_22 (fun t ht hW => ⟨⟨_, (wd_23, rs_24, pcv_25, trv_26, vav_27), rfl, ⟨b_22, (by unfold F_branch; rw [if_neg c_2, if_neg c_10, if_neg c_11, if_pos c_16, if_neg c_20]; exact hw)⟩, by rw [ht]; exact hP, va_K.moved hW.alike hK, hD⟩, hS.F ht⟩) hS.2.2 dX0_branch_103
          · exact absurd (by decide) c_17
        · refine lv_iconst (v := 1) hx hb dX0_branch_55 (by decide) ?_
          refine lv_goto (tgt := 60) hx hb dX0_branch_56 (by decide) ?_
          refine lv_istore (lv' := [(4, .int 1), (3, .int 0), (2, .int (F_partF a1)), (0, .ref x0), (1, .int a1)]) hx hb dX0_branch_60 hl (by decide) rfl (fun ls hl => ?_)
          refine lv_iload hx hb dX0_branch_62 (lv_at hl 0 rfl) ?_
          refine lv_if_eq (tgt := 79) hx hb dX0_branch_64 (by decide) (fun c_28 => ?_) (fun c_28 => ?_)
          · exact absurd c_28 (by decide)
          · refine lv_aload_n hx hb dX0_branch_67 rfl (lv_at hl 3 rfl) ?_
            refine va_get (D := (dC, dI)) (ci := 0) (v := .int pcv) (C := RX0) (T := TX0) (N := 7) hx hb hts (gw_lay lay_X0) hown hK hP 0 rfl rfl 3 (by decide) (hts _ (gcons mF_X0_19)) (fun _ h9 => h9) rfl dX0_branch_68 ?_
            refine lv_iload_n hx hb dX0_branch_71 rfl (lv_at hl 4 rfl) ?_
            refine vp_callSi (W.runS (As := [.int a1]) (rest := [.int pcv]) ⟨hx, hb, hml, hown, hts⟩ (c_branchImmediate l a1) (cwS 1 hts (gS mL_X0_130 mS_X0_branchImmediate mN_X0 mC_X0_branchImmediate) rfl rfl rfl (by decide +kernel) ⟨Nat.le_of_ble_eq_true rfl, Nat.le_of_ble_eq_true rfl⟩) preEq rfl rfl hl.1 rfl (lv_room (Nat.le_of_ble_eq_true rfl)) dX0_branch_72 ⟨Nat.zero_le _, Nat.zero_le _⟩) (fun r_29 hw => ?_)
            subst hw
            refine lv_iadd hx hb dX0_branch_75 ?_
            refine lv_goto (tgt := 85) hx hb dX0_branch_76 (by decide) ?_
            refine lv_istore (lv' := [(5, .int (pcv + (F_branchImmediate a1))), (4, .int 1), (3, .int 0), (2, .int (F_partF a1)), (0, .ref x0), (1, .int a1)]) hx hb dX0_branch_85 hl (by decide) rfl (fun ls hl => ?_)
            refine lv_iload hx hb dX0_branch_87 (lv_at hl 0 rfl) ?_
            refine lv_iconst (v := 4) hx hb dX0_branch_89 (by decide) ?_
            refine vp_callSi (W.runS (As := [.int (pcv + (F_branchImmediate a1)), .int 4]) (rest := []) ⟨hx, hb, hml, hown, hts⟩ (c_isCrooked l (pcv + (F_branchImmediate a1)) 4) (cwS 2 hts (gS mL_X0_62 mS_X0_isCrooked mN_X0 mC_X0_isCrooked) rfl rfl rfl (by decide +kernel) ⟨Nat.le_of_ble_eq_true rfl, Nat.le_of_ble_eq_true rfl⟩) preEq rfl rfl hl.1 rfl (lv_room (Nat.le_of_ble_eq_true rfl)) dX0_branch_90 ⟨Nat.zero_le _, Nat.zero_le _⟩) (fun r_30 hw => ?_)
            obtain ⟨b_31, hw⟩ := hw
            subst hw
            refine lv_if_eq (tgt := 104) hx hb dX0_branch_93 (by decide) (fun c_32 => ?_) (fun c_32 => ?_)
            · refine lv_aload_n hx hb dX0_branch_104 rfl (lv_at hl 4 rfl) ?_
              refine lv_iload hx hb dX0_branch_105 (lv_at hl 0 rfl) ?_
              refine va_put (D := (dC, dI)) (ci := 0) (v := .int (pcv + (F_branchImmediate a1))) (ty := .int) (C := RX0) (T := TX0) (N := 7) hx hb hts (gw_lay lay_X0) tyX0 tyX0_ok nmX0 hown hK hP hD hS 0 rfl rfl 3 (by decide) (hts _ (gcons mF_X0_19)) (fun _ h9 => h9) rfl (by decide +kernel) rfl rfl (Nat.le_of_ble_eq_true rfl) dX0_branch_107 (fun H locs hP hD hS => ?_)
              have hP : va_P (dC, dI) vwCl [(x0, .inr (0, [.ref xw, .ref xr, .ref xg, .int (pcv + (F_branchImmediate a1)), .int trv, .int vav, .int dnv])), (xw, .inl (c1, 4096, .inl wd)), (xr, .inl (c2, 4, .inl rg)), (xg, .inl (c3, 32, .inl rs))] H := hP
              have hD : va_D A [(x0, .inr (0, [.ref xw, .ref xr, .ref xg, .int (pcv + (F_branchImmediate a1)), .int trv, .int vav, .int dnv])), (xw, .inl (c1, 4096, .inl wd)), (xr, .inl (c2, 4, .inl rg)), (xg, .inl (c3, 32, .inl rs))] := hD
              refine lv_iconst (v := 1) hx hb dX0_branch_110 (by decide) ?_
              exact W.zret (v := 1) (ty := .boolean) hx hb hr rfl (fun t ht hW => ⟨⟨_, (wd, rs, pcv + (F_branchImmediate a1), trv, vav), rfl, ⟨rfl, (by unfold F_branch; rw [if_neg c_2, if_neg c_10, if_neg c_11, if_neg c_16, if_pos c_32])⟩, by rw [ht]; exact hP, va_K.moved hW.alike hK, hD⟩, hS.F ht⟩) hS.2.2 dX0_branch_111
            · refine lv_aload_n hx hb dX0_branch_96 rfl (lv_at hl 4 rfl) ?_
              refine lv_iconst (v := 0) hx hb dX0_branch_97 (by decide) ?_
              refine lv_iload hx hb dX0_branch_98 (lv_at hl 0 rfl) ?_
              have hFc := va_free (wc := [(x0, .inr (0, [.ref xw, .ref xr, .ref xg, .int pcv, .int trv, .int vav, .int dnv])), (xw, .inl (c1, 4096, .inl wd)), (xr, .inl (c2, 4, .inl rg)), (xg, .inl (c3, 32, .inl rs))]) hD hS hA [0, 1, 2, 3] rfl
              refine va_calli (va_runV (As := [.int 0, .int (pcv + (F_branchImmediate a1))]) (rest := []) ⟨hx, hb, hml, hown, hts⟩ (c_trapWith l dC dI x0 xw xr xg c1 c2 c3 s.heap.size wd rg rs pcv trv vav dnv 0 (pcv + (F_branchImmediate a1))) (cwV 2 hts (gV mL_X0_66 mI_X0_trapWith mE_X0_trapWith mN_X0 mC_X0_trapWith) rfl rfl rfl (by decide +kernel) ⟨Nat.le_of_ble_eq_true rfl, Nat.le_of_ble_eq_true rfl⟩) ⟨fun a U g mk q => by obtain ⟨q0, q1, qP, qK, qD⟩ := q; exact ⟨q0, q1, qP, va_K.moved (u := U) (U := U.calling g mk a) (Vm.Alike.refl U.vm) qK, qD⟩, va_recv hK hP (ci := 0) (q0 := 0) rfl rfl, fun U hU hW => ⟨rfl, by rw [hU], by rw [hU]; exact hP, va_K.moved hW.alike hK, hD.weaken (fun _ _ _ _ => trivial)⟩⟩ rfl rfl hl.1 rfl (lv_room (Nat.le_of_ble_eq_true rfl)) dX0_branch_100 ⟨Nat.zero_le _, Nat.zero_le _⟩) hS (fun q _ h => hFc q h) hFc (fun r_33 u t H1 locs ht hvm hw hB hz1 hk1 hS => ?_)
              obtain ⟨b_34, hw⟩ := hw
              obtain ⟨wd_35, rs_36, pcv_37, trv_38, vav_39⟩ := u
              obtain ⟨hP1, hK1, hD1⟩ := hB
              rw [ht] at hP1
              obtain ⟨hP, hD⟩ := va_join (wr := []) (w1 := [(x0, .inr (0, [.ref xw, .ref xr, .ref xg, .int pcv_37, .int trv_38, .int vav_39, .int dnv])), (xw, .inl (c1, 4096, .inl wd_35)), (xr, .inl (c2, 4, .inl rg)), (xg, .inl (c3, 32, .inl rs_36))]) hP hD [0, 1, 2, 3] [] rfl rfl (by decide) (by decide) hk1 hFc hP1 hD1
              generalize H1 = H at hP hS ⊢
              have hP : va_P (dC, dI) vwCl [(x0, .inr (0, [.ref xw, .ref xr, .ref xg, .int pcv_37, .int trv_38, .int vav_39, .int dnv])), (xw, .inl (c1, 4096, .inl wd_35)), (xr, .inl (c2, 4, .inl rg)), (xg, .inl (c3, 32, .inl rs_36))] H := hP
              have hD : va_D A [(x0, .inr (0, [.ref xw, .ref xr, .ref xg, .int pcv_37, .int trv_38, .int vav_39, .int dnv])), (xw, .inl (c1, 4096, .inl wd_35)), (xr, .inl (c2, 4, .inl rg)), (xg, .inl (c3, 32, .inl rs_36))] := hD
              exact W.zret (v := r_33) (ty := .boolean) hx hb hr b_34 (fun t ht hW => ⟨⟨_, (wd_35, rs_36, pcv_37, trv_38, vav_39), rfl, ⟨b_34, (by unfold F_branch; rw [if_neg c_2, if_neg c_10, if_neg c_11, if_neg c_16, if_neg c_32]; exact hw)⟩, by rw [ht]; exact hP, va_K.moved hW.alike hK, hD⟩, hS.F ht⟩) hS.2.2 dX0_branch_103
      · refine lv_iconst (v := 1) hx hb dX0_branch_28 (by decide) ?_
        refine lv_goto (tgt := 33) hx hb dX0_branch_29 (by decide) ?_
        refine lv_istore_n (lv' := [(3, .int 1), (2, .int (F_partF a1)), (0, .ref x0), (1, .int a1)]) hx hb dX0_branch_33 rfl hl (by decide) rfl (fun ls hl => ?_)
        refine lv_iload_n hx hb dX0_branch_34 rfl (lv_at hl 1 rfl) ?_
        refine lv_bipush (v := 6) hx hb dX0_branch_35 (by decide) ?_
        refine lv_iand hx hb dX0_branch_37 ?_
        refine lv_aload_n hx hb dX0_branch_38 rfl (lv_at hl 2 rfl) ?_
        refine lv_iload_n hx hb dX0_branch_39 rfl (lv_at hl 3 rfl) ?_
        refine vp_callSi (W.runV (As := [.int a1]) (rest := [.int ((F_partF a1) &&& 6)]) ⟨hx, hb, hml, hown, hts⟩ (c_registerA l dC dI x0 xw xr xg c1 c2 c3 wd rg rs pcv trv vav dnv a1) (cwV 1 hts (gV mL_X0_117 mI_X0_registerA mE_X0_registerA mN_X0 mC_X0_registerA) rfl rfl rfl (by decide +kernel) ⟨Nat.le_of_ble_eq_true rfl, Nat.le_of_ble_eq_true rfl⟩) ⟨fun a U g mk q => by obtain ⟨q0, qP, qK⟩ := q; exact ⟨q0, qP, va_K.moved (u := U) (U := U.calling g mk a) (Vm.Alike.refl U.vm) qK⟩, va_recv hK hP (ci := 0) (q0 := 0) rfl rfl, fun U hU hW => ⟨rfl, by rw [hU]; exact hP, va_K.moved hW.alike hK⟩⟩ rfl rfl hl.1 rfl (lv_room (Nat.le_of_ble_eq_true rfl)) dX0_branch_40 ⟨Nat.zero_le _, Nat.zero_le _⟩) (fun r_40 hw => ?_)
        subst hw
        refine lv_aload_n hx hb dX0_branch_43 rfl (lv_at hl 2 rfl) ?_
        refine lv_iload_n hx hb dX0_branch_44 rfl (lv_at hl 3 rfl) ?_
        refine vp_callSi (W.runV (As := [.int a1]) (rest := [.int (F_registerA rs a1), .int ((F_partF a1) &&& 6)]) ⟨hx, hb, hml, hown, hts⟩ (c_registerB l dC dI x0 xw xr xg c1 c2 c3 wd rg rs pcv trv vav dnv a1) (cwV 1 hts (gV mL_X0_123 mI_X0_registerB mE_X0_registerB mN_X0 mC_X0_registerB) rfl rfl rfl (by decide +kernel) ⟨Nat.le_of_ble_eq_true rfl, Nat.le_of_ble_eq_true rfl⟩) ⟨fun a U g mk q => by obtain ⟨q0, qP, qK⟩ := q; exact ⟨q0, qP, va_K.moved (u := U) (U := U.calling g mk a) (Vm.Alike.refl U.vm) qK⟩, va_recv hK hP (ci := 0) (q0 := 0) rfl rfl, fun U hU hW => ⟨rfl, by rw [hU]; exact hP, va_K.moved hW.alike hK⟩⟩ rfl rfl hl.1 rfl (lv_room (Nat.le_of_ble_eq_true rfl)) dX0_branch_45 ⟨Nat.zero_le _, Nat.zero_le _⟩) (fun r_41 hw => ?_)
        subst hw
        refine vp_callSi (W.runS (As := [.int ((F_partF a1) &&& 6), .int (F_registerA rs a1), .int (F_registerB rs a1)]) (rest := []) ⟨hx, hb, hml, hown, hts⟩ (c_compare l ((F_partF a1) &&& 6) (F_registerA rs a1) (F_registerB rs a1)) (cwS 3 hts (gS mL_X0_126 mS_X0_compare mN_X0 mC_X0_compare) rfl rfl rfl (by decide +kernel) ⟨Nat.le_of_ble_eq_true rfl, Nat.le_of_ble_eq_true rfl⟩) preEq rfl rfl hl.1 rfl (lv_room (Nat.le_of_ble_eq_true rfl)) dX0_branch_48 ⟨Nat.zero_le _, Nat.zero_le _⟩) (fun r_42 hw => ?_)
        obtain ⟨b_43, hw⟩ := hw
        subst hw
        refine lv_iload_n hx hb dX0_branch_51 rfl (lv_at hl 0 rfl) ?_
        refine lv_icmp_eq (tgt := 59) hx hb dX0_branch_52 (by decide) (fun c_44 => ?_) (fun c_44 => ?_)
        · refine lv_iconst (v := 0) hx hb dX0_branch_59 (by decide) ?_
          refine lv_istore (lv' := [(4, .int 0), (3, .int 1), (2, .int (F_partF a1)), (0, .ref x0), (1, .int a1)]) hx hb dX0_branch_60 hl (by decide) rfl (fun ls hl => ?_)
          refine lv_iload hx hb dX0_branch_62 (lv_at hl 0 rfl) ?_
          refine lv_if_eq (tgt := 79) hx hb dX0_branch_64 (by decide) (fun c_45 => ?_) (fun c_45 => ?_)
          · refine lv_aload_n hx hb dX0_branch_79 rfl (lv_at hl 3 rfl) ?_
            refine va_get (D := (dC, dI)) (ci := 0) (v := .int pcv) (C := RX0) (T := TX0) (N := 7) hx hb hts (gw_lay lay_X0) hown hK hP 0 rfl rfl 3 (by decide) (hts _ (gcons mF_X0_19)) (fun _ h9 => h9) rfl dX0_branch_80 ?_
            refine lv_iconst (v := 4) hx hb dX0_branch_83 (by decide) ?_
            refine lv_iadd hx hb dX0_branch_84 ?_
            refine lv_istore (lv' := [(5, .int (pcv + 4)), (4, .int 0), (3, .int 1), (2, .int (F_partF a1)), (0, .ref x0), (1, .int a1)]) hx hb dX0_branch_85 hl (by decide) rfl (fun ls hl => ?_)
            refine lv_iload hx hb dX0_branch_87 (lv_at hl 0 rfl) ?_
            refine lv_iconst (v := 4) hx hb dX0_branch_89 (by decide) ?_
            refine vp_callSi (W.runS (As := [.int (pcv + 4), .int 4]) (rest := []) ⟨hx, hb, hml, hown, hts⟩ (c_isCrooked l (pcv + 4) 4) (cwS 2 hts (gS mL_X0_62 mS_X0_isCrooked mN_X0 mC_X0_isCrooked) rfl rfl rfl (by decide +kernel) ⟨Nat.le_of_ble_eq_true rfl, Nat.le_of_ble_eq_true rfl⟩) preEq rfl rfl hl.1 rfl (lv_room (Nat.le_of_ble_eq_true rfl)) dX0_branch_90 ⟨Nat.zero_le _, Nat.zero_le _⟩) (fun r_46 hw => ?_)
            obtain ⟨b_47, hw⟩ := hw
            subst hw
            refine lv_if_eq (tgt := 104) hx hb dX0_branch_93 (by decide) (fun c_48 => ?_) (fun c_48 => ?_)
            · refine lv_aload_n hx hb dX0_branch_104 rfl (lv_at hl 4 rfl) ?_
              refine lv_iload hx hb dX0_branch_105 (lv_at hl 0 rfl) ?_
              refine va_put (D := (dC, dI)) (ci := 0) (v := .int (pcv + 4)) (ty := .int) (C := RX0) (T := TX0) (N := 7) hx hb hts (gw_lay lay_X0) tyX0 tyX0_ok nmX0 hown hK hP hD hS 0 rfl rfl 3 (by decide) (hts _ (gcons mF_X0_19)) (fun _ h9 => h9) rfl (by decide +kernel) rfl rfl (Nat.le_of_ble_eq_true rfl) dX0_branch_107 (fun H locs hP hD hS => ?_)
              have hP : va_P (dC, dI) vwCl [(x0, .inr (0, [.ref xw, .ref xr, .ref xg, .int (pcv + 4), .int trv, .int vav, .int dnv])), (xw, .inl (c1, 4096, .inl wd)), (xr, .inl (c2, 4, .inl rg)), (xg, .inl (c3, 32, .inl rs))] H := hP
              have hD : va_D A [(x0, .inr (0, [.ref xw, .ref xr, .ref xg, .int (pcv + 4), .int trv, .int vav, .int dnv])), (xw, .inl (c1, 4096, .inl wd)), (xr, .inl (c2, 4, .inl rg)), (xg, .inl (c3, 32, .inl rs))] := hD
              refine lv_iconst (v := 1) hx hb dX0_branch_110 (by decide) ?_
              exact W.zret (v := 1) (ty := .boolean) hx hb hr rfl (fun t ht hW => ⟨⟨_, (wd, rs, pcv + 4, trv, vav), rfl, ⟨rfl, (by unfold F_branch; rw [if_neg c_2, if_neg c_10, if_pos c_11, if_pos c_44, if_pos c_48])⟩, by rw [ht]; exact hP, va_K.moved hW.alike hK, hD⟩, hS.F ht⟩) hS.2.2 dX0_branch_111
            · refine lv_aload_n hx hb dX0_branch_96 rfl (lv_at hl 4 rfl) ?_
              refine lv_iconst (v := 0) hx hb dX0_branch_97 (by decide) ?_
              refine lv_iload hx hb dX0_branch_98 (lv_at hl 0 rfl) ?_
              have hFc := va_free (wc := [(x0, .inr (0, [.ref xw, .ref xr, .ref xg, .int pcv, .int trv, .int vav, .int dnv])), (xw, .inl (c1, 4096, .inl wd)), (xr, .inl (c2, 4, .inl rg)), (xg, .inl (c3, 32, .inl rs))]) hD hS hA [0, 1, 2, 3] rfl
              refine va_calli (va_runV (As := [.int 0, .int (pcv + 4)]) (rest := []) ⟨hx, hb, hml, hown, hts⟩ (c_trapWith l dC dI x0 xw xr xg c1 c2 c3 s.heap.size wd rg rs pcv trv vav dnv 0 (pcv + 4)) (cwV 2 hts (gV mL_X0_66 mI_X0_trapWith mE_X0_trapWith mN_X0 mC_X0_trapWith) rfl rfl rfl (by decide +kernel) ⟨Nat.le_of_ble_eq_true rfl, Nat.le_of_ble_eq_true rfl⟩) ⟨fun a U g mk q => by obtain ⟨q0, q1, qP, qK, qD⟩ := q; exact ⟨q0, q1, qP, va_K.moved (u := U) (U := U.calling g mk a) (Vm.Alike.refl U.vm) qK, qD⟩, va_recv hK hP (ci := 0) (q0 := 0) rfl rfl, fun U hU hW => ⟨rfl, by rw [hU], by rw [hU]; exact hP, va_K.moved hW.alike hK, hD.weaken (fun _ _ _ _ => trivial)⟩⟩ rfl rfl hl.1 rfl (lv_room (Nat.le_of_ble_eq_true rfl)) dX0_branch_100 ⟨Nat.zero_le _, Nat.zero_le _⟩) hS (fun q _ h => hFc q h) hFc (fun r_49 u t H1 locs ht hvm hw hB hz1 hk1 hS => ?_)
              obtain ⟨b_50, hw⟩ := hw
              obtain ⟨wd_51, rs_52, pcv_53, trv_54, vav_55⟩ := u
              obtain ⟨hP1, hK1, hD1⟩ := hB
              rw [ht] at hP1
              obtain ⟨hP, hD⟩ := va_join (wr := []) (w1 := [(x0, .inr (0, [.ref xw, .ref xr, .ref xg, .int pcv_53, .int trv_54, .int vav_55, .int dnv])), (xw, .inl (c1, 4096, .inl wd_51)), (xr, .inl (c2, 4, .inl rg)), (xg, .inl (c3, 32, .inl rs_52))]) hP hD [0, 1, 2, 3] [] rfl rfl (by decide) (by decide) hk1 hFc hP1 hD1
              generalize H1 = H at hP hS ⊢
              have hP : va_P (dC, dI) vwCl [(x0, .inr (0, [.ref xw, .ref xr, .ref xg, .int pcv_53, .int trv_54, .int vav_55, .int dnv])), (xw, .inl (c1, 4096, .inl wd_51)), (xr, .inl (c2, 4, .inl rg)), (xg, .inl (c3, 32, .inl rs_52))] H := hP
              have hD : va_D A [(x0, .inr (0, [.ref xw, .ref xr, .ref xg, .int pcv_53, .int trv_54, .int vav_55, .int dnv])), (xw, .inl (c1, 4096, .inl wd_51)), (xr, .inl (c2, 4, .inl rg)), (xg, .inl (c3, 32, .inl rs_52))] := hD
              exact W.zret (v := r_49) (ty := .boolean) hx hb hr b_50 (fun t ht hW => ⟨⟨_, (wd_51, rs_52, pcv_53, trv_54, vav_55), rfl, ⟨b_50, (by unfold F_branch; rw [if_neg c_2, if_neg c_10, if_pos c_11, if_pos c_44, if_neg c_48]; exact hw)⟩, by rw [ht]; exact hP, va_K.moved hW.alike hK, hD⟩, hS.F ht⟩) hS.2.2 dX0_branch_103
          · exact absurd (by decide) c_45
        · refine lv_iconst (v := 1) hx hb dX0_branch_55 (by decide) ?_
          refine lv_goto (tgt := 60) hx hb dX0_branch_56 (by decide) ?_
          refine lv_istore (lv' := [(4, .int 1), (3, .int 1), (2, .int (F_partF a1)), (0, .ref x0), (1, .int a1)]) hx hb dX0_branch_60 hl (by decide) rfl (fun ls hl => ?_)
          refine lv_iload hx hb dX0_branch_62 (lv_at hl 0 rfl) ?_
          refine lv_if_eq (tgt := 79) hx hb dX0_branch_64 (by decide) (fun c_56 => ?_) (fun c_56 => ?_)
          · exact absurd c_56 (by decide)
          · refine lv_aload_n hx hb dX0_branch_67 rfl (lv_at hl 3 rfl) ?_
            refine va_get (D := (dC, dI)) (ci := 0) (v := .int pcv) (C := RX0) (T := TX0) (N := 7) hx hb hts (gw_lay lay_X0) hown hK hP 0 rfl rfl 3 (by decide) (hts _ (gcons mF_X0_19)) (fun _ h9 => h9) rfl dX0_branch_68 ?_
            refine lv_iload_n hx hb dX0_branch_71 rfl (lv_at hl 4 rfl) ?_
            refine vp_callSi (W.runS (As := [.int a1]) (rest := [.int pcv]) ⟨hx, hb, hml, hown, hts⟩ (c_branchImmediate l a1) (cwS 1 hts (gS mL_X0_130 mS_X0_branchImmediate mN_X0 mC_X0_branchImmediate) rfl rfl rfl (by decide +kernel) ⟨Nat.le_of_ble_eq_true rfl, Nat.le_of_ble_eq_true rfl⟩) preEq rfl rfl hl.1 rfl (lv_room (Nat.le_of_ble_eq_true rfl)) dX0_branch_72 ⟨Nat.zero_le _, Nat.zero_le _⟩) (fun r_57 hw => ?_)
            subst hw
            refine lv_iadd hx hb dX0_branch_75 ?_
            refine lv_goto (tgt := 85) hx hb dX0_branch_76 (by decide) ?_
            refine lv_istore (lv' := [(5, .int (pcv + (F_branchImmediate a1))), (4, .int 1), (3, .int 1), (2, .int (F_partF a1)), (0, .ref x0), (1, .int a1)]) hx hb dX0_branch_85 hl (by decide) rfl (fun ls hl => ?_)
            refine lv_iload hx hb dX0_branch_87 (lv_at hl 0 rfl) ?_
            refine lv_iconst (v := 4) hx hb dX0_branch_89 (by decide) ?_
            refine vp_callSi (W.runS (As := [.int (pcv + (F_branchImmediate a1)), .int 4]) (rest := []) ⟨hx, hb, hml, hown, hts⟩ (c_isCrooked l (pcv + (F_branchImmediate a1)) 4) (cwS 2 hts (gS mL_X0_62 mS_X0_isCrooked mN_X0 mC_X0_isCrooked) rfl rfl rfl (by decide +kernel) ⟨Nat.le_of_ble_eq_true rfl, Nat.le_of_ble_eq_true rfl⟩) preEq rfl rfl hl.1 rfl (lv_room (Nat.le_of_ble_eq_true rfl)) dX0_branch_90 ⟨Nat.zero_le _, Nat.zero_le _⟩) (fun r_58 hw => ?_)
            obtain ⟨b_59, hw⟩ := hw
            subst hw
            refine lv_if_eq (tgt := 104) hx hb dX0_branch_93 (by decide) (fun c_60 => ?_) (fun c_60 => ?_)
            · refine lv_aload_n hx hb dX0_branch_104 rfl (lv_at hl 4 rfl) ?_
              refine lv_iload hx hb dX0_branch_105 (lv_at hl 0 rfl) ?_
              refine va_put (D := (dC, dI)) (ci := 0) (v := .int (pcv + (F_branchImmediate a1))) (ty := .int) (C := RX0) (T := TX0) (N := 7) hx hb hts (gw_lay lay_X0) tyX0 tyX0_ok nmX0 hown hK hP hD hS 0 rfl rfl 3 (by decide) (hts _ (gcons mF_X0_19)) (fun _ h9 => h9) rfl (by decide +kernel) rfl rfl (Nat.le_of_ble_eq_true rfl) dX0_branch_107 (fun H locs hP hD hS => ?_)
              have hP : va_P (dC, dI) vwCl [(x0, .inr (0, [.ref xw, .ref xr, .ref xg, .int (pcv + (F_branchImmediate a1)), .int trv, .int vav, .int dnv])), (xw, .inl (c1, 4096, .inl wd)), (xr, .inl (c2, 4, .inl rg)), (xg, .inl (c3, 32, .inl rs))] H := hP
              have hD : va_D A [(x0, .inr (0, [.ref xw, .ref xr, .ref xg, .int (pcv + (F_branchImmediate a1)), .int trv, .int vav, .int dnv])), (xw, .inl (c1, 4096, .inl wd)), (xr, .inl (c2, 4, .inl rg)), (xg, .inl (c3, 32, .inl rs))] := hD
              refine lv_iconst (v := 1) hx hb dX0_branch_110 (by decide) ?_
              exact W.zret (v := 1) (ty := .boolean) hx hb hr rfl (fun t ht hW => ⟨⟨_, (wd, rs, pcv + (F_branchImmediate a1), trv, vav), rfl, ⟨rfl, (by unfold F_branch; rw [if_neg c_2, if_neg c_10, if_pos c_11, if_neg c_44, if_pos c_60])⟩, by rw [ht]; exact hP, va_K.moved hW.alike hK, hD⟩, hS.F ht⟩) hS.2.2 dX0_branch_111
            · refine lv_aload_n hx hb dX0_branch_96 rfl (lv_at hl 4 rfl) ?_
              refine lv_iconst (v := 0) hx hb dX0_branch_97 (by decide) ?_
              refine lv_iload hx hb dX0_branch_98 (lv_at hl 0 rfl) ?_
              have hFc := va_free (wc := [(x0, .inr (0, [.ref xw, .ref xr, .ref xg, .int pcv, .int trv, .int vav, .int dnv])), (xw, .inl (c1, 4096, .inl wd)), (xr, .inl (c2, 4, .inl rg)), (xg, .inl (c3, 32, .inl rs))]) hD hS hA [0, 1, 2, 3] rfl
              refine va_calli (va_runV (As := [.int 0, .int (pcv + (F_branchImmediate a1))]) (rest := []) ⟨hx, hb, hml, hown, hts⟩ (c_trapWith l dC dI x0 xw xr xg c1 c2 c3 s.heap.size wd rg rs pcv trv vav dnv 0 (pcv + (F_branchImmediate a1))) (cwV 2 hts (gV mL_X0_66 mI_X0_trapWith mE_X0_trapWith mN_X0 mC_X0_trapWith) rfl rfl rfl (by decide +kernel) ⟨Nat.le_of_ble_eq_true rfl, Nat.le_of_ble_eq_true rfl⟩) ⟨fun a U g mk q => by obtain ⟨q0, q1, qP, qK, qD⟩ := q; exact ⟨q0, q1, qP, va_K.moved (u := U) (U := U.calling g mk a) (Vm.Alike.refl U.vm) qK, qD⟩, va_recv hK hP (ci := 0) (q0 := 0) rfl rfl, fun U hU hW => ⟨rfl, by rw [hU], by rw [hU]; exact hP, va_K.moved hW.alike hK, hD.weaken (fun _ _ _ _ => trivial)⟩⟩ rfl rfl hl.1 rfl (lv_room (Nat.le_of_ble_eq_true rfl)) dX0_branch_100 ⟨Nat.zero_le _, Nat.zero_le _⟩) hS (fun q _ h => hFc q h) hFc (fun r_61 u t H1 locs ht hvm hw hB hz1 hk1 hS => ?_)
              obtain ⟨b_62, hw⟩ := hw
              obtain ⟨wd_63, rs_64, pcv_65, trv_66, vav_67⟩ := u
              obtain ⟨hP1, hK1, hD1⟩ := hB
              rw [ht] at hP1
              obtain ⟨hP, hD⟩ := va_join (wr := []) (w1 := [(x0, .inr (0, [.ref xw, .ref xr, .ref xg, .int pcv_65, .int trv_66, .int vav_67, .int dnv])), (xw, .inl (c1, 4096, .inl wd_63)), (xr, .inl (c2, 4, .inl rg)), (xg, .inl (c3, 32, .inl rs_64))]) hP hD [0, 1, 2, 3] [] rfl rfl (by decide) (by decide) hk1 hFc hP1 hD1
              generalize H1 = H at hP hS ⊢
              have hP : va_P (dC, dI) vwCl [(x0, .inr (0, [.ref xw, .ref xr, .ref xg, .int pcv_65, .int trv_66, .int vav_67, .int dnv])), (xw, .inl (c1, 4096, .inl wd_63)), (xr, .inl (c2, 4, .inl rg)), (xg, .inl (c3, 32, .inl rs_64))] H := hP
              have hD : va_D A [(x0, .inr (0, [.ref xw, .ref xr, .ref xg, .int pcv_65, .int trv_66, .int vav_67, .int dnv])), (xw, .inl (c1, 4096, .inl wd_63)), (xr, .inl (c2, 4, .inl rg)), (xg, .inl (c3, 32, .inl rs_64))] := hD
              exact W.zret (v := r_61) (ty := .boolean) hx hb hr b_62 (fun t ht hW => ⟨⟨_, (wd_63, rs_64, pcv_65, trv_66, vav_67), rfl, ⟨b_62, (by unfold F_branch; rw [if_neg c_2, if_neg c_10, if_pos c_11, if_neg c_44, if_neg c_60]; exact hw)⟩, by rw [ht]; exact hP, va_K.moved hW.alike hK, hD⟩, hS.F ht⟩) hS.2.2 dX0_branch_103
    · refine lv_aload_n hx hb dX0_branch_15 rfl (lv_at hl 1 rfl) ?_
      refine lv_iload_n hx hb dX0_branch_16 rfl (lv_at hl 2 rfl) ?_
      have hFc := va_free (wc := [(x0, .inr (0, [.ref xw, .ref xr, .ref xg, .int pcv, .int trv, .int vav, .int dnv])), (xw, .inl (c1, 4096, .inl wd)), (xr, .inl (c2, 4, .inl rg)), (xg, .inl (c3, 32, .inl rs))]) hD hS hA [0, 1, 2, 3] rfl
      refine va_calli (va_runV (As := [.int a1]) (rest := []) ⟨hx, hb, hml, hown, hts⟩ (c_refuse l dC dI x0 xw xr xg c1 c2 c3 s.heap.size wd rg rs pcv trv vav dnv a1) (cwV 1 hts (gV mL_X0_111 mI_X0_refuse mE_X0_refuse mN_X0 mC_X0_refuse) rfl rfl rfl (by decide +kernel) ⟨Nat.le_of_ble_eq_true rfl, Nat.le_of_ble_eq_true rfl⟩) ⟨fun a U g mk q => by obtain ⟨q0, q1, qP, qK, qD⟩ := q; exact ⟨q0, q1, qP, va_K.moved (u := U) (U := U.calling g mk a) (Vm.Alike.refl U.vm) qK, qD⟩, va_recv hK hP (ci := 0) (q0 := 0) rfl rfl, fun U hU hW => ⟨rfl, by rw [hU], by rw [hU]; exact hP, va_K.moved hW.alike hK, hD.weaken (fun _ _ _ _ => trivial)⟩⟩ rfl rfl hl.1 rfl (lv_room (Nat.le_of_ble_eq_true rfl)) dX0_branch_17 ⟨Nat.zero_le _, Nat.zero_le _⟩) hS (fun q _ h => hFc q h) hFc (fun r_68 u t H1 locs ht hvm hw hB hz1 hk1 hS => ?_)
      obtain ⟨b_69, hw⟩ := hw
      obtain ⟨wd_70, rs_71, pcv_72, trv_73, vav_74⟩ := u
      obtain ⟨hP1, hK1, hD1⟩ := hB
      rw [ht] at hP1
      obtain ⟨hP, hD⟩ := va_join (wr := []) (w1 := [(x0, .inr (0, [.ref xw, .ref xr, .ref xg, .int pcv_72, .int trv_73, .int vav_74, .int dnv])), (xw, .inl (c1, 4096, .inl wd_70)), (xr, .inl (c2, 4, .inl rg)), (xg, .inl (c3, 32, .inl rs_71))]) hP hD [0, 1, 2, 3] [] rfl rfl (by decide) (by decide) hk1 hFc hP1 hD1
      generalize H1 = H at hP hS ⊢
      have hP : va_P (dC, dI) vwCl [(x0, .inr (0, [.ref xw, .ref xr, .ref xg, .int pcv_72, .int trv_73, .int vav_74, .int dnv])), (xw, .inl (c1, 4096, .inl wd_70)), (xr, .inl (c2, 4, .inl rg)), (xg, .inl (c3, 32, .inl rs_71))] H := hP
      have hD : va_D A [(x0, .inr (0, [.ref xw, .ref xr, .ref xg, .int pcv_72, .int trv_73, .int vav_74, .int dnv])), (xw, .inl (c1, 4096, .inl wd_70)), (xr, .inl (c2, 4, .inl rg)), (xg, .inl (c3, 32, .inl rs_71))] := hD
      exact W.zret (v := r_68) (ty := .boolean) hx hb hr b_69 (fun t ht hW => ⟨⟨_, (wd_70, rs_71, pcv_72, trv_73, vav_74), rfl, ⟨b_69, (by unfold F_branch; rw [if_neg c_2, if_pos c_10]; exact hw)⟩, by rw [ht]; exact hP, va_K.moved hW.alike hK, hD⟩, hS.F ht⟩) hS.2.2 dX0_branch_20
def F_goToRegister (wd : Nat → Int32) (rg : Nat → Int32) (rs : Nat → Int32) (pcv : Int32) (trv : Int32) (vav : Int32) (a1 : Int32) : Int32 × (Nat → Int32) × (Nat → Int32) × Int32 × Int32 × Int32 :=
  if (F_partF a1) = 0 then
    F_linkAndGo wd rg rs pcv trv vav a1 (((F_registerA rs a1) + (F_lowImmediate a1)) &&& ((-2)))
  else
    F_refuse wd rg rs pcv trv vav a1
set_option maxHeartbeats 4000000 in
set_option maxRecDepth 100000 in
theorem c_goToRegister (l : Launch) (dC : Nat → ClassId) (dI : Nat → Nat → Nat) (x0 xw xr xg : Nat) (c1 c2 c3 : ClassId) (sz : Nat) (wd : Nat → Int32) (rg : Nat → Int32) (rs : Nat → Int32) (pcv : Int32) (trv : Int32) (vav : Int32) (dnv : Int32) (a1 : Int32)  : Met l yX0_goToRegister wsX0_goToRegister ({ frames := 2, cells := 0, slots := 0, locals := 44 }) (va_Pc [.ref x0, .int a1] (fun U => U.heap.size = sz ∧ va_P (dC, dI) vwCl [(x0, .inr (0, [.ref xw, .ref xr, .ref xg, .int pcv, .int trv, .int vav, .int dnv])), (xw, .inl (c1, 4096, .inl wd)), (xr, .inl (c2, 4, .inl rg)), (xg, .inl (c3, 32, .inl rs))] U.heap ∧ va_K (dC, dI) vwCl [(c1, .int), (c2, .int), (c3, .int)] U ∧ va_D (fun _ => True) [(x0, .inr (0, [.ref xw, .ref xr, .ref xg, .int pcv, .int trv, .int vav, .int dnv])), (xw, .inl (c1, 4096, .inl wd)), (xr, .inl (c2, 4, .inl rg)), (xg, .inl (c3, 32, .inl rs))])) (va_Qi (fun (r : Int32) (u : (Nat → Int32) × (Nat → Int32) × Int32 × Int32 × Int32) => narrow .boolean (.int r) = .int r ∧ (r, u) = F_goToRegister wd rg rs pcv trv vav a1) (fun (u : (Nat → Int32) × (Nat → Int32) × Int32 × Int32 × Int32) (t : State) => va_P (dC, dI) vwCl [(x0, .inr (0, [.ref xw, .ref xr, .ref xg, .int u.2.2.1, .int u.2.2.2.1, .int u.2.2.2.2, .int dnv])), (xw, .inl (c1, 4096, .inl u.1)), (xr, .inl (c2, 4, .inl rg)), (xg, .inl (c3, 32, .inl u.2.1))] t.heap ∧ va_K (dC, dI) vwCl [(c1, .int), (c2, .int), (c3, .int)] t ∧ va_D (va_A [(x0, .inr (0, [.ref xw, .ref xr, .ref xg, .int pcv, .int trv, .int vav, .int dnv])), (xw, .inl (c1, 4096, .inl wd)), (xr, .inl (c2, 4, .inl rg)), (xg, .inl (c3, 32, .inl rs))] sz) [(x0, .inr (0, [.ref xw, .ref xr, .ref xg, .int u.2.2.1, .int u.2.2.2.1, .int u.2.2.2.2, .int dnv])), (xw, .inl (c1, 4096, .inl u.1)), (xr, .inl (c2, 4, .inl rg)), (xg, .inl (c3, 32, .inl u.2.1))]) (va_A [(x0, .inr (0, [.ref xw, .ref xr, .ref xg, .int pcv, .int trv, .int vav, .int dnv])), (xw, .inl (c1, 4096, .inl wd)), (xr, .inl (c2, 4, .inl rg)), (xg, .inl (c3, 32, .inl rs))] sz)) 0 0 (va_A [(x0, .inr (0, [.ref xw, .ref xr, .ref xg, .int pcv, .int trv, .int vav, .int dnv])), (xw, .inl (c1, 4096, .inl wd)), (xr, .inl (c2, 4, .inl rg)), (xg, .inl (c3, 32, .inl rs))] sz) := by
  refine Met.ofW (cc := cX0_goToRegister) (maxL := 2) (ret := (some .boolean)) (by decide) rfl ?_
  intro p e s m args below meth c s₁ B hml hv
  obtain ⟨rfl, hsz, hP, hK, hD0⟩ := hv
  have hx := B.exec
  have hb := B.bytes
  have hr := B.returns
  have hts := atoms_spec (ws := wsX0_goToRegister) B.pre
  have hown : s.vm.findClass RX0 = some m.cls := findClass_of_methodNamed B.named
  have hlocks := B.notSynchronized
  subst hsz
  have hD := hD0.self (sz := s.heap.size)
  generalize hAe : va_A [(x0, .inr (0, [.ref xw, .ref xr, .ref xg, .int pcv, .int trv, .int vav, .int dnv])), (xw, .inl (c1, 4096, .inl wd)), (xr, .inl (c2, 4, .inl rg)), (xg, .inl (c3, 32, .inl rs))] s.heap.size = A at hD ⊢
  have hA : ∀ q : Nat, s.heap.size ≤ q → A q := fun q h => by rw [← hAe]; exact Or.inr h
  have hS : va_S A s.heap s.heap [] := va_S.rf
  have hP : va_P (dC, dI) vwCl [(x0, .inr (0, [.ref xw, .ref xr, .ref xg, .int pcv, .int trv, .int vav, .int dnv])), (xw, .inl (c1, 4096, .inl wd)), (xr, .inl (c2, 4, .inl rg)), (xg, .inl (c3, 32, .inl rs))] s.heap := hP
  have hl := lv_entry ([.ref x0, .int a1]) (n := 2) (Nat.le_of_ble_eq_true rfl)
  rw [lg_entry_eq]
  generalize (lg_sl ([.ref x0, .int a1]) ++ List.replicate (2 - (lg_sl ([.ref x0, .int a1])).length) Slot.unset).toArray = ls at hl ⊢
  have hl : lv_has ls 2 [(0, .ref x0), (1, .int a1)] := hl
  refine lv_iload_n hx hb dX0_goToRegister_0 rfl (lv_at hl 1 rfl) ?_
  refine vp_callSi (W.runS (As := [.int a1]) (rest := []) ⟨hx, hb, hml, hown, hts⟩ (c_partF l a1) (cwS 1 hts (gS mL_X0_114 mS_X0_partF mN_X0 mC_X0_partF) rfl rfl rfl (by decide +kernel) ⟨Nat.le_of_ble_eq_true rfl, Nat.le_of_ble_eq_true rfl⟩) preEq rfl rfl hl.1 rfl (lv_room (Nat.le_of_ble_eq_true rfl)) dX0_goToRegister_1 ⟨Nat.zero_le _, Nat.zero_le _⟩) (fun r_1 hw => ?_)
  subst hw
  refine lv_if_eq (tgt := 13) hx hb dX0_goToRegister_4 (by decide) (fun c_2 => ?_) (fun c_2 => ?_)
  · refine lv_aload_n hx hb dX0_goToRegister_13 rfl (lv_at hl 0 rfl) ?_
    refine lv_iload_n hx hb dX0_goToRegister_14 rfl (lv_at hl 1 rfl) ?_
    refine lv_aload_n hx hb dX0_goToRegister_15 rfl (lv_at hl 0 rfl) ?_
    refine lv_iload_n hx hb dX0_goToRegister_16 rfl (lv_at hl 1 rfl) ?_
    refine vp_callSi (W.runV (As := [.int a1]) (rest := [.int a1, .ref x0]) ⟨hx, hb, hml, hown, hts⟩ (c_registerA l dC dI x0 xw xr xg c1 c2 c3 wd rg rs pcv trv vav dnv a1) (cwV 1 hts (gV mL_X0_117 mI_X0_registerA mE_X0_registerA mN_X0 mC_X0_registerA) rfl rfl rfl (by decide +kernel) ⟨Nat.le_of_ble_eq_true rfl, Nat.le_of_ble_eq_true rfl⟩) ⟨fun a U g mk q => by obtain ⟨q0, qP, qK⟩ := q; exact ⟨q0, qP, va_K.moved (u := U) (U := U.calling g mk a) (Vm.Alike.refl U.vm) qK⟩, va_recv hK hP (ci := 0) (q0 := 0) rfl rfl, fun U hU hW => ⟨rfl, by rw [hU]; exact hP, va_K.moved hW.alike hK⟩⟩ rfl rfl hl.1 rfl (lv_room (Nat.le_of_ble_eq_true rfl)) dX0_goToRegister_17 ⟨Nat.zero_le _, Nat.zero_le _⟩) (fun r_3 hw => ?_)
    subst hw
    refine lv_iload_n hx hb dX0_goToRegister_20 rfl (lv_at hl 1 rfl) ?_
    refine vp_callSi (W.runS (As := [.int a1]) (rest := [.int (F_registerA rs a1), .int a1, .ref x0]) ⟨hx, hb, hml, hown, hts⟩ (c_lowImmediate l a1) (cwS 1 hts (gS mL_X0_120 mS_X0_lowImmediate mN_X0 mC_X0_lowImmediate) rfl rfl rfl (by decide +kernel) ⟨Nat.le_of_ble_eq_true rfl, Nat.le_of_ble_eq_true rfl⟩) preEq rfl rfl hl.1 rfl (lv_room (Nat.le_of_ble_eq_true rfl)) dX0_goToRegister_21 ⟨Nat.zero_le _, Nat.zero_le _⟩) (fun r_4 hw => ?_)
    subst hw
    refine lv_iadd hx hb dX0_goToRegister_24 ?_
    refine lv_bipush (v := (-2)) hx hb dX0_goToRegister_25 (by decide) ?_
    refine lv_iand hx hb dX0_goToRegister_27 ?_
    have hFc := va_free (wc := [(x0, .inr (0, [.ref xw, .ref xr, .ref xg, .int pcv, .int trv, .int vav, .int dnv])), (xw, .inl (c1, 4096, .inl wd)), (xr, .inl (c2, 4, .inl rg)), (xg, .inl (c3, 32, .inl rs))]) hD hS hA [0, 1, 2, 3] rfl
    refine va_calli (va_runV (As := [.int a1, .int (((F_registerA rs a1) + (F_lowImmediate a1)) &&& ((-2)))]) (rest := []) ⟨hx, hb, hml, hown, hts⟩ (c_linkAndGo l dC dI x0 xw xr xg c1 c2 c3 s.heap.size wd rg rs pcv trv vav dnv a1 (((F_registerA rs a1) + (F_lowImmediate a1)) &&& ((-2)))) (cwV 2 hts (gV mL_X0_84 mI_X0_linkAndGo mE_X0_linkAndGo mN_X0 mC_X0_linkAndGo) rfl rfl rfl (by decide +kernel) ⟨Nat.le_of_ble_eq_true rfl, Nat.le_of_ble_eq_true rfl⟩) ⟨fun a U g mk q => by obtain ⟨q0, q1, qP, qK, qD⟩ := q; exact ⟨q0, q1, qP, va_K.moved (u := U) (U := U.calling g mk a) (Vm.Alike.refl U.vm) qK, qD⟩, va_recv hK hP (ci := 0) (q0 := 0) rfl rfl, fun U hU hW => ⟨rfl, by rw [hU], by rw [hU]; exact hP, va_K.moved hW.alike hK, hD.weaken (fun _ _ _ _ => trivial)⟩⟩ rfl rfl hl.1 rfl (lv_room (Nat.le_of_ble_eq_true rfl)) dX0_goToRegister_28 ⟨Nat.zero_le _, Nat.zero_le _⟩) hS (fun q _ h => hFc q h) hFc (fun r_5 u t H1 locs ht hvm hw hB hz1 hk1 hS => ?_)
    obtain ⟨b_6, hw⟩ := hw
    obtain ⟨wd_7, rs_8, pcv_9, trv_10, vav_11⟩ := u
    obtain ⟨hP1, hK1, hD1⟩ := hB
    rw [ht] at hP1
    obtain ⟨hP, hD⟩ := va_join (wr := []) (w1 := [(x0, .inr (0, [.ref xw, .ref xr, .ref xg, .int pcv_9, .int trv_10, .int vav_11, .int dnv])), (xw, .inl (c1, 4096, .inl wd_7)), (xr, .inl (c2, 4, .inl rg)), (xg, .inl (c3, 32, .inl rs_8))]) hP hD [0, 1, 2, 3] [] rfl rfl (by decide) (by decide) hk1 hFc hP1 hD1
    generalize H1 = H at hP hS ⊢
    have hP : va_P (dC, dI) vwCl [(x0, .inr (0, [.ref xw, .ref xr, .ref xg, .int pcv_9, .int trv_10, .int vav_11, .int dnv])), (xw, .inl (c1, 4096, .inl wd_7)), (xr, .inl (c2, 4, .inl rg)), (xg, .inl (c3, 32, .inl rs_8))] H := hP
    have hD : va_D A [(x0, .inr (0, [.ref xw, .ref xr, .ref xg, .int pcv_9, .int trv_10, .int vav_11, .int dnv])), (xw, .inl (c1, 4096, .inl wd_7)), (xr, .inl (c2, 4, .inl rg)), (xg, .inl (c3, 32, .inl rs_8))] := hD
    exact W.zret (v := r_5) (ty := .boolean) hx hb hr b_6 (fun t ht hW => ⟨⟨_, (wd_7, rs_8, pcv_9, trv_10, vav_11), rfl, ⟨b_6, (by unfold F_goToRegister; rw [if_pos c_2]; exact hw)⟩, by rw [ht]; exact hP, va_K.moved hW.alike hK, hD⟩, hS.F ht⟩) hS.2.2 dX0_goToRegister_31
  · refine lv_aload_n hx hb dX0_goToRegister_7 rfl (lv_at hl 0 rfl) ?_
    refine lv_iload_n hx hb dX0_goToRegister_8 rfl (lv_at hl 1 rfl) ?_
    have hFc := va_free (wc := [(x0, .inr (0, [.ref xw, .ref xr, .ref xg, .int pcv, .int trv, .int vav, .int dnv])), (xw, .inl (c1, 4096, .inl wd)), (xr, .inl (c2, 4, .inl rg)), (xg, .inl (c3, 32, .inl rs))]) hD hS hA [0, 1, 2, 3] rfl
    refine va_calli (va_runV (As := [.int a1]) (rest := []) ⟨hx, hb, hml, hown, hts⟩ (c_refuse l dC dI x0 xw xr xg c1 c2 c3 s.heap.size wd rg rs pcv trv vav dnv a1) (cwV 1 hts (gV mL_X0_111 mI_X0_refuse mE_X0_refuse mN_X0 mC_X0_refuse) rfl rfl rfl (by decide +kernel) ⟨Nat.le_of_ble_eq_true rfl, Nat.le_of_ble_eq_true rfl⟩) ⟨fun a U g mk q => by obtain ⟨q0, q1, qP, qK, qD⟩ := q; exact ⟨q0, q1, qP, va_K.moved (u := U) (U := U.calling g mk a) (Vm.Alike.refl U.vm) qK, qD⟩, va_recv hK hP (ci := 0) (q0 := 0) rfl rfl, fun U hU hW => ⟨rfl, by rw [hU], by rw [hU]; exact hP, va_K.moved hW.alike hK, hD.weaken (fun _ _ _ _ => trivial)⟩⟩ rfl rfl hl.1 rfl (lv_room (Nat.le_of_ble_eq_true rfl)) dX0_goToRegister_9 ⟨Nat.zero_le _, Nat.zero_le _⟩) hS (fun q _ h => hFc q h) hFc (fun r_12 u t H1 locs ht hvm hw hB hz1 hk1 hS => ?_)
    obtain ⟨b_13, hw⟩ := hw
    obtain ⟨wd_14, rs_15, pcv_16, trv_17, vav_18⟩ := u
    obtain ⟨hP1, hK1, hD1⟩ := hB
    rw [ht] at hP1
    obtain ⟨hP, hD⟩ := va_join (wr := []) (w1 := [(x0, .inr (0, [.ref xw, .ref xr, .ref xg, .int pcv_16, .int trv_17, .int vav_18, .int dnv])), (xw, .inl (c1, 4096, .inl wd_14)), (xr, .inl (c2, 4, .inl rg)), (xg, .inl (c3, 32, .inl rs_15))]) hP hD [0, 1, 2, 3] [] rfl rfl (by decide) (by decide) hk1 hFc hP1 hD1
    generalize H1 = H at hP hS ⊢
    have hP : va_P (dC, dI) vwCl [(x0, .inr (0, [.ref xw, .ref xr, .ref xg, .int pcv_16, .int trv_17, .int vav_18, .int dnv])), (xw, .inl (c1, 4096, .inl wd_14)), (xr, .inl (c2, 4, .inl rg)), (xg, .inl (c3, 32, .inl rs_15))] H := hP
    have hD : va_D A [(x0, .inr (0, [.ref xw, .ref xr, .ref xg, .int pcv_16, .int trv_17, .int vav_18, .int dnv])), (xw, .inl (c1, 4096, .inl wd_14)), (xr, .inl (c2, 4, .inl rg)), (xg, .inl (c3, 32, .inl rs_15))] := hD
    exact W.zret (v := r_12) (ty := .boolean) hx hb hr b_13 (fun t ht hW => ⟨⟨_, (wd_14, rs_15, pcv_16, trv_17, vav_18), rfl, ⟨b_13, (by unfold F_goToRegister; rw [if_neg c_2]; exact hw)⟩, by rw [ht]; exact hP, va_K.moved hW.alike hK, hD⟩, hS.F ht⟩) hS.2.2 dX0_goToRegister_12
