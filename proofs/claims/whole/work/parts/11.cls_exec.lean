def F_execute (wd : Nat → Int32) (rg : Nat → Int32) (rs : Nat → Int32) (pcv : Int32) (trv : Int32) (vav : Int32) (a1 : Int32) : Int32 × (Nat → Int32) × (Nat → Int32) × Int32 × Int32 × Int32 :=
  if (a1 &&& 127) = 3 then
    F_load wd rg rs pcv trv vav a1
  else
    if (a1 &&& 127) = 15 then
      F_fence wd rg rs pcv trv vav a1
    else
      if (a1 &&& 127) = 19 then
        F_computeWithImmediate wd rg rs pcv trv vav a1
      else
        if (a1 &&& 127) = 23 then
          F_finish wd rg rs pcv trv vav a1 (pcv + (F_upperImmediate a1))
        else
          if (a1 &&& 127) = 35 then
            F_store wd rg rs pcv trv vav a1
          else
            if (a1 &&& 127) = 51 then
              F_computeWithRegisters wd rg rs pcv trv vav a1
            else
              if (a1 &&& 127) = 55 then
                F_finish wd rg rs pcv trv vav a1 (F_upperImmediate a1)
              else
                if (a1 &&& 127) = 99 then
                  F_branch wd rg rs pcv trv vav a1
                else
                  if (a1 &&& 127) = 103 then
                    F_goToRegister wd rg rs pcv trv vav a1
                  else
                    if (a1 &&& 127) = 111 then
                      F_linkAndGo wd rg rs pcv trv vav a1 (pcv + (F_jumpImmediate a1))
                    else
                      if (a1 &&& 127) = 115 then
                        F_callOrBreak wd rg rs pcv trv vav a1
                      else
                        F_refuse wd rg rs pcv trv vav a1
set_option maxHeartbeats 4000000 in
set_option maxRecDepth 100000 in
theorem c_execute (l : Launch) (dC : Nat → ClassId) (dI : Nat → Nat → Nat) (x0 xw xr xg : Nat) (c1 c2 c3 : ClassId) (sz : Nat) (wd : Nat → Int32) (rg : Nat → Int32) (rs : Nat → Int32) (pcv : Int32) (trv : Int32) (vav : Int32) (dnv : Int32) (a1 : Int32)  : Met l yX0_execute wsX0_execute ({ frames := 4, cells := 0, slots := 0, locals := 88 }) (va_Pc [.ref x0, .int a1] (fun U => U.heap.size = sz ∧ va_P (dC, dI) vwCl [(x0, .inr (0, [.ref xw, .ref xr, .ref xg, .int pcv, .int trv, .int vav, .int dnv])), (xw, .inl (c1, 4096, .inl wd)), (xr, .inl (c2, 4, .inl rg)), (xg, .inl (c3, 32, .inl rs))] U.heap ∧ va_K (dC, dI) vwCl [(c1, .int), (c2, .int), (c3, .int)] U ∧ va_D (fun _ => True) [(x0, .inr (0, [.ref xw, .ref xr, .ref xg, .int pcv, .int trv, .int vav, .int dnv])), (xw, .inl (c1, 4096, .inl wd)), (xr, .inl (c2, 4, .inl rg)), (xg, .inl (c3, 32, .inl rs))])) (va_Qi (fun (r : Int32) (u : (Nat → Int32) × (Nat → Int32) × Int32 × Int32 × Int32) => narrow .boolean (.int r) = .int r ∧ (r, u) = F_execute wd rg rs pcv trv vav a1) (fun (u : (Nat → Int32) × (Nat → Int32) × Int32 × Int32 × Int32) (t : State) => va_P (dC, dI) vwCl [(x0, .inr (0, [.ref xw, .ref xr, .ref xg, .int u.2.2.1, .int u.2.2.2.1, .int u.2.2.2.2, .int dnv])), (xw, .inl (c1, 4096, .inl u.1)), (xr, .inl (c2, 4, .inl rg)), (xg, .inl (c3, 32, .inl u.2.1))] t.heap ∧ va_K (dC, dI) vwCl [(c1, .int), (c2, .int), (c3, .int)] t ∧ va_D (va_A [(x0, .inr (0, [.ref xw, .ref xr, .ref xg, .int pcv, .int trv, .int vav, .int dnv])), (xw, .inl (c1, 4096, .inl wd)), (xr, .inl (c2, 4, .inl rg)), (xg, .inl (c3, 32, .inl rs))] sz) [(x0, .inr (0, [.ref xw, .ref xr, .ref xg, .int u.2.2.1, .int u.2.2.2.1, .int u.2.2.2.2, .int dnv])), (xw, .inl (c1, 4096, .inl u.1)), (xr, .inl (c2, 4, .inl rg)), (xg, .inl (c3, 32, .inl u.2.1))]) (va_A [(x0, .inr (0, [.ref xw, .ref xr, .ref xg, .int pcv, .int trv, .int vav, .int dnv])), (xw, .inl (c1, 4096, .inl wd)), (xr, .inl (c2, 4, .inl rg)), (xg, .inl (c3, 32, .inl rs))] sz)) 0 0 (va_A [(x0, .inr (0, [.ref xw, .ref xr, .ref xg, .int pcv, .int trv, .int vav, .int dnv])), (xw, .inl (c1, 4096, .inl wd)), (xr, .inl (c2, 4, .inl rg)), (xg, .inl (c3, 32, .inl rs))] sz) := by
  refine Met.ofW (cc := cX0_execute) (maxL := 2) (ret := (some .boolean)) (by decide) rfl ?_
  intro p e s m args below meth c s₁ B hml hv
  obtain ⟨rfl, hsz, hP, hK, hD0⟩ := hv
  have hx := B.exec
  have hb := B.bytes
  have hr := B.returns
  have hts := atoms_spec (ws := wsX0_execute) B.pre
  have hown : s.vm.findClass RX0 = some m.cls := findClass_of_methodNamed B.named
  have hlocks := B.notSynchronized
  subst hsz
  have hD := hD0.self (sz := s.heap.size)
  generalize hAe : va_A [(x0, .inr (0, [.ref xw, .ref xr, .ref xg, .int pcv, .int trv, .int vav, .int dnv])), (xw, .inl (c1, 4096, .inl wd)), (xr, .inl (c2, 4, .inl rg)), (xg, .inl (c3, 32, .inl rs))] s.heap.size = A at hD ⊢
  have hA : ∀ q : Nat, s.heap.size ≤ q → A q := fun q h => by rw [← hAe]; exact Or.inr h
  have hS : va_S A s.heap s.heap [] := va_S.rf
  have hP : va_P (dC, dI) vwCl [(x0, .inr (0, [.ref xw, .ref xr, .ref xg, .int pcv, .int trv, .int vav, .int dnv])), (xw, .inl (c1, 4096, .inl wd)), (xr, .inl (c2, 4, .inl rg)), (xg, .inl (c3, 32, .inl rs))] s.heap := hP
  have hl := lv_entry ([.ref x0, .int a1]) (n := 2) (Nat.le_of_ble_eq_true rfl)
  rw [lg_entry_eq]
  generalize (lg_sl ([.ref x0, .int a1]) ++ List.replicate (2 - (lg_sl ([.ref x0, .int a1])).length) Slot.unset).toArray = ls at hl ⊢
  have hl : lv_has ls 2 [(0, .ref x0), (1, .int a1)] := hl
  refine lv_iload_n hx hb dX0_execute_0 rfl (lv_at hl 1 rfl) ?_
  refine lv_bipush (v := 127) hx hb dX0_execute_1 (by decide) ?_
  refine lv_iand hx hb dX0_execute_3 ?_
  by_cases c_1 : (a1 &&& 127) = 3
  · refine lv_lookup (tgt := 156) (off := 152) hx hb dX0_execute_4 (by decide) (by rw [c_1] <;> rfl) (by decide) ?_
    refine lv_aload_n hx hb dX0_execute_156 rfl (lv_at hl 0 rfl) ?_
    refine lv_iload_n hx hb dX0_execute_157 rfl (lv_at hl 1 rfl) ?_
    have hFc := va_free (wc := [(x0, .inr (0, [.ref xw, .ref xr, .ref xg, .int pcv, .int trv, .int vav, .int dnv])), (xw, .inl (c1, 4096, .inl wd)), (xr, .inl (c2, 4, .inl rg)), (xg, .inl (c3, 32, .inl rs))]) hD hS hA [0, 1, 2, 3] rfl
    refine va_calli (va_runV (As := [.int a1]) (rest := []) ⟨hx, hb, hml, hown, hts⟩ (c_load l dC dI x0 xw xr xg c1 c2 c3 s.heap.size wd rg rs pcv trv vav dnv a1) (cwV 1 hts (gV mL_X0_93 mI_X0_load mE_X0_load mN_X0 mC_X0_load) rfl rfl rfl (by decide +kernel) ⟨Nat.le_of_ble_eq_true rfl, Nat.le_of_ble_eq_true rfl⟩) ⟨fun a U g mk q => by obtain ⟨q0, q1, qP, qK, qD⟩ := q; exact ⟨q0, q1, qP, va_K.moved (u := U) (U := U.calling g mk a) (Vm.Alike.refl U.vm) qK, qD⟩, va_recv hK hP (ci := 0) (q0 := 0) rfl rfl, fun U hU hW => ⟨rfl, by rw [hU], by rw [hU]; exact hP, va_K.moved hW.alike hK, hD.weaken (fun _ _ _ _ => trivial)⟩⟩ rfl rfl hl.1 rfl (lv_room (Nat.le_of_ble_eq_true rfl)) dX0_execute_158 ⟨Nat.zero_le _, Nat.zero_le _⟩) hS (fun q _ h => hFc q h) hFc (fun r_2 u t H1 locs ht hvm hw hB hz1 hk1 hS => ?_)
    obtain ⟨b_3, hw⟩ := hw
    obtain ⟨wd_4, rs_5, pcv_6, trv_7, vav_8⟩ := u
    obtain ⟨hP1, hK1, hD1⟩ := hB
    rw [ht] at hP1
    obtain ⟨hP, hD⟩ := va_join (wr := []) (w1 := [(x0, .inr (0, [.ref xw, .ref xr, .ref xg, .int pcv_6, .int trv_7, .int vav_8, .int dnv])), (xw, .inl (c1, 4096, .inl wd_4)), (xr, .inl (c2, 4, .inl rg)), (xg, .inl (c3, 32, .inl rs_5))]) hP hD [0, 1, 2, 3] [] rfl rfl (by decide) (by decide) hk1 hFc hP1 hD1
    generalize H1 = H at hP hS ⊢
    have hP : va_P (dC, dI) vwCl [(x0, .inr (0, [.ref xw, .ref xr, .ref xg, .int pcv_6, .int trv_7, .int vav_8, .int dnv])), (xw, .inl (c1, 4096, .inl wd_4)), (xr, .inl (c2, 4, .inl rg)), (xg, .inl (c3, 32, .inl rs_5))] H := hP
    have hD : va_D A [(x0, .inr (0, [.ref xw, .ref xr, .ref xg, .int pcv_6, .int trv_7, .int vav_8, .int dnv])), (xw, .inl (c1, 4096, .inl wd_4)), (xr, .inl (c2, 4, .inl rg)), (xg, .inl (c3, 32, .inl rs_5))] := hD
    exact W.zret (v := r_2) (ty := .boolean) hx hb hr b_3 (fun t ht hW => ⟨⟨_, (wd_4, rs_5, pcv_6, trv_7, vav_8), rfl, ⟨b_3, (by unfold F_execute; rw [if_pos c_1]; exact hw)⟩, by rw [ht]; exact hP, va_K.moved hW.alike hK, hD⟩, hS.F ht⟩) hS.2.2 dX0_execute_161
  · by_cases c_9 : (a1 &&& 127) = 15
    · refine lv_lookup (tgt := 180) (off := 176) hx hb dX0_execute_4 (by decide) (by rw [c_9] <;> rfl) (by decide) ?_
      refine lv_aload_n hx hb dX0_execute_180 rfl (lv_at hl 0 rfl) ?_
      refine lv_iload_n hx hb dX0_execute_181 rfl (lv_at hl 1 rfl) ?_
      have hFc := va_free (wc := [(x0, .inr (0, [.ref xw, .ref xr, .ref xg, .int pcv, .int trv, .int vav, .int dnv])), (xw, .inl (c1, 4096, .inl wd)), (xr, .inl (c2, 4, .inl rg)), (xg, .inl (c3, 32, .inl rs))]) hD hS hA [0, 1, 2, 3] rfl
      refine va_calli (va_runV (As := [.int a1]) (rest := []) ⟨hx, hb, hml, hown, hts⟩ (c_fence l dC dI x0 xw xr xg c1 c2 c3 s.heap.size wd rg rs pcv trv vav dnv a1) (cwV 1 hts (gV mL_X0_105 mI_X0_fence mE_X0_fence mN_X0 mC_X0_fence) rfl rfl rfl (by decide +kernel) ⟨Nat.le_of_ble_eq_true rfl, Nat.le_of_ble_eq_true rfl⟩) ⟨fun a U g mk q => by obtain ⟨q0, q1, qP, qK, qD⟩ := q; exact ⟨q0, q1, qP, va_K.moved (u := U) (U := U.calling g mk a) (Vm.Alike.refl U.vm) qK, qD⟩, va_recv hK hP (ci := 0) (q0 := 0) rfl rfl, fun U hU hW => ⟨rfl, by rw [hU], by rw [hU]; exact hP, va_K.moved hW.alike hK, hD.weaken (fun _ _ _ _ => trivial)⟩⟩ rfl rfl hl.1 rfl (lv_room (Nat.le_of_ble_eq_true rfl)) dX0_execute_182 ⟨Nat.zero_le _, Nat.zero_le _⟩) hS (fun q _ h => hFc q h) hFc (fun r_10 u t H1 locs ht hvm hw hB hz1 hk1 hS => ?_)
      obtain ⟨b_11, hw⟩ := hw
      obtain ⟨wd_12, rs_13, pcv_14, trv_15, vav_16⟩ := u
      obtain ⟨hP1, hK1, hD1⟩ := hB
      rw [ht] at hP1
      obtain ⟨hP, hD⟩ := va_join (wr := []) (w1 := [(x0, .inr (0, [.ref xw, .ref xr, .ref xg, .int pcv_14, .int trv_15, .int vav_16, .int dnv])), (xw, .inl (c1, 4096, .inl wd_12)), (xr, .inl (c2, 4, .inl rg)), (xg, .inl (c3, 32, .inl rs_13))]) hP hD [0, 1, 2, 3] [] rfl rfl (by decide) (by decide) hk1 hFc hP1 hD1
      generalize H1 = H at hP hS ⊢
      have hP : va_P (dC, dI) vwCl [(x0, .inr (0, [.ref xw, .ref xr, .ref xg, .int pcv_14, .int trv_15, .int vav_16, .int dnv])), (xw, .inl (c1, 4096, .inl wd_12)), (xr, .inl (c2, 4, .inl rg)), (xg, .inl (c3, 32, .inl rs_13))] H := hP
      have hD : va_D A [(x0, .inr (0, [.ref xw, .ref xr, .ref xg, .int pcv_14, .int trv_15, .int vav_16, .int dnv])), (xw, .inl (c1, 4096, .inl wd_12)), (xr, .inl (c2, 4, .inl rg)), (xg, .inl (c3, 32, .inl rs_13))] := hD
      exact W.zret (v := r_10) (ty := .boolean) hx hb hr b_11 (fun t ht hW => ⟨⟨_, (wd_12, rs_13, pcv_14, trv_15, vav_16), rfl, ⟨b_11, (by unfold F_execute; rw [if_neg c_1, if_pos c_9]; exact hw)⟩, by rw [ht]; exact hP, va_K.moved hW.alike hK, hD⟩, hS.F ht⟩) hS.2.2 dX0_execute_185
    · by_cases c_17 : (a1 &&& 127) = 19
      · refine lv_lookup (tgt := 168) (off := 164) hx hb dX0_execute_4 (by decide) (by rw [c_17] <;> rfl) (by decide) ?_
        refine lv_aload_n hx hb dX0_execute_168 rfl (lv_at hl 0 rfl) ?_
        refine lv_iload_n hx hb dX0_execute_169 rfl (lv_at hl 1 rfl) ?_
        have hFc := va_free (wc := [(x0, .inr (0, [.ref xw, .ref xr, .ref xg, .int pcv, .int trv, .int vav, .int dnv])), (xw, .inl (c1, 4096, .inl wd)), (xr, .inl (c2, 4, .inl rg)), (xg, .inl (c3, 32, .inl rs))]) hD hS hA [0, 1, 2, 3] rfl
        refine va_calli (va_runV (As := [.int a1]) (rest := []) ⟨hx, hb, hml, hown, hts⟩ (c_computeWithImmediate l dC dI x0 xw xr xg c1 c2 c3 s.heap.size wd rg rs pcv trv vav dnv a1) (cwV 1 hts (gV mL_X0_99 mI_X0_computeWithImmediate mE_X0_computeWithImmediate mN_X0 mC_X0_computeWithImmediate) rfl rfl rfl (by decide +kernel) ⟨Nat.le_of_ble_eq_true rfl, Nat.le_of_ble_eq_true rfl⟩) ⟨fun a U g mk q => by obtain ⟨q0, q1, qP, qK, qD⟩ := q; exact ⟨q0, q1, qP, va_K.moved (u := U) (U := U.calling g mk a) (Vm.Alike.refl U.vm) qK, qD⟩, va_recv hK hP (ci := 0) (q0 := 0) rfl rfl, fun U hU hW => ⟨rfl, by rw [hU], by rw [hU]; exact hP, va_K.moved hW.alike hK, hD.weaken (fun _ _ _ _ => trivial)⟩⟩ rfl rfl hl.1 rfl (lv_room (Nat.le_of_ble_eq_true rfl)) dX0_execute_170 ⟨Nat.zero_le _, Nat.zero_le _⟩) hS (fun q _ h => hFc q h) hFc (fun r_18 u t H1 locs ht hvm hw hB hz1 hk1 hS => ?_)
        obtain ⟨b_19, hw⟩ := hw
        obtain ⟨wd_20, rs_21, pcv_22, trv_23, vav_24⟩ := u
        obtain ⟨hP1, hK1, hD1⟩ := hB
        rw [ht] at hP1
        obtain ⟨hP, hD⟩ := va_join (wr := []) (w1 := [(x0, .inr (0, [.ref xw, .ref xr, .ref xg, .int pcv_22, .int trv_23, .int vav_24, .int dnv])), (xw, .inl (c1, 4096, .inl wd_20)), (xr, .inl (c2, 4, .inl rg)), (xg, .inl (c3, 32, .inl rs_21))]) hP hD [0, 1, 2, 3] [] rfl rfl (by decide) (by decide) hk1 hFc hP1 hD1
        generalize H1 = H at hP hS ⊢
        have hP : va_P (dC, dI) vwCl [(x0, .inr (0, [.ref xw, .ref xr, .ref xg, .int pcv_22, .int trv_23, .int vav_24, .int dnv])), (xw, .inl (c1, 4096, .inl wd_20)), (xr, .inl (c2, 4, .inl rg)), (xg, .inl (c3, 32, .inl rs_21))] H := hP
        have hD : va_D A [(x0, .inr (0, [.ref xw, .ref xr, .ref xg, .int pcv_22, .int trv_23, .int vav_24, .int dnv])), (xw, .inl (c1, 4096, .inl wd_20)), (xr, .inl (c2, 4, .inl rg)), (xg, .inl (c3, 32, .inl rs_21))] := hD
        exact W.zret (v := r_18) (ty := .boolean) hx hb hr b_19 (fun t ht hW => ⟨⟨_, (wd_20, rs_21, pcv_22, trv_23, vav_24), rfl, ⟨b_19, (by unfold F_execute; rw [if_neg c_1, if_neg c_9, if_pos c_17]; exact hw)⟩, by rw [ht]; exact hP, va_K.moved hW.alike hK, hD⟩, hS.F ht⟩) hS.2.2 dX0_execute_173
      · by_cases c_25 : (a1 &&& 127) = 23
        · refine lv_lookup (tgt := 114) (off := 110) hx hb dX0_execute_4 (by decide) (by rw [c_25] <;> rfl) (by decide) ?_
          refine lv_aload_n hx hb dX0_execute_114 rfl (lv_at hl 0 rfl) ?_
          refine lv_iload_n hx hb dX0_execute_115 rfl (lv_at hl 1 rfl) ?_
          refine lv_aload_n hx hb dX0_execute_116 rfl (lv_at hl 0 rfl) ?_
          refine va_get (D := (dC, dI)) (ci := 0) (v := .int pcv) (C := RX0) (T := TX0) (N := 7) hx hb hts (gw_lay lay_X0) hown hK hP 0 rfl rfl 3 (by decide) (hts _ (gcons mF_X0_19)) (fun _ h9 => h9) rfl dX0_execute_117 ?_
          refine lv_iload_n hx hb dX0_execute_120 rfl (lv_at hl 1 rfl) ?_
          refine vp_callSi (W.runS (As := [.int a1]) (rest := [.int pcv, .int a1, .ref x0]) ⟨hx, hb, hml, hown, hts⟩ (c_upperImmediate l a1) (cwS 1 hts (gS mL_X0_75 mS_X0_upperImmediate mN_X0 mC_X0_upperImmediate) rfl rfl rfl (by decide +kernel) ⟨Nat.le_of_ble_eq_true rfl, Nat.le_of_ble_eq_true rfl⟩) preEq rfl rfl hl.1 rfl (lv_room (Nat.le_of_ble_eq_true rfl)) dX0_execute_121 ⟨Nat.zero_le _, Nat.zero_le _⟩) (fun r_26 hw => ?_)
          subst hw
          refine lv_iadd hx hb dX0_execute_124 ?_
          have hFc := va_free (wc := [(x0, .inr (0, [.ref xw, .ref xr, .ref xg, .int pcv, .int trv, .int vav, .int dnv])), (xw, .inl (c1, 4096, .inl wd)), (xr, .inl (c2, 4, .inl rg)), (xg, .inl (c3, 32, .inl rs))]) hD hS hA [0, 1, 2, 3] rfl
          refine va_calli (va_runV (As := [.int a1, .int (pcv + (F_upperImmediate a1))]) (rest := []) ⟨hx, hb, hml, hown, hts⟩ (c_finish l dC dI x0 xw xr xg c1 c2 c3 s.heap.size wd rg rs pcv trv vav dnv a1 (pcv + (F_upperImmediate a1))) (cwV 2 hts (gV mL_X0_78 mI_X0_finish mE_X0_finish mN_X0 mC_X0_finish) rfl rfl rfl (by decide +kernel) ⟨Nat.le_of_ble_eq_true rfl, Nat.le_of_ble_eq_true rfl⟩) ⟨fun a U g mk q => by obtain ⟨q0, q1, qP, qK, qD⟩ := q; exact ⟨q0, q1, qP, va_K.moved (u := U) (U := U.calling g mk a) (Vm.Alike.refl U.vm) qK, qD⟩, va_recv hK hP (ci := 0) (q0 := 0) rfl rfl, fun U hU hW => ⟨rfl, by rw [hU], by rw [hU]; exact hP, va_K.moved hW.alike hK, hD.weaken (fun _ _ _ _ => trivial)⟩⟩ rfl rfl hl.1 rfl (lv_room (Nat.le_of_ble_eq_true rfl)) dX0_execute_125 ⟨Nat.zero_le _, Nat.zero_le _⟩) hS (fun q _ h => hFc q h) hFc (fun r_27 u t H1 locs ht hvm hw hB hz1 hk1 hS => ?_)
          obtain ⟨b_28, hw⟩ := hw
          obtain ⟨wd_29, rs_30, pcv_31, trv_32, vav_33⟩ := u
          obtain ⟨hP1, hK1, hD1⟩ := hB
          rw [ht] at hP1
          obtain ⟨hP, hD⟩ := va_join (wr := []) (w1 := [(x0, .inr (0, [.ref xw, .ref xr, .ref xg, .int pcv_31, .int trv_32, .int vav_33, .int dnv])), (xw, .inl (c1, 4096, .inl wd_29)), (xr, .inl (c2, 4, .inl rg)), (xg, .inl (c3, 32, .inl rs_30))]) hP hD [0, 1, 2, 3] [] rfl rfl (by decide) (by decide) hk1 hFc hP1 hD1
          generalize H1 = H at hP hS ⊢
          have hP : va_P (dC, dI) vwCl [(x0, .inr (0, [.ref xw, .ref xr, .ref xg, .int pcv_31, .int trv_32, .int vav_33, .int dnv])), (xw, .inl (c1, 4096, .inl wd_29)), (xr, .inl (c2, 4, .inl rg)), (xg, .inl (c3, 32, .inl rs_30))] H := hP
          have hD : va_D A [(x0, .inr (0, [.ref xw, .ref xr, .ref xg, .int pcv_31, .int trv_32, .int vav_33, .int dnv])), (xw, .inl (c1, 4096, .inl wd_29)), (xr, .inl (c2, 4, .inl rg)), (xg, .inl (c3, 32, .inl rs_30))] := hD
          exact W.zret (v := r_27) (ty := .boolean) hx hb hr b_28 (fun t ht hW => ⟨⟨_, (wd_29, rs_30, pcv_31, trv_32, vav_33), rfl, ⟨b_28, (by unfold F_execute; rw [if_neg c_1, if_neg c_9, if_neg c_17, if_pos c_25]; exact hw)⟩, by rw [ht]; exact hP, va_K.moved hW.alike hK, hD⟩, hS.F ht⟩) hS.2.2 dX0_execute_128
        · by_cases c_34 : (a1 &&& 127) = 35
          · refine lv_lookup (tgt := 162) (off := 158) hx hb dX0_execute_4 (by decide) (by rw [c_34] <;> rfl) (by decide) ?_
            refine lv_aload_n hx hb dX0_execute_162 rfl (lv_at hl 0 rfl) ?_
            refine lv_iload_n hx hb dX0_execute_163 rfl (lv_at hl 1 rfl) ?_
            have hFc := va_free (wc := [(x0, .inr (0, [.ref xw, .ref xr, .ref xg, .int pcv, .int trv, .int vav, .int dnv])), (xw, .inl (c1, 4096, .inl wd)), (xr, .inl (c2, 4, .inl rg)), (xg, .inl (c3, 32, .inl rs))]) hD hS hA [0, 1, 2, 3] rfl
            refine va_calli (va_runV (As := [.int a1]) (rest := []) ⟨hx, hb, hml, hown, hts⟩ (c_store l dC dI x0 xw xr xg c1 c2 c3 s.heap.size wd rg rs pcv trv vav dnv a1) (cwV 1 hts (gV mL_X0_96 mI_X0_store mE_X0_store mN_X0 mC_X0_store) rfl rfl rfl (by decide +kernel) ⟨Nat.le_of_ble_eq_true rfl, Nat.le_of_ble_eq_true rfl⟩) ⟨fun a U g mk q => by obtain ⟨q0, q1, qP, qK, qD⟩ := q; exact ⟨q0, q1, qP, va_K.moved (u := U) (U := U.calling g mk a) (Vm.Alike.refl U.vm) qK, qD⟩, va_recv hK hP (ci := 0) (q0 := 0) rfl rfl, fun U hU hW => ⟨rfl, by rw [hU], by rw [hU]; exact hP, va_K.moved hW.alike hK, hD.weaken (fun _ _ _ _ => trivial)⟩⟩ rfl rfl hl.1 rfl (lv_room (Nat.le_of_ble_eq_true rfl)) dX0_execute_164 ⟨Nat.zero_le _, Nat.zero_le _⟩) hS (fun q _ h => hFc q h) hFc (fun r_35 u t H1 locs ht hvm hw hB hz1 hk1 hS => ?_)
            obtain ⟨b_36, hw⟩ := hw
            obtain ⟨wd_37, rs_38, pcv_39, trv_40, vav_41⟩ := u
            obtain ⟨hP1, hK1, hD1⟩ := hB
            rw [ht] at hP1
            obtain ⟨hP, hD⟩ := va_join (wr := []) (w1 := [(x0, .inr (0, [.ref xw, .ref xr, .ref xg, .int pcv_39, .int trv_40, .int vav_41, .int dnv])), (xw, .inl (c1, 4096, .inl wd_37)), (xr, .inl (c2, 4, .inl rg)), (xg, .inl (c3, 32, .inl rs_38))]) hP hD [0, 1, 2, 3] [] rfl rfl (by decide) (by decide) hk1 hFc hP1 hD1
            generalize H1 = H at hP hS ⊢
            have hP : va_P (dC, dI) vwCl [(x0, .inr (0, [.ref xw, .ref xr, .ref xg, .int pcv_39, .int trv_40, .int vav_41, .int dnv])), (xw, .inl (c1, 4096, .inl wd_37)), (xr, .inl (c2, 4, .inl rg)), (xg, .inl (c3, 32, .inl rs_38))] H := hP
            have hD : va_D A [(x0, .inr (0, [.ref xw, .ref xr, .ref xg, .int pcv_39, .int trv_40, .int vav_41, .int dnv])), (xw, .inl (c1, 4096, .inl wd_37)), (xr, .inl (c2, 4, .inl rg)), (xg, .inl (c3, 32, .inl rs_38))] := hD
            exact W.zret (v := r_35) (ty := .boolean) hx hb hr b_36 (fun t ht hW => ⟨⟨_, (wd_37, rs_38, pcv_39, trv_40, vav_41), rfl, ⟨b_36, (by unfold F_execute; rw [if_neg c_1, if_neg c_9, if_neg c_17, if_neg c_25, if_pos c_34]; exact hw)⟩, by rw [ht]; exact hP, va_K.moved hW.alike hK, hD⟩, hS.F ht⟩) hS.2.2 dX0_execute_167
          · by_cases c_42 : (a1 &&& 127) = 51
            · refine lv_lookup (tgt := 174) (off := 170) hx hb dX0_execute_4 (by decide) (by rw [c_42] <;> rfl) (by decide) ?_
              refine lv_aload_n hx hb dX0_execute_174 rfl (lv_at hl 0 rfl) ?_
              refine lv_iload_n hx hb dX0_execute_175 rfl (lv_at hl 1 rfl) ?_
              have hFc := va_free (wc := [(x0, .inr (0, [.ref xw, .ref xr, .ref xg, .int pcv, .int trv, .int vav, .int dnv])), (xw, .inl (c1, 4096, .inl wd)), (xr, .inl (c2, 4, .inl rg)), (xg, .inl (c3, 32, .inl rs))]) hD hS hA [0, 1, 2, 3] rfl
              refine va_calli (va_runV (As := [.int a1]) (rest := []) ⟨hx, hb, hml, hown, hts⟩ (c_computeWithRegisters l dC dI x0 xw xr xg c1 c2 c3 s.heap.size wd rg rs pcv trv vav dnv a1) (cwV 1 hts (gV mL_X0_102 mI_X0_computeWithRegisters mE_X0_computeWithRegisters mN_X0 mC_X0_computeWithRegisters) rfl rfl rfl (by decide +kernel) ⟨Nat.le_of_ble_eq_true rfl, Nat.le_of_ble_eq_true rfl⟩) ⟨fun a U g mk q => by obtain ⟨q0, q1, qP, qK, qD⟩ := q; exact ⟨q0, q1, qP, va_K.moved (u := U) (U := U.calling g mk a) (Vm.Alike.refl U.vm) qK, qD⟩, va_recv hK hP (ci := 0) (q0 := 0) rfl rfl, fun U hU hW => ⟨rfl, by rw [hU], by rw [hU]; exact hP, va_K.moved hW.alike hK, hD.weaken (fun _ _ _ _ => trivial)⟩⟩ rfl rfl hl.1 rfl (lv_room (Nat.le_of_ble_eq_true rfl)) dX0_execute_176 ⟨Nat.zero_le _, Nat.zero_le _⟩) hS (fun q _ h => hFc q h) hFc (fun r_43 u t H1 locs ht hvm hw hB hz1 hk1 hS => ?_)
              obtain ⟨b_44, hw⟩ := hw
              obtain ⟨wd_45, rs_46, pcv_47, trv_48, vav_49⟩ := u
              obtain ⟨hP1, hK1, hD1⟩ := hB
              rw [ht] at hP1
              obtain ⟨hP, hD⟩ := va_join (wr := []) (w1 := [(x0, .inr (0, [.ref xw, .ref xr, .ref xg, .int pcv_47, .int trv_48, .int vav_49, .int dnv])), (xw, .inl (c1, 4096, .inl wd_45)), (xr, .inl (c2, 4, .inl rg)), (xg, .inl (c3, 32, .inl rs_46))]) hP hD [0, 1, 2, 3] [] rfl rfl (by decide) (by decide) hk1 hFc hP1 hD1
              generalize H1 = H at hP hS ⊢
              have hP : va_P (dC, dI) vwCl [(x0, .inr (0, [.ref xw, .ref xr, .ref xg, .int pcv_47, .int trv_48, .int vav_49, .int dnv])), (xw, .inl (c1, 4096, .inl wd_45)), (xr, .inl (c2, 4, .inl rg)), (xg, .inl (c3, 32, .inl rs_46))] H := hP
              have hD : va_D A [(x0, .inr (0, [.ref xw, .ref xr, .ref xg, .int pcv_47, .int trv_48, .int vav_49, .int dnv])), (xw, .inl (c1, 4096, .inl wd_45)), (xr, .inl (c2, 4, .inl rg)), (xg, .inl (c3, 32, .inl rs_46))] := hD
              exact W.zret (v := r_43) (ty := .boolean) hx hb hr b_44 (fun t ht hW => ⟨⟨_, (wd_45, rs_46, pcv_47, trv_48, vav_49), rfl, ⟨b_44, (by unfold F_execute; rw [if_neg c_1, if_neg c_9, if_neg c_17, if_neg c_25, if_neg c_34, if_pos c_42]; exact hw)⟩, by rw [ht]; exact hP, va_K.moved hW.alike hK, hD⟩, hS.F ht⟩) hS.2.2 dX0_execute_179
            · by_cases c_50 : (a1 &&& 127) = 55
              · refine lv_lookup (tgt := 104) (off := 100) hx hb dX0_execute_4 (by decide) (by rw [c_50] <;> rfl) (by decide) ?_
                refine lv_aload_n hx hb dX0_execute_104 rfl (lv_at hl 0 rfl) ?_
                refine lv_iload_n hx hb dX0_execute_105 rfl (lv_at hl 1 rfl) ?_
                refine lv_iload_n hx hb dX0_execute_106 rfl (lv_at hl 1 rfl) ?_
                refine vp_callSi (W.runS (As := [.int a1]) (rest := [.int a1, .ref x0]) ⟨hx, hb, hml, hown, hts⟩ (c_upperImmediate l a1) (cwS 1 hts (gS mL_X0_75 mS_X0_upperImmediate mN_X0 mC_X0_upperImmediate) rfl rfl rfl (by decide +kernel) ⟨Nat.le_of_ble_eq_true rfl, Nat.le_of_ble_eq_true rfl⟩) preEq rfl rfl hl.1 rfl (lv_room (Nat.le_of_ble_eq_true rfl)) dX0_execute_107 ⟨Nat.zero_le _, Nat.zero_le _⟩) (fun r_51 hw => ?_)
                subst hw
                have hFc := va_free (wc := [(x0, .inr (0, [.ref xw, .ref xr, .ref xg, .int pcv, .int trv, .int vav, .int dnv])), (xw, .inl (c1, 4096, .inl wd)), (xr, .inl (c2, 4, .inl rg)), (xg, .inl (c3, 32, .inl rs))]) hD hS hA [0, 1, 2, 3] rfl
                refine va_calli (va_runV (As := [.int a1, .int (F_upperImmediate a1)]) (rest := []) ⟨hx, hb, hml, hown, hts⟩ (c_finish l dC dI x0 xw xr xg c1 c2 c3 s.heap.size wd rg rs pcv trv vav dnv a1 (F_upperImmediate a1)) (cwV 2 hts (gV mL_X0_78 mI_X0_finish mE_X0_finish mN_X0 mC_X0_finish) rfl rfl rfl (by decide +kernel) ⟨Nat.le_of_ble_eq_true rfl, Nat.le_of_ble_eq_true rfl⟩) ⟨fun a U g mk q => by obtain ⟨q0, q1, qP, qK, qD⟩ := q; exact ⟨q0, q1, qP, va_K.moved (u := U) (U := U.calling g mk a) (Vm.Alike.refl U.vm) qK, qD⟩, va_recv hK hP (ci := 0) (q0 := 0) rfl rfl, fun U hU hW => ⟨rfl, by rw [hU], by rw [hU]; exact hP, va_K.moved hW.alike hK, hD.weaken (fun _ _ _ _ => trivial)⟩⟩ rfl rfl hl.1 rfl (lv_room (Nat.le_of_ble_eq_true rfl)) dX0_execute_110 ⟨Nat.zero_le _, Nat.zero_le _⟩) hS (fun q _ h => hFc q h) hFc (fun r_52 u t H1 locs ht hvm hw hB hz1 hk1 hS => ?_)
                obtain ⟨b_53, hw⟩ := hw
                obtain ⟨wd_54, rs_55, pcv_56, trv_57, vav_58⟩ := u
                obtain ⟨hP1, hK1, hD1⟩ := hB
                rw [ht] at hP1
                obtain ⟨hP, hD⟩ := va_join (wr := []) (w1 := [(x0, .inr (0, [.ref xw, .ref xr, .ref xg, .int pcv_56, .int trv_57, .int vav_58, .int dnv])), (xw, .inl (c1, 4096, .inl wd_54)), (xr, .inl (c2, 4, .inl rg)), (xg, .inl (c3, 32, .inl rs_55))]) hP hD [0, 1, 2, 3] [] rfl rfl (by decide) (by decide) hk1 hFc hP1 hD1
                generalize H1 = H at hP hS ⊢
                have hP : va_P (dC, dI) vwCl [(x0, .inr (0, [.ref xw, .ref xr, .ref xg, .int pcv_56, .int trv_57, .int vav_58, .int dnv])), (xw, .inl (c1, 4096, .inl wd_54)), (xr, .inl (c2, 4, .inl rg)), (xg, .inl (c3, 32, .inl rs_55))] H := hP
                have hD : va_D A [(x0, .inr (0, [.ref xw, .ref xr, .ref xg, .int pcv_56, .int trv_57, .int vav_58, .int dnv])), (xw, .inl (c1, 4096, .inl wd_54)), (xr, .inl (c2, 4, .inl rg)), (xg, .inl (c3, 32, .inl rs_55))] := hD
                exact W.zret (v := r_52) (ty := .boolean) hx hb hr b_53 (fun t ht hW => ⟨⟨_, (wd_54, rs_55, pcv_56, trv_57, vav_58), rfl, ⟨b_53, (by unfold F_execute; rw [if_neg c_1, if_neg c_9, if_neg c_17, if_neg c_25, if_neg c_34, if_neg c_42, if_pos c_50]; exact hw)⟩, by rw [ht]; exact hP, va_K.moved hW.alike hK, hD⟩, hS.F ht⟩) hS.2.2 dX0_execute_113
              · by_cases c_59 : (a1 &&& 127) = 99
                · refine lv_lookup (tgt := 150) (off := 146) hx hb dX0_execute_4 (by decide) (by rw [c_59] <;> rfl) (by decide) ?_
                  refine lv_aload_n hx hb dX0_execute_150 rfl (lv_at hl 0 rfl) ?_
                  refine lv_iload_n hx hb dX0_execute_151 rfl (lv_at hl 1 rfl) ?_
                  have hFc := va_free (wc := [(x0, .inr (0, [.ref xw, .ref xr, .ref xg, .int pcv, .int trv, .int vav, .int dnv])), (xw, .inl (c1, 4096, .inl wd)), (xr, .inl (c2, 4, .inl rg)), (xg, .inl (c3, 32, .inl rs))]) hD hS hA [0, 1, 2, 3] rfl
                  refine va_calli (va_runV (As := [.int a1]) (rest := []) ⟨hx, hb, hml, hown, hts⟩ (c_branch l dC dI x0 xw xr xg c1 c2 c3 s.heap.size wd rg rs pcv trv vav dnv a1) (cwV 1 hts (gV mL_X0_90 mI_X0_branch mE_X0_branch mN_X0 mC_X0_branch) rfl rfl rfl (by decide +kernel) ⟨Nat.le_of_ble_eq_true rfl, Nat.le_of_ble_eq_true rfl⟩) ⟨fun a U g mk q => by obtain ⟨q0, q1, qP, qK, qD⟩ := q; exact ⟨q0, q1, qP, va_K.moved (u := U) (U := U.calling g mk a) (Vm.Alike.refl U.vm) qK, qD⟩, va_recv hK hP (ci := 0) (q0 := 0) rfl rfl, fun U hU hW => ⟨rfl, by rw [hU], by rw [hU]; exact hP, va_K.moved hW.alike hK, hD.weaken (fun _ _ _ _ => trivial)⟩⟩ rfl rfl hl.1 rfl (lv_room (Nat.le_of_ble_eq_true rfl)) dX0_execute_152 ⟨Nat.zero_le _, Nat.zero_le _⟩) hS (fun q _ h => hFc q h) hFc (fun r_60 u t H1 locs ht hvm hw hB hz1 hk1 hS => ?_)
                  obtain ⟨b_61, hw⟩ := hw
                  obtain ⟨wd_62, rs_63, pcv_64, trv_65, vav_66⟩ := u
                  obtain ⟨hP1, hK1, hD1⟩ := hB
                  rw [ht] at hP1
                  obtain ⟨hP, hD⟩ := va_join (wr := []) (w1 := [(x0, .inr (0, [.ref xw, .ref xr, .ref xg, .int pcv_64, .int trv_65, .int vav_66, .int dnv])), (xw, .inl (c1, 4096, .inl wd_62)), (xr, .inl (c2, 4, .inl rg)), (xg, .inl (c3, 32, .inl rs_63))]) hP hD [0, 1, 2, 3] [] rfl rfl (by decide) (by decide) hk1 hFc hP1 hD1
                  generalize H1 = H at hP hS ⊢
                  have hP : va_P (dC, dI) vwCl [(x0, .inr (0, [.ref xw, .ref xr, .ref xg, .int pcv_64, .int trv_65, .int vav_66, .int dnv])), (xw, .inl (c1, 4096, .inl wd_62)), (xr, .inl (c2, 4, .inl rg)), (xg, .inl (c3, 32, .inl rs_63))] H := hP
                  have hD : va_D A [(x0, .inr (0, [.ref xw, .ref xr, .ref xg, .int pcv_64, .int trv_65, .int vav_66, .int dnv])), (xw, .inl (c1, 4096, .inl wd_62)), (xr, .inl (c2, 4, .inl rg)), (xg, .inl (c3, 32, .inl rs_63))] := hD
                  exact W.zret (v := r_60) (ty := .boolean) hx hb hr b_61 (fun t ht hW => ⟨⟨_, (wd_62, rs_63, pcv_64, trv_65, vav_66), rfl, ⟨b_61, (by unfold F_execute; rw [if_neg c_1, if_neg c_9, if_neg c_17, if_neg c_25, if_neg c_34, if_neg c_42, if_neg c_50, if_pos c_59]; exact hw)⟩, by rw [ht]; exact hP, va_K.moved hW.alike hK, hD⟩, hS.F ht⟩) hS.2.2 dX0_execute_155
                · by_cases c_67 : (a1 &&& 127) = 103
                  · refine lv_lookup (tgt := 144) (off := 140) hx hb dX0_execute_4 (by decide) (by rw [c_67] <;> rfl) (by decide) ?_
                    refine lv_aload_n hx hb dX0_execute_144 rfl (lv_at hl 0 rfl) ?_
                    refine lv_iload_n hx hb dX0_execute_145 rfl (lv_at hl 1 rfl) ?_
                    have hFc := va_free (wc := [(x0, .inr (0, [.ref xw, .ref xr, .ref xg, .int pcv, .int trv, .int vav, .int dnv])), (xw, .inl (c1, 4096, .inl wd)), (xr, .inl (c2, 4, .inl rg)), (xg, .inl (c3, 32, .inl rs))]) hD hS hA [0, 1, 2, 3] rfl
                    refine va_calli (va_runV (As := [.int a1]) (rest := []) ⟨hx, hb, hml, hown, hts⟩ (c_goToRegister l dC dI x0 xw xr xg c1 c2 c3 s.heap.size wd rg rs pcv trv vav dnv a1) (cwV 1 hts (gV mL_X0_87 mI_X0_goToRegister mE_X0_goToRegister mN_X0 mC_X0_goToRegister) rfl rfl rfl (by decide +kernel) ⟨Nat.le_of_ble_eq_true rfl, Nat.le_of_ble_eq_true rfl⟩) ⟨fun a U g mk q => by obtain ⟨q0, q1, qP, qK, qD⟩ := q; exact ⟨q0, q1, qP, va_K.moved (u := U) (U := U.calling g mk a) (Vm.Alike.refl U.vm) qK, qD⟩, va_recv hK hP (ci := 0) (q0 := 0) rfl rfl, fun U hU hW => ⟨rfl, by rw [hU], by rw [hU]; exact hP, va_K.moved hW.alike hK, hD.weaken (fun _ _ _ _ => trivial)⟩⟩ rfl rfl hl.1 rfl (lv_room (Nat.le_of_ble_eq_true rfl)) dX0_execute_146 ⟨Nat.zero_le _, Nat.zero_le _⟩) hS (fun q _ h => hFc q h) hFc (fun r_68 u t H1 locs ht hvm hw hB hz1 hk1 hS => ?_)
                    obtain ⟨b_69, hw⟩ := hw
                    obtain ⟨wd_70, rs_71, pcv_72, trv_73, vav_74⟩ := u
                    obtain ⟨hP1, hK1, hD1⟩ := hB
                    rw [ht] at hP1
                    obtain ⟨hP, hD⟩ := va_join (wr := []) (w1 := [(x0, .inr (0, [.ref xw, .ref xr, .ref xg, .int pcv_72, .int trv_73, .int vav_74, .int dnv])), (xw, .inl (c1, 4096, .inl wd_70)), (xr, .inl (c2, 4, .inl rg)), (xg, .inl (c3, 32, .inl rs_71))]) hP hD [0, 1, 2, 3] [] rfl rfl (by decide) (by decide) hk1 hFc hP1 hD1
                    generalize H1 = H at hP hS ⊢
                    have hP : va_P (dC, dI) vwCl [(x0, .inr (0, [.ref xw, .ref xr, .ref xg, .int pcv_72, .int trv_73, .int vav_74, .int dnv])), (xw, .inl (c1, 4096, .inl wd_70)), (xr, .inl (c2, 4, .inl rg)), (xg, .inl (c3, 32, .inl rs_71))] H := hP
                    have hD : va_D A [(x0, .inr (0, [.ref xw, .ref xr, .ref xg, .int pcv_72, .int trv_73, .int vav_74, .int dnv])), (xw, .inl (c1, 4096, .inl wd_70)), (xr, .inl (c2, 4, .inl rg)), (xg, .inl (c3, 32, .inl rs_71))] := hD
                    exact W.zret (v := r_68) (ty := .boolean) hx hb hr b_69 (fun t ht hW => ⟨⟨_, (wd_70, rs_71, pcv_72, trv_73, vav_74), rfl, ⟨b_69, (by unfold F_execute; rw [if_neg c_1, if_neg c_9, if_neg c_17, if_neg c_25, if_neg c_34, if_neg c_42, if_neg c_50, if_neg c_59, if_pos c_67]; exact hw)⟩, by rw [ht]; exact hP, va_K.moved hW.alike hK, hD⟩, hS.F ht⟩) hS.2.2 dX0_execute_149
                  · by_cases c_75 : (a1 &&& 127) = 111
                    · refine lv_lookup (tgt := 129) (off := 125) hx hb dX0_execute_4 (by decide) (by rw [c_75] <;> rfl) (by decide) ?_
                      refine lv_aload_n hx hb dX0_execute_129 rfl (lv_at hl 0 rfl) ?_
                      refine lv_iload_n hx hb dX0_execute_130 rfl (lv_at hl 1 rfl) ?_
                      refine lv_aload_n hx hb dX0_execute_131 rfl (lv_at hl 0 rfl) ?_
                      refine va_get (D := (dC, dI)) (ci := 0) (v := .int pcv) (C := RX0) (T := TX0) (N := 7) hx hb hts (gw_lay lay_X0) hown hK hP 0 rfl rfl 3 (by decide) (hts _ (gcons mF_X0_19)) (fun _ h9 => h9) rfl dX0_execute_132 ?_
                      refine lv_iload_n hx hb dX0_execute_135 rfl (lv_at hl 1 rfl) ?_
                      refine vp_callSi (W.runS (As := [.int a1]) (rest := [.int pcv, .int a1, .ref x0]) ⟨hx, hb, hml, hown, hts⟩ (c_jumpImmediate l a1) (cwS 1 hts (gS mL_X0_81 mS_X0_jumpImmediate mN_X0 mC_X0_jumpImmediate) rfl rfl rfl (by decide +kernel) ⟨Nat.le_of_ble_eq_true rfl, Nat.le_of_ble_eq_true rfl⟩) preEq rfl rfl hl.1 rfl (lv_room (Nat.le_of_ble_eq_true rfl)) dX0_execute_136 ⟨Nat.zero_le _, Nat.zero_le _⟩) (fun r_76 hw => ?_)
                      subst hw
                      refine lv_iadd hx hb dX0_execute_139 ?_
                      have hFc := va_free (wc := [(x0, .inr (0, [.ref xw, .ref xr, .ref xg, .int pcv, .int trv, .int vav, .int dnv])), (xw, .inl (c1, 4096, .inl wd)), (xr, .inl (c2, 4, .inl rg)), (xg, .inl (c3, 32, .inl rs))]) hD hS hA [0, 1, 2, 3] rfl
                      refine va_calli (va_runV (As := [.int a1, .int (pcv + (F_jumpImmediate a1))]) (rest := []) ⟨hx, hb, hml, hown, hts⟩ (c_linkAndGo l dC dI x0 xw xr xg c1 c2 c3 s.heap.size wd rg rs pcv trv vav dnv a1 (pcv + (F_jumpImmediate a1))) (cwV 2 hts (gV mL_X0_84 mI_X0_linkAndGo mE_X0_linkAndGo mN_X0 mC_X0_linkAndGo) rfl rfl rfl (by decide +kernel) ⟨Nat.le_of_ble_eq_true rfl, Nat.le_of_ble_eq_true rfl⟩) ⟨fun a U g mk q => by obtain ⟨q0, q1, qP, qK, qD⟩ := q; exact ⟨q0, q1, qP, va_K.moved (u := U) (U := U.calling g mk a) (Vm.Alike.refl U.vm) qK, qD⟩, va_recv hK hP (ci := 0) (q0 := 0) rfl rfl, fun U hU hW => ⟨rfl, by rw [hU], by rw [hU]; exact hP, va_K.moved hW.alike hK, hD.weaken (fun _ _ _ _ => trivial)⟩⟩ rfl rfl hl.1 rfl (lv_room (Nat.le_of_ble_eq_true rfl)) dX0_execute_140 ⟨Nat.zero_le _, Nat.zero_le _⟩) hS (fun q _ h => hFc q h) hFc (fun r_77 u t H1 locs ht hvm hw hB hz1 hk1 hS => ?_)
                      obtain ⟨b_78, hw⟩ := hw
                      obtain ⟨wd_79, rs_80, pcv_81, trv_82, vav_83⟩ := u
                      obtain ⟨hP1, hK1, hD1⟩ := hB
                      rw [ht] at hP1
                      obtain ⟨hP, hD⟩ := va_join (wr := []) (w1 := [(x0, .inr (0, [.ref xw, .ref xr, .ref xg, .int pcv_81, .int trv_82, .int vav_83, .int dnv])), (xw, .inl (c1, 4096, .inl wd_79)), (xr, .inl (c2, 4, .inl rg)), (xg, .inl (c3, 32, .inl rs_80))]) hP hD [0, 1, 2, 3] [] rfl rfl (by decide) (by decide) hk1 hFc hP1 hD1
                      generalize H1 = H at hP hS ⊢
                      have hP : va_P (dC, dI) vwCl [(x0, .inr (0, [.ref xw, .ref xr, .ref xg, .int pcv_81, .int trv_82, .int vav_83, .int dnv])), (xw, .inl (c1, 4096, .inl wd_79)), (xr, .inl (c2, 4, .inl rg)), (xg, .inl (c3, 32, .inl rs_80))] H := hP
                      have hD : va_D A [(x0, .inr (0, [.ref xw, .ref xr, .ref xg, .int pcv_81, .int trv_82, .int vav_83, .int dnv])), (xw, .inl (c1, 4096, .inl wd_79)), (xr, .inl (c2, 4, .inl rg)), (xg, .inl (c3, 32, .inl rs_80))] := hD
                      exact W.zret (v := r_77) (ty := .boolean) hx hb hr b_78 (fun t ht hW => ⟨⟨_, (wd_79, rs_80, pcv_81, trv_82, vav_83), rfl, ⟨b_78, (by unfold F_execute; rw [if_neg c_1, if_neg c_9, if_neg c_17, if_neg c_25, if_neg c_34, if_neg c_42, if_neg c_50, if_neg c_59, if_neg c_67, if_pos c_75]; exact hw)⟩, by rw [ht]; exact hP, va_K.moved hW.alike hK, hD⟩, hS.F ht⟩) hS.2.2 dX0_execute_143
                    · by_cases c_84 : (a1 &&& 127) = 115
                      · refine lv_lookup (tgt := 186) (off := 182) hx hb dX0_execute_4 (by decide) (by rw [c_84] <;> rfl) (by decide) ?_
                        refine lv_aload_n hx hb dX0_execute_186 rfl (lv_at hl 0 rfl) ?_
                        refine lv_iload_n hx hb dX0_execute_187 rfl (lv_at hl 1 rfl) ?_
                        have hFc := va_free (wc := [(x0, .inr (0, [.ref xw, .ref xr, .ref xg, .int pcv, .int trv, .int vav, .int dnv])), (xw, .inl (c1, 4096, .inl wd)), (xr, .inl (c2, 4, .inl rg)), (xg, .inl (c3, 32, .inl rs))]) hD hS hA [0, 1, 2, 3] rfl
                        refine va_calli (va_runV (As := [.int a1]) (rest := []) ⟨hx, hb, hml, hown, hts⟩ (c_callOrBreak l dC dI x0 xw xr xg c1 c2 c3 s.heap.size wd rg rs pcv trv vav dnv a1) (cwV 1 hts (gV mL_X0_108 mI_X0_callOrBreak mE_X0_callOrBreak mN_X0 mC_X0_callOrBreak) rfl rfl rfl (by decide +kernel) ⟨Nat.le_of_ble_eq_true rfl, Nat.le_of_ble_eq_true rfl⟩) ⟨fun a U g mk q => by obtain ⟨q0, q1, qP, qK, qD⟩ := q; exact ⟨q0, q1, qP, va_K.moved (u := U) (U := U.calling g mk a) (Vm.Alike.refl U.vm) qK, qD⟩, va_recv hK hP (ci := 0) (q0 := 0) rfl rfl, fun U hU hW => ⟨rfl, by rw [hU], by rw [hU]; exact hP, va_K.moved hW.alike hK, hD.weaken (fun _ _ _ _ => trivial)⟩⟩ rfl rfl hl.1 rfl (lv_room (Nat.le_of_ble_eq_true rfl)) dX0_execute_188 ⟨Nat.zero_le _, Nat.zero_le _⟩) hS (fun q _ h => hFc q h) hFc (fun r_85 u t H1 locs ht hvm hw hB hz1 hk1 hS => ?_)
                        obtain ⟨b_86, hw⟩ := hw
                        obtain ⟨wd_87, rs_88, pcv_89, trv_90, vav_91⟩ := u
                        obtain ⟨hP1, hK1, hD1⟩ := hB
                        rw [ht] at hP1
                        obtain ⟨hP, hD⟩ := va_join (wr := []) (w1 := [(x0, .inr (0, [.ref xw, .ref xr, .ref xg, .int pcv_89, .int trv_90, .int vav_91, .int dnv])), (xw, .inl (c1, 4096, .inl wd_87)), (xr, .inl (c2, 4, .inl rg)), (xg, .inl (c3, 32, .inl rs_88))]) hP hD [0, 1, 2, 3] [] rfl rfl (by decide) (by decide) hk1 hFc hP1 hD1
                        generalize H1 = H at hP hS ⊢
                        have hP : va_P (dC, dI) vwCl [(x0, .inr (0, [.ref xw, .ref xr, .ref xg, .int pcv_89, .int trv_90, .int vav_91, .int dnv])), (xw, .inl (c1, 4096, .inl wd_87)), (xr, .inl (c2, 4, .inl rg)), (xg, .inl (c3, 32, .inl rs_88))] H := hP
                        have hD : va_D A [(x0, .inr (0, [.ref xw, .ref xr, .ref xg, .int pcv_89, .int trv_90, .int vav_91, .int dnv])), (xw, .inl (c1, 4096, .inl wd_87)), (xr, .inl (c2, 4, .inl rg)), (xg, .inl (c3, 32, .inl rs_88))] := hD
                        exact W.zret (v := r_85) (ty := .boolean) hx hb hr b_86 (fun t ht hW => ⟨⟨_, (wd_87, rs_88, pcv_89, trv_90, vav_91), rfl, ⟨b_86, (by unfold F_execute; rw [if_neg c_1, if_neg c_9, if_neg c_17, if_neg c_25, if_neg c_34, if_neg c_42, if_neg c_50, if_neg c_59, if_neg c_67, if_neg c_75, if_pos c_84]; exact hw)⟩, by rw [ht]; exact hP, va_K.moved hW.alike hK, hD⟩, hS.F ht⟩) hS.2.2 dX0_execute_191
                      · refine lv_lookup (tgt := 192) (off := 188) hx hb dX0_execute_4 (by decide) (by rw [lv_osw c_1 (by decide), lv_osw c_9 (by decide), lv_osw c_17 (by decide), lv_osw c_25 (by decide), lv_osw c_34 (by decide), lv_osw c_42 (by decide), lv_osw c_50 (by decide), lv_osw c_59 (by decide), lv_osw c_67 (by decide), lv_osw c_75 (by decide), lv_osw c_84 (by decide)] <;> rfl) (by decide) ?_
                        refine lv_aload_n hx hb dX0_execute_192 rfl (lv_at hl 0 rfl) ?_
                        refine lv_iload_n hx hb dX0_execute_193 rfl (lv_at hl 1 rfl) ?_
                        have hFc := va_free (wc := [(x0, .inr (0, [.ref xw, .ref xr, .ref xg, .int pcv, .int trv, .int vav, .int dnv])), (xw, .inl (c1, 4096, .inl wd)), (xr, .inl (c2, 4, .inl rg)), (xg, .inl (c3, 32, .inl rs))]) hD hS hA [0, 1, 2, 3] rfl
                        refine va_calli (va_runV (As := [.int a1]) (rest := []) ⟨hx, hb, hml, hown, hts⟩ (c_refuse l dC dI x0 xw xr xg c1 c2 c3 s.heap.size wd rg rs pcv trv vav dnv a1) (cwV 1 hts (gV mL_X0_111 mI_X0_refuse mE_X0_refuse mN_X0 mC_X0_refuse) rfl rfl rfl (by decide +kernel) ⟨Nat.le_of_ble_eq_true rfl, Nat.le_of_ble_eq_true rfl⟩) ⟨fun a U g mk q => by obtain ⟨q0, q1, qP, qK, qD⟩ := q; exact ⟨q0, q1, qP, va_K.moved (u := U) (U := U.calling g mk a) (Vm.Alike.refl U.vm) qK, qD⟩, va_recv hK hP (ci := 0) (q0 := 0) rfl rfl, fun U hU hW => ⟨rfl, by rw [hU], by rw [hU]; exact hP, va_K.moved hW.alike hK, hD.weaken (fun _ _ _ _ => trivial)⟩⟩ rfl rfl hl.1 rfl (lv_room (Nat.le_of_ble_eq_true rfl)) dX0_execute_194 ⟨Nat.zero_le _, Nat.zero_le _⟩) hS (fun q _ h => hFc q h) hFc (fun r_92 u t H1 locs ht hvm hw hB hz1 hk1 hS => ?_)
                        obtain ⟨b_93, hw⟩ := hw
                        obtain ⟨wd_94, rs_95, pcv_96, trv_97, vav_98⟩ := u
                        obtain ⟨hP1, hK1, hD1⟩ := hB
                        rw [ht] at hP1
                        obtain ⟨hP, hD⟩ := va_join (wr := []) (w1 := [(x0, .inr (0, [.ref xw, .ref xr, .ref xg, .int pcv_96, .int trv_97, .int vav_98, .int dnv])), (xw, .inl (c1, 4096, .inl wd_94)), (xr, .inl (c2, 4, .inl rg)), (xg, .inl (c3, 32, .inl rs_95))]) hP hD [0, 1, 2, 3] [] rfl rfl (by decide) (by decide) hk1 hFc hP1 hD1
                        generalize H1 = H at hP hS ⊢
                        have hP : va_P (dC, dI) vwCl [(x0, .inr (0, [.ref xw, .ref xr, .ref xg, .int pcv_96, .int trv_97, .int vav_98, .int dnv])), (xw, .inl (c1, 4096, .inl wd_94)), (xr, .inl (c2, 4, .inl rg)), (xg, .inl (c3, 32, .inl rs_95))] H := hP
                        have hD : va_D A [(x0, .inr (0, [.ref xw, .ref xr, .ref xg, .int pcv_96, .int trv_97, .int vav_98, .int dnv])), (xw, .inl (c1, 4096, .inl wd_94)), (xr, .inl (c2, 4, .inl rg)), (xg, .inl (c3, 32, .inl rs_95))] := hD
                        exact W.zret (v := r_92) (ty := .boolean) hx hb hr b_93 (fun t ht hW => ⟨⟨_, (wd_94, rs_95, pcv_96, trv_97, vav_98), rfl, ⟨b_93, (by unfold F_execute; rw [if_neg c_1, if_neg c_9, if_neg c_17, if_neg c_25, if_neg c_34, if_neg c_42, if_neg c_50, if_neg c_59, if_neg c_67, if_neg c_75, if_neg c_84]; exact hw)⟩, by rw [ht]; exact hP, va_K.moved hW.alike hK, hD⟩, hS.F ht⟩) hS.2.2 dX0_execute_197
def F_makeStep (wd : Nat → Int32) (rg : Nat → Int32) (rs : Nat → Int32) (pcv : Int32) (trv : Int32) (vav : Int32)  : Int32 × (Nat → Int32) × (Nat → Int32) × Int32 × Int32 × Int32 :=
  if (F_isCrooked pcv 4) = 0 then
    if (F_hasRight rg pcv 4) = 0 then
      F_trapWith wd rg rs pcv trv vav 12 pcv
    else
      F_execute wd rg rs pcv trv vav (wd ((pcv.toUInt32 >>> ((2 : Int32).toUInt32 &&& Int32.toUInt32 31)).toInt32).toNatClampNeg)
  else
    F_trapWith wd rg rs pcv trv vav 0 pcv
set_option maxHeartbeats 4000000 in
set_option maxRecDepth 100000 in
theorem c_makeStep (l : Launch) (dC : Nat → ClassId) (dI : Nat → Nat → Nat) (x0 xw xr xg : Nat) (c1 c2 c3 : ClassId) (sz : Nat) (wd : Nat → Int32) (rg : Nat → Int32) (rs : Nat → Int32) (pcv : Int32) (trv : Int32) (vav : Int32) (dnv : Int32)   : Met l yX0_makeStep wsX0_makeStep ({ frames := 5, cells := 0, slots := 0, locals := 109 }) (va_Pc [.ref x0] (fun U => U.heap.size = sz ∧ va_P (dC, dI) vwCl [(x0, .inr (0, [.ref xw, .ref xr, .ref xg, .int pcv, .int trv, .int vav, .int dnv])), (xw, .inl (c1, 4096, .inl wd)), (xr, .inl (c2, 4, .inl rg)), (xg, .inl (c3, 32, .inl rs))] U.heap ∧ va_K (dC, dI) vwCl [(c1, .int), (c2, .int), (c3, .int)] U ∧ va_D (fun _ => True) [(x0, .inr (0, [.ref xw, .ref xr, .ref xg, .int pcv, .int trv, .int vav, .int dnv])), (xw, .inl (c1, 4096, .inl wd)), (xr, .inl (c2, 4, .inl rg)), (xg, .inl (c3, 32, .inl rs))])) (va_Qi (fun (r : Int32) (u : (Nat → Int32) × (Nat → Int32) × Int32 × Int32 × Int32) => narrow .boolean (.int r) = .int r ∧ (r, u) = F_makeStep wd rg rs pcv trv vav) (fun (u : (Nat → Int32) × (Nat → Int32) × Int32 × Int32 × Int32) (t : State) => va_P (dC, dI) vwCl [(x0, .inr (0, [.ref xw, .ref xr, .ref xg, .int u.2.2.1, .int u.2.2.2.1, .int u.2.2.2.2, .int dnv])), (xw, .inl (c1, 4096, .inl u.1)), (xr, .inl (c2, 4, .inl rg)), (xg, .inl (c3, 32, .inl u.2.1))] t.heap ∧ va_K (dC, dI) vwCl [(c1, .int), (c2, .int), (c3, .int)] t ∧ va_D (va_A [(x0, .inr (0, [.ref xw, .ref xr, .ref xg, .int pcv, .int trv, .int vav, .int dnv])), (xw, .inl (c1, 4096, .inl wd)), (xr, .inl (c2, 4, .inl rg)), (xg, .inl (c3, 32, .inl rs))] sz) [(x0, .inr (0, [.ref xw, .ref xr, .ref xg, .int u.2.2.1, .int u.2.2.2.1, .int u.2.2.2.2, .int dnv])), (xw, .inl (c1, 4096, .inl u.1)), (xr, .inl (c2, 4, .inl rg)), (xg, .inl (c3, 32, .inl u.2.1))]) (va_A [(x0, .inr (0, [.ref xw, .ref xr, .ref xg, .int pcv, .int trv, .int vav, .int dnv])), (xw, .inl (c1, 4096, .inl wd)), (xr, .inl (c2, 4, .inl rg)), (xg, .inl (c3, 32, .inl rs))] sz)) 0 0 (va_A [(x0, .inr (0, [.ref xw, .ref xr, .ref xg, .int pcv, .int trv, .int vav, .int dnv])), (xw, .inl (c1, 4096, .inl wd)), (xr, .inl (c2, 4, .inl rg)), (xg, .inl (c3, 32, .inl rs))] sz) := by
  refine Met.ofW (cc := cX0_makeStep) (maxL := 1) (ret := (some .boolean)) (by decide) rfl ?_
  intro p e s m args below meth c s₁ B hml hv
  obtain ⟨rfl, hsz, hP, hK, hD0⟩ := hv
  have hx := B.exec
  have hb := B.bytes
  have hr := B.returns
  have hts := atoms_spec (ws := wsX0_makeStep) B.pre
  have hown : s.vm.findClass RX0 = some m.cls := findClass_of_methodNamed B.named
  have hlocks := B.notSynchronized
  subst hsz
  have hD := hD0.self (sz := s.heap.size)
  generalize hAe : va_A [(x0, .inr (0, [.ref xw, .ref xr, .ref xg, .int pcv, .int trv, .int vav, .int dnv])), (xw, .inl (c1, 4096, .inl wd)), (xr, .inl (c2, 4, .inl rg)), (xg, .inl (c3, 32, .inl rs))] s.heap.size = A at hD ⊢
  have hA : ∀ q : Nat, s.heap.size ≤ q → A q := fun q h => by rw [← hAe]; exact Or.inr h
  have hS : va_S A s.heap s.heap [] := va_S.rf
  have hP : va_P (dC, dI) vwCl [(x0, .inr (0, [.ref xw, .ref xr, .ref xg, .int pcv, .int trv, .int vav, .int dnv])), (xw, .inl (c1, 4096, .inl wd)), (xr, .inl (c2, 4, .inl rg)), (xg, .inl (c3, 32, .inl rs))] s.heap := hP
  have hl := lv_entry ([.ref x0]) (n := 1) (Nat.le_of_ble_eq_true rfl)
  rw [lg_entry_eq]
  generalize (lg_sl ([.ref x0]) ++ List.replicate (1 - (lg_sl ([.ref x0])).length) Slot.unset).toArray = ls at hl ⊢
  have hl : lv_has ls 1 [(0, .ref x0)] := hl
  refine lv_aload_n hx hb dX0_makeStep_0 rfl (lv_at hl 0 rfl) ?_
  refine va_get (D := (dC, dI)) (ci := 0) (v := .int pcv) (C := RX0) (T := TX0) (N := 7) hx hb hts (gw_lay lay_X0) hown hK hP 0 rfl rfl 3 (by decide) (hts _ (gcons mF_X0_19)) (fun _ h9 => h9) rfl dX0_makeStep_1 ?_
  refine lv_iconst (v := 4) hx hb dX0_makeStep_4 (by decide) ?_
  refine vp_callSi (W.runS (As := [.int pcv, .int 4]) (rest := []) ⟨hx, hb, hml, hown, hts⟩ (c_isCrooked l pcv 4) (cwS 2 hts (gS mL_X0_62 mS_X0_isCrooked mN_X0 mC_X0_isCrooked) rfl rfl rfl (by decide +kernel) ⟨Nat.le_of_ble_eq_true rfl, Nat.le_of_ble_eq_true rfl⟩) preEq rfl rfl hl.1 rfl (lv_room (Nat.le_of_ble_eq_true rfl)) dX0_makeStep_5 ⟨Nat.zero_le _, Nat.zero_le _⟩) (fun r_1 hw => ?_)
  obtain ⟨b_2, hw⟩ := hw
  subst hw
  refine lv_if_eq (tgt := 21) hx hb dX0_makeStep_8 (by decide) (fun c_3 => ?_) (fun c_3 => ?_)
  · refine lv_aload_n hx hb dX0_makeStep_21 rfl (lv_at hl 0 rfl) ?_
    refine lv_aload_n hx hb dX0_makeStep_22 rfl (lv_at hl 0 rfl) ?_
    refine va_get (D := (dC, dI)) (ci := 0) (v := .int pcv) (C := RX0) (T := TX0) (N := 7) hx hb hts (gw_lay lay_X0) hown hK hP 0 rfl rfl 3 (by decide) (hts _ (gcons mF_X0_19)) (fun _ h9 => h9) rfl dX0_makeStep_23 ?_
    refine lv_iconst (v := 4) hx hb dX0_makeStep_26 (by decide) ?_
    refine vp_callSi (W.runV (As := [.int pcv, .int 4]) (rest := []) ⟨hx, hb, hml, hown, hts⟩ (c_hasRight l dC dI x0 xw xr xg c1 c2 c3 wd rg rs pcv trv vav dnv pcv 4) (cwV 2 hts (gV mL_X0_69 mI_X0_hasRight mE_X0_hasRight mN_X0 mC_X0_hasRight) rfl rfl rfl (by decide +kernel) ⟨Nat.le_of_ble_eq_true rfl, Nat.le_of_ble_eq_true rfl⟩) ⟨fun a U g mk q => by obtain ⟨q0, qP, qK⟩ := q; exact ⟨q0, qP, va_K.moved (u := U) (U := U.calling g mk a) (Vm.Alike.refl U.vm) qK⟩, va_recv hK hP (ci := 0) (q0 := 0) rfl rfl, fun U hU hW => ⟨rfl, by rw [hU]; exact hP, va_K.moved hW.alike hK⟩⟩ rfl rfl hl.1 rfl (lv_room (Nat.le_of_ble_eq_true rfl)) dX0_makeStep_27 ⟨Nat.zero_le _, Nat.zero_le _⟩) (fun r_4 hw => ?_)
    obtain ⟨b_5, hw⟩ := hw
    subst hw
    refine lv_if_ne (tgt := 44) hx hb dX0_makeStep_30 (by decide) (fun c_6 => ?_) (fun c_6 => ?_)
    · refine lv_aload_n hx hb dX0_makeStep_44 rfl (lv_at hl 0 rfl) ?_
      refine lv_aload_n hx hb dX0_makeStep_45 rfl (lv_at hl 0 rfl) ?_
      refine va_get (D := (dC, dI)) (ci := 0) (v := .ref xw) (C := RX0) (T := TX0) (N := 7) hx hb hts (gw_lay lay_X0) hown hK hP 0 rfl rfl 0 (by decide) (hts _ (gcons mF_X0_9)) (fun _ h9 => h9) rfl dX0_makeStep_46 ?_
      refine lv_aload_n hx hb dX0_makeStep_49 rfl (lv_at hl 0 rfl) ?_
      refine va_get (D := (dC, dI)) (ci := 0) (v := .int pcv) (C := RX0) (T := TX0) (N := 7) hx hb hts (gw_lay lay_X0) hown hK hP 0 rfl rfl 3 (by decide) (hts _ (gcons mF_X0_19)) (fun _ h9 => h9) rfl dX0_makeStep_50 ?_
      refine lv_iconst (v := 2) hx hb dX0_makeStep_53 (by decide) ?_
      refine lv_iushr (v := (pcv.toUInt32 >>> ((2 : Int32).toUInt32 &&& Int32.toUInt32 31)).toInt32) hx hb dX0_makeStep_54 rfl ?_
      refine va_iald hx hb hK hP 1 0 rfl rfl (in_step c_6) dX0_makeStep_55 ?_
      have hFc := va_free (wc := [(x0, .inr (0, [.ref xw, .ref xr, .ref xg, .int pcv, .int trv, .int vav, .int dnv])), (xw, .inl (c1, 4096, .inl wd)), (xr, .inl (c2, 4, .inl rg)), (xg, .inl (c3, 32, .inl rs))]) hD hS hA [0, 1, 2, 3] rfl
      refine va_calli (va_runV (As := [.int (wd ((pcv.toUInt32 >>> ((2 : Int32).toUInt32 &&& Int32.toUInt32 31)).toInt32).toNatClampNeg)]) (rest := []) ⟨hx, hb, hml, hown, hts⟩ (c_execute l dC dI x0 xw xr xg c1 c2 c3 s.heap.size wd rg rs pcv trv vav dnv (wd ((pcv.toUInt32 >>> ((2 : Int32).toUInt32 &&& Int32.toUInt32 31)).toInt32).toNatClampNeg)) (cwV 1 hts (gV mL_X0_72 mI_X0_execute mE_X0_execute mN_X0 mC_X0_execute) rfl rfl rfl (by decide +kernel) ⟨Nat.le_of_ble_eq_true rfl, Nat.le_of_ble_eq_true rfl⟩) ⟨fun a U g mk q => by obtain ⟨q0, q1, qP, qK, qD⟩ := q; exact ⟨q0, q1, qP, va_K.moved (u := U) (U := U.calling g mk a) (Vm.Alike.refl U.vm) qK, qD⟩, va_recv hK hP (ci := 0) (q0 := 0) rfl rfl, fun U hU hW => ⟨rfl, by rw [hU], by rw [hU]; exact hP, va_K.moved hW.alike hK, hD.weaken (fun _ _ _ _ => trivial)⟩⟩ rfl rfl hl.1 rfl (lv_room (Nat.le_of_ble_eq_true rfl)) dX0_makeStep_56 ⟨Nat.zero_le _, Nat.zero_le _⟩) hS (fun q _ h => hFc q h) hFc (fun r_7 u t H1 locs ht hvm hw hB hz1 hk1 hS => ?_)
      obtain ⟨b_8, hw⟩ := hw
      obtain ⟨wd_9, rs_10, pcv_11, trv_12, vav_13⟩ := u
      obtain ⟨hP1, hK1, hD1⟩ := hB
      rw [ht] at hP1
      obtain ⟨hP, hD⟩ := va_join (wr := []) (w1 := [(x0, .inr (0, [.ref xw, .ref xr, .ref xg, .int pcv_11, .int trv_12, .int vav_13, .int dnv])), (xw, .inl (c1, 4096, .inl wd_9)), (xr, .inl (c2, 4, .inl rg)), (xg, .inl (c3, 32, .inl rs_10))]) hP hD [0, 1, 2, 3] [] rfl rfl (by decide) (by decide) hk1 hFc hP1 hD1
      generalize H1 = H at hP hS ⊢
      have hP : va_P (dC, dI) vwCl [(x0, .inr (0, [.ref xw, .ref xr, .ref xg, .int pcv_11, .int trv_12, .int vav_13, .int dnv])), (xw, .inl (c1, 4096, .inl wd_9)), (xr, .inl (c2, 4, .inl rg)), (xg, .inl (c3, 32, .inl rs_10))] H := hP
      have hD : va_D A [(x0, .inr (0, [.ref xw, .ref xr, .ref xg, .int pcv_11, .int trv_12, .int vav_13, .int dnv])), (xw, .inl (c1, 4096, .inl wd_9)), (xr, .inl (c2, 4, .inl rg)), (xg, .inl (c3, 32, .inl rs_10))] := hD
      exact W.zret (v := r_7) (ty := .boolean) hx hb hr b_8 (fun t ht hW => ⟨⟨_, (wd_9, rs_10, pcv_11, trv_12, vav_13), rfl, ⟨b_8, (by unfold F_makeStep; rw [if_pos c_3, if_neg c_6]; exact hw)⟩, by rw [ht]; exact hP, va_K.moved hW.alike hK, hD⟩, hS.F ht⟩) hS.2.2 dX0_makeStep_59
    · refine lv_aload_n hx hb dX0_makeStep_33 rfl (lv_at hl 0 rfl) ?_
      refine lv_bipush (v := 12) hx hb dX0_makeStep_34 (by decide) ?_
      refine lv_aload_n hx hb dX0_makeStep_36 rfl (lv_at hl 0 rfl) ?_
      refine va_get (D := (dC, dI)) (ci := 0) (v := .int pcv) (C := RX0) (T := TX0) (N := 7) hx hb hts (gw_lay lay_X0) hown hK hP 0 rfl rfl 3 (by decide) (hts _ (gcons mF_X0_19)) (fun _ h9 => h9) rfl dX0_makeStep_37 ?_
      have hFc := va_free (wc := [(x0, .inr (0, [.ref xw, .ref xr, .ref xg, .int pcv, .int trv, .int vav, .int dnv])), (xw, .inl (c1, 4096, .inl wd)), (xr, .inl (c2, 4, .inl rg)), (xg, .inl (c3, 32, .inl rs))]) hD hS hA [0, 1, 2, 3] rfl
      refine va_calli (va_runV (As := [.int 12, .int pcv]) (rest := []) ⟨hx, hb, hml, hown, hts⟩ (c_trapWith l dC dI x0 xw xr xg c1 c2 c3 s.heap.size wd rg rs pcv trv vav dnv 12 pcv) (cwV 2 hts (gV mL_X0_66 mI_X0_trapWith mE_X0_trapWith mN_X0 mC_X0_trapWith) rfl rfl rfl (by decide +kernel) ⟨Nat.le_of_ble_eq_true rfl, Nat.le_of_ble_eq_true rfl⟩) ⟨fun a U g mk q => by obtain ⟨q0, q1, qP, qK, qD⟩ := q; exact ⟨q0, q1, qP, va_K.moved (u := U) (U := U.calling g mk a) (Vm.Alike.refl U.vm) qK, qD⟩, va_recv hK hP (ci := 0) (q0 := 0) rfl rfl, fun U hU hW => ⟨rfl, by rw [hU], by rw [hU]; exact hP, va_K.moved hW.alike hK, hD.weaken (fun _ _ _ _ => trivial)⟩⟩ rfl rfl hl.1 rfl (lv_room (Nat.le_of_ble_eq_true rfl)) dX0_makeStep_40 ⟨Nat.zero_le _, Nat.zero_le _⟩) hS (fun q _ h => hFc q h) hFc (fun r_14 u t H1 locs ht hvm hw hB hz1 hk1 hS => ?_)
      obtain ⟨b_15, hw⟩ := hw
      obtain ⟨wd_16, rs_17, pcv_18, trv_19, vav_20⟩ := u
      obtain ⟨hP1, hK1, hD1⟩ := hB
      rw [ht] at hP1
      obtain ⟨hP, hD⟩ := va_join (wr := []) (w1 := [(x0, .inr (0, [.ref xw, .ref xr, .ref xg, .int pcv_18, .int trv_19, .int vav_20, .int dnv])), (xw, .inl (c1, 4096, .inl wd_16)), (xr, .inl (c2, 4, .inl rg)), (xg, .inl (c3, 32, .inl rs_17))]) hP hD [0, 1, 2, 3] [] rfl rfl (by decide) (by decide) hk1 hFc hP1 hD1
      generalize H1 = H at hP hS ⊢
      have hP : va_P (dC, dI) vwCl [(x0, .inr (0, [.ref xw, .ref xr, .ref xg, .int pcv_18, .int trv_19, .int vav_20, .int dnv])), (xw, .inl (c1, 4096, .inl wd_16)), (xr, .inl (c2, 4, .inl rg)), (xg, .inl (c3, 32, .inl rs_17))] H := hP
      have hD : va_D A [(x0, .inr (0, [.ref xw, .ref xr, .ref xg, .int pcv_18, .int trv_19, .int vav_20, .int dnv])), (xw, .inl (c1, 4096, .inl wd_16)), (xr, .inl (c2, 4, .inl rg)), (xg, .inl (c3, 32, .inl rs_17))] := hD
      exact W.zret (v := r_14) (ty := .boolean) hx hb hr b_15 (fun t ht hW => ⟨⟨_, (wd_16, rs_17, pcv_18, trv_19, vav_20), rfl, ⟨b_15, (by unfold F_makeStep; rw [if_pos c_3, if_pos c_6]; exact hw)⟩, by rw [ht]; exact hP, va_K.moved hW.alike hK, hD⟩, hS.F ht⟩) hS.2.2 dX0_makeStep_43
  · refine lv_aload_n hx hb dX0_makeStep_11 rfl (lv_at hl 0 rfl) ?_
    refine lv_iconst (v := 0) hx hb dX0_makeStep_12 (by decide) ?_
    refine lv_aload_n hx hb dX0_makeStep_13 rfl (lv_at hl 0 rfl) ?_
    refine va_get (D := (dC, dI)) (ci := 0) (v := .int pcv) (C := RX0) (T := TX0) (N := 7) hx hb hts (gw_lay lay_X0) hown hK hP 0 rfl rfl 3 (by decide) (hts _ (gcons mF_X0_19)) (fun _ h9 => h9) rfl dX0_makeStep_14 ?_
    have hFc := va_free (wc := [(x0, .inr (0, [.ref xw, .ref xr, .ref xg, .int pcv, .int trv, .int vav, .int dnv])), (xw, .inl (c1, 4096, .inl wd)), (xr, .inl (c2, 4, .inl rg)), (xg, .inl (c3, 32, .inl rs))]) hD hS hA [0, 1, 2, 3] rfl
    refine va_calli (va_runV (As := [.int 0, .int pcv]) (rest := []) ⟨hx, hb, hml, hown, hts⟩ (c_trapWith l dC dI x0 xw xr xg c1 c2 c3 s.heap.size wd rg rs pcv trv vav dnv 0 pcv) (cwV 2 hts (gV mL_X0_66 mI_X0_trapWith mE_X0_trapWith mN_X0 mC_X0_trapWith) rfl rfl rfl (by decide +kernel) ⟨Nat.le_of_ble_eq_true rfl, Nat.le_of_ble_eq_true rfl⟩) ⟨fun a U g mk q => by obtain ⟨q0, q1, qP, qK, qD⟩ := q; exact ⟨q0, q1, qP, va_K.moved (u := U) (U := U.calling g mk a) (Vm.Alike.refl U.vm) qK, qD⟩, va_recv hK hP (ci := 0) (q0 := 0) rfl rfl, fun U hU hW => ⟨rfl, by rw [hU], by rw [hU]; exact hP, va_K.moved hW.alike hK, hD.weaken (fun _ _ _ _ => trivial)⟩⟩ rfl rfl hl.1 rfl (lv_room (Nat.le_of_ble_eq_true rfl)) dX0_makeStep_17 ⟨Nat.zero_le _, Nat.zero_le _⟩) hS (fun q _ h => hFc q h) hFc (fun r_21 u t H1 locs ht hvm hw hB hz1 hk1 hS => ?_)
    obtain ⟨b_22, hw⟩ := hw
    obtain ⟨wd_23, rs_24, pcv_25, trv_26, vav_27⟩ := u
    obtain ⟨hP1, hK1, hD1⟩ := hB
    rw [ht] at hP1
    obtain ⟨hP, hD⟩ := va_join (wr := []) (w1 := [(x0, .inr (0, [.ref xw, .ref xr, .ref xg, .int pcv_25, .int trv_26, .int vav_27, .int dnv])), (xw, .inl (c1, 4096, .inl wd_23)), (xr, .inl (c2, 4, .inl rg)), (xg, .inl (c3, 32, .inl rs_24))]) hP hD [0, 1, 2, 3] [] rfl rfl (by decide) (by decide) hk1 hFc hP1 hD1
    generalize H1 = H at hP hS ⊢
    have hP : va_P (dC, dI) vwCl [(x0, .inr (0, [.ref xw, .ref xr, .ref xg, .int pcv_25, .int trv_26, .int vav_27, .int dnv])), (xw, .inl (c1, 4096, .inl wd_23)), (xr, .inl (c2, 4, .inl rg)), (xg, .inl (c3, 32, .inl rs_24))] H := hP
    have hD : va_D A [(x0, .inr (0, [.ref xw, .ref xr, .ref xg, .int pcv_25, .int trv_26, .int vav_27, .int dnv])), (xw, .inl (c1, 4096, .inl wd_23)), (xr, .inl (c2, 4, .inl rg)), (xg, .inl (c3, 32, .inl rs_24))] := hD
    exact W.zret (v := r_21) (ty := .boolean) hx hb hr b_22 (fun t ht hW => ⟨⟨_, (wd_23, rs_24, pcv_25, trv_26, vav_27), rfl, ⟨b_22, (by unfold F_makeStep; rw [if_neg c_3]; exact hw)⟩, by rw [ht]; exact hP, va_K.moved hW.alike hK, hD⟩, hS.F ht⟩) hS.2.2 dX0_makeStep_20
