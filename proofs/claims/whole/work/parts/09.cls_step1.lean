def F_callOrBreak (wd : Nat → Int32) (rg : Nat → Int32) (rs : Nat → Int32) (pcv : Int32) (trv : Int32) (vav : Int32) (a1 : Int32) : Int32 × (Nat → Int32) × (Nat → Int32) × Int32 × Int32 × Int32 :=
  if a1 = 115 then
    F_trapWith wd rg rs pcv trv vav 8 0
  else
    if a1 = 1048691 then
      F_trapWith wd rg rs pcv trv vav 3 0
    else
      F_refuse wd rg rs pcv trv vav a1
set_option maxHeartbeats 4000000 in
set_option maxRecDepth 100000 in
theorem c_callOrBreak (l : Launch) (dC : Nat → ClassId) (dI : Nat → Nat → Nat) (x0 xw xr xg : Nat) (c1 c2 c3 : ClassId) (sz : Nat) (wd : Nat → Int32) (rg : Nat → Int32) (rs : Nat → Int32) (pcv : Int32) (trv : Int32) (vav : Int32) (dnv : Int32) (a1 : Int32)  : Met l yX0_callOrBreak wsX0_callOrBreak ({ frames := 2, cells := 0, slots := 0, locals := 43 }) (va_Pc [.ref x0, .int a1] (fun U => U.heap.size = sz ∧ va_P (dC, dI) vwCl [(x0, .inr (0, [.ref xw, .ref xr, .ref xg, .int pcv, .int trv, .int vav, .int dnv])), (xw, .inl (c1, 4096, .inl wd)), (xr, .inl (c2, 4, .inl rg)), (xg, .inl (c3, 32, .inl rs))] U.heap ∧ va_K (dC, dI) vwCl [(c1, .int), (c2, .int), (c3, .int)] U ∧ va_D (fun _ => True) [(x0, .inr (0, [.ref xw, .ref xr, .ref xg, .int pcv, .int trv, .int vav, .int dnv])), (xw, .inl (c1, 4096, .inl wd)), (xr, .inl (c2, 4, .inl rg)), (xg, .inl (c3, 32, .inl rs))])) (va_Qi (fun (r : Int32) (u : (Nat → Int32) × (Nat → Int32) × Int32 × Int32 × Int32) => narrow .boolean (.int r) = .int r ∧ (r, u) = F_callOrBreak wd rg rs pcv trv vav a1) (fun (u : (Nat → Int32) × (Nat → Int32) × Int32 × Int32 × Int32) (t : State) => va_P (dC, dI) vwCl [(x0, .inr (0, [.ref xw, .ref xr, .ref xg, .int u.2.2.1, .int u.2.2.2.1, .int u.2.2.2.2, .int dnv])), (xw, .inl (c1, 4096, .inl u.1)), (xr, .inl (c2, 4, .inl rg)), (xg, .inl (c3, 32, .inl u.2.1))] t.heap ∧ va_K (dC, dI) vwCl [(c1, .int), (c2, .int), (c3, .int)] t ∧ va_D (va_A [(x0, .inr (0, [.ref xw, .ref xr, .ref xg, .int pcv, .int trv, .int vav, .int dnv])), (xw, .inl (c1, 4096, .inl wd)), (xr, .inl (c2, 4, .inl rg)), (xg, .inl (c3, 32, .inl rs))] sz) [(x0, .inr (0, [.ref xw, .ref xr, .ref xg, .int u.2.2.1, .int u.2.2.2.1, .int u.2.2.2.2, .int dnv])), (xw, .inl (c1, 4096, .inl u.1)), (xr, .inl (c2, 4, .inl rg)), (xg, .inl (c3, 32, .inl u.2.1))]) (va_A [(x0, .inr (0, [.ref xw, .ref xr, .ref xg, .int pcv, .int trv, .int vav, .int dnv])), (xw, .inl (c1, 4096, .inl wd)), (xr, .inl (c2, 4, .inl rg)), (xg, .inl (c3, 32, .inl rs))] sz)) 0 0 (va_A [(x0, .inr (0, [.ref xw, .ref xr, .ref xg, .int pcv, .int trv, .int vav, .int dnv])), (xw, .inl (c1, 4096, .inl wd)), (xr, .inl (c2, 4, .inl rg)), (xg, .inl (c3, 32, .inl rs))] sz) := by
  refine Met.ofW (cc := cX0_callOrBreak) (maxL := 2) (ret := (some .boolean)) (by decide) rfl ?_
  intro p e s m args below meth c s₁ B hml hv
  obtain ⟨rfl, hsz, hP, hK, hD0⟩ := hv
  have hx := B.exec
  have hb := B.bytes
  have hr := B.returns
  have hts := atoms_spec (ws := wsX0_callOrBreak) B.pre
  have hown : s.vm.findClass RX0 = some m.cls := findClass_of_methodNamed B.named
  have hlocks := B.notSynchronized
  subst hsz
  have hD := hD0.self (sz := s.heap.size)
  generalize hAe : va_A [(x0, .inr (0, [.ref xw, .ref xr, .ref xg, .int pcv, .int trv, .int vav, .int dnv])), (xw, .inl (c1, 4096, .inl wd)), (xr, .inl (c2, 4, .inl rg)), (xg, .inl (c3, 32, .inl rs))] s.heap.size = A at hD ⊢
  have hA : ∀ q : Nat, s.heap.size ≤ q → A q := fun q h => by rw [← hAe]; exact Or.inr h
  have hS : va_S A s.heap s.heap [] := va_S.rf
  have hP : va_P (dC, dI) vwCl [(x0, .inr (0, [.ref xw, .ref xr, .ref xg, .int pcv, .int trv, .int vav, .int dnv])), (xw, .inl (c1, 4096, .inl wd)), (xr, .inl (c2, 4, .inl rg)), (xg, .inl (c3, 32, .inl rs))] s.heap := hP
  have hl := lv_entry ([.ref x0, .int a1]) (n := 2) (Nat.le_of_ble_eq_true rfl)
  rw [lg_entry_eq]
  generalize (lg_sl ([.ref x0, .int a1]) ++ List.replicate (2 - (lg_sl ([.ref x0, .int a1])).length) Slot.unset).toArray = ls at hl ⊢
  have hl : lv_has ls 2 [(0, .ref x0), (1, .int a1)] := hl
  refine lv_iload_n hx hb dX0_callOrBreak_0 rfl (lv_at hl 1 rfl) ?_
  refine lv_bipush (v := 115) hx hb dX0_callOrBreak_1 (by decide) ?_
  refine lv_icmp_ne (tgt := 14) hx hb dX0_callOrBreak_3 (by decide) (fun c_1 => ?_) (fun c_1 => ?_)
  · refine lv_iload_n hx hb dX0_callOrBreak_14 rfl (lv_at hl 1 rfl) ?_
    refine lv_ldc (v := 1048691) hx hb hown (hts _ (gcons mK_X0_153)) dX0_callOrBreak_15 ?_
    refine lv_icmp_ne (tgt := 29) hx hb dX0_callOrBreak_17 (by decide) (fun c_2 => ?_) (fun c_2 => ?_)
    · refine lv_aload_n hx hb dX0_callOrBreak_29 rfl (lv_at hl 0 rfl) ?_
      refine lv_iload_n hx hb dX0_callOrBreak_30 rfl (lv_at hl 1 rfl) ?_
      have hFc := va_free (wc := [(x0, .inr (0, [.ref xw, .ref xr, .ref xg, .int pcv, .int trv, .int vav, .int dnv])), (xw, .inl (c1, 4096, .inl wd)), (xr, .inl (c2, 4, .inl rg)), (xg, .inl (c3, 32, .inl rs))]) hD hS hA [0, 1, 2, 3] rfl
      refine va_calli (va_runV (As := [.int a1]) (rest := []) ⟨hx, hb, hml, hown, hts⟩ (c_refuse l dC dI x0 xw xr xg c1 c2 c3 s.heap.size wd rg rs pcv trv vav dnv a1) (cwV 1 hts (gV mL_X0_111 mI_X0_refuse mE_X0_refuse mN_X0 mC_X0_refuse) rfl rfl rfl (by decide +kernel) ⟨Nat.le_of_ble_eq_true rfl, Nat.le_of_ble_eq_true rfl⟩) ⟨fun a U g mk q => by obtain ⟨q0, q1, qP, qK, qD⟩ := q; exact ⟨q0, q1, qP, va_K.moved (u := U) (U := U.calling g mk a) (Vm.Alike.refl U.vm) qK, qD⟩, va_recv hK hP (ci := 0) (q0 := 0) rfl rfl, fun U hU hW => ⟨rfl, by rw [hU], by rw [hU]; exact hP, va_K.moved hW.alike hK, hD.weaken (fun _ _ _ _ => trivial)⟩⟩ rfl rfl hl.1 rfl (lv_room (Nat.le_of_ble_eq_true rfl)) dX0_callOrBreak_31 ⟨Nat.zero_le _, Nat.zero_le _⟩) hS (fun q _ h => hFc q h) hFc (fun r_3 u t H1 locs ht hvm hw hB hz1 hk1 hS => ?_)
      obtain ⟨b_4, hw⟩ := hw
      obtain ⟨wd_5, rs_6, pcv_7, trv_8, vav_9⟩ := u
      obtain ⟨hP1, hK1, hD1⟩ := hB
      rw [ht] at hP1
      obtain ⟨hP, hD⟩ := va_join (wr := []) (w1 := [(x0, .inr (0, [.ref xw, .ref xr, .ref xg, .int pcv_7, .int trv_8, .int vav_9, .int dnv])), (xw, .inl (c1, 4096, .inl wd_5)), (xr, .inl (c2, 4, .inl rg)), (xg, .inl (c3, 32, .inl rs_6))]) hP hD [0, 1, 2, 3] [] rfl rfl (by decide) (by decide) hk1 hFc hP1 hD1
      generalize H1 = H at hP hS ⊢
      have hP : va_P (dC, dI) vwCl [(x0, .inr (0, [.ref xw, .ref xr, .ref xg, .int pcv_7, .int trv_8, .int vav_9, .int dnv])), (xw, .inl (c1, 4096, .inl wd_5)), (xr, .inl (c2, 4, .inl rg)), (xg, .inl (c3, 32, .inl rs_6))] H := hP
      have hD : va_D A [(x0, .inr (0, [.ref xw, .ref xr, .ref xg, .int pcv_7, .int trv_8, .int vav_9, .int dnv])), (xw, .inl (c1, 4096, .inl wd_5)), (xr, .inl (c2, 4, .inl rg)), (xg, .inl (c3, 32, .inl rs_6))] := hD
      exact W.zret (v := r_3) (ty := .boolean) hx hb hr b_4 (fun t ht hW => ⟨⟨_, (wd_5, rs_6, pcv_7, trv_8, vav_9), rfl, ⟨b_4, (by unfold F_callOrBreak; rw [if_neg c_1, if_neg c_2]; exact hw)⟩, by rw [ht]; exact hP, va_K.moved hW.alike hK, hD⟩, hS.F ht⟩) hS.2.2 dX0_callOrBreak_34
    · refine lv_aload_n hx hb dX0_callOrBreak_20 rfl (lv_at hl 0 rfl) ?_
      refine lv_iconst (v := 3) hx hb dX0_callOrBreak_21 (by decide) ?_
      refine lv_iconst (v := 0) hx hb dX0_callOrBreak_22 (by decide) ?_
      have hFc := va_free (wc := [(x0, .inr (0, [.ref xw, .ref xr, .ref xg, .int pcv, .int trv, .int vav, .int dnv])), (xw, .inl (c1, 4096, .inl wd)), (xr, .inl (c2, 4, .inl rg)), (xg, .inl (c3, 32, .inl rs))]) hD hS hA [0, 1, 2, 3] rfl
      refine va_calli (va_runV (As := [.int 3, .int 0]) (rest := []) ⟨hx, hb, hml, hown, hts⟩ (c_trapWith l dC dI x0 xw xr xg c1 c2 c3 s.heap.size wd rg rs pcv trv vav dnv 3 0) (cwV 2 hts (gV mL_X0_66 mI_X0_trapWith mE_X0_trapWith mN_X0 mC_X0_trapWith) rfl rfl rfl (by decide +kernel) ⟨Nat.le_of_ble_eq_true rfl, Nat.le_of_ble_eq_true rfl⟩) ⟨fun a U g mk q => by obtain ⟨q0, q1, qP, qK, qD⟩ := q; exact ⟨q0, q1, qP, va_K.moved (u := U) (U := U.calling g mk a) (Vm.Alike.refl U.vm) qK, qD⟩, va_recv hK hP (ci := 0) (q0 := 0) rfl rfl, fun U hU hW => ⟨rfl, by rw [hU], by rw [hU]; exact hP, va_K.moved hW.alike hK, hD.weaken (fun _ _ _ _ => trivial)⟩⟩ rfl rfl hl.1 rfl (lv_room (Nat.le_of_ble_eq_true rfl)) dX0_callOrBreak_23 ⟨Nat.zero_le _, Nat.zero_le _⟩) hS (fun q _ h => hFc q h) hFc (fun r_10 u t H1 locs ht hvm hw hB hz1 hk1 hS => ?_)
      obtain ⟨b_11, hw⟩ := hw
      obtain ⟨wd_12, rs_13, pcv_14, trv_15, vav_16⟩ := u
      obtain ⟨hP1, hK1, hD1⟩ := hB
      rw [ht] at hP1
      obtain ⟨hP, hD⟩ := va_join (wr := []) (w1 := [(x0, .inr (0, [.ref xw, .ref xr, .ref xg, .int pcv_14, .int trv_15, .int vav_16, .int dnv])), (xw, .inl (c1, 4096, .inl wd_12)), (xr, .inl (c2, 4, .inl rg)), (xg, .inl (c3, 32, .inl rs_13))]) hP hD [0, 1, 2, 3] [] rfl rfl (by decide) (by decide) hk1 hFc hP1 hD1
      generalize H1 = H at hP hS ⊢
      have hP : va_P (dC, dI) vwCl [(x0, .inr (0, [.ref xw, .ref xr, .ref xg, .int pcv_14, .int trv_15, .int vav_16, .int dnv])), (xw, .inl (c1, 4096, .inl wd_12)), (xr, .inl (c2, 4, .inl rg)), (xg, .inl (c3, 32, .inl rs_13))] H := hP
      have hD : va_D A [(x0, .inr (0, [.ref xw, .ref xr, .ref xg, .int pcv_14, .int trv_15, .int vav_16, .int dnv])), (xw, .inl (c1, 4096, .inl wd_12)), (xr, .inl (c2, 4, .inl rg)), (xg, .inl (c3, 32, .inl rs_13))] := hD
      refine lv_goto (tgt := 34) hx hb dX0_callOrBreak_26 (by decide) ?_
      exact W.zret (v := r_10) (ty := .boolean) hx hb hr b_11 (fun t ht hW => ⟨⟨_, (wd_12, rs_13, pcv_14, trv_15, vav_16), rfl, ⟨b_11, (by unfold F_callOrBreak; rw [if_neg c_1, if_pos c_2]; exact hw)⟩, by rw [ht]; exact hP, va_K.moved hW.alike hK, hD⟩, hS.F ht⟩) hS.2.2 dX0_callOrBreak_34
  · refine lv_aload_n hx hb dX0_callOrBreak_6 rfl (lv_at hl 0 rfl) ?_
    refine lv_bipush (v := 8) hx hb dX0_callOrBreak_7 (by decide) ?_
    refine lv_iconst (v := 0) hx hb dX0_callOrBreak_9 (by decide) ?_
    have hFc := va_free (wc := [(x0, .inr (0, [.ref xw, .ref xr, .ref xg, .int pcv, .int trv, .int vav, .int dnv])), (xw, .inl (c1, 4096, .inl wd)), (xr, .inl (c2, 4, .inl rg)), (xg, .inl (c3, 32, .inl rs))]) hD hS hA [0, 1, 2, 3] rfl
    refine va_calli (va_runV (As := [.int 8, .int 0]) (rest := []) ⟨hx, hb, hml, hown, hts⟩ (c_trapWith l dC dI x0 xw xr xg c1 c2 c3 s.heap.size wd rg rs pcv trv vav dnv 8 0) (cwV 2 hts (gV mL_X0_66 mI_X0_trapWith mE_X0_trapWith mN_X0 mC_X0_trapWith) rfl rfl rfl (by decide +kernel) ⟨Nat.le_of_ble_eq_true rfl, Nat.le_of_ble_eq_true rfl⟩) ⟨fun a U g mk q => by obtain ⟨q0, q1, qP, qK, qD⟩ := q; exact ⟨q0, q1, qP, va_K.moved (u := U) (U := U.calling g mk a) (Vm.Alike.refl U.vm) qK, qD⟩, va_recv hK hP (ci := 0) (q0 := 0) rfl rfl, fun U hU hW => ⟨rfl, by rw [hU], by rw [hU]; exact hP, va_K.moved hW.alike hK, hD.weaken (fun _ _ _ _ => trivial)⟩⟩ rfl rfl hl.1 rfl (lv_room (Nat.le_of_ble_eq_true rfl)) dX0_callOrBreak_10 ⟨Nat.zero_le _, Nat.zero_le _⟩) hS (fun q _ h => hFc q h) hFc (fun r_17 u t H1 locs ht hvm hw hB hz1 hk1 hS => ?_)
    obtain ⟨b_18, hw⟩ := hw
    obtain ⟨wd_19, rs_20, pcv_21, trv_22, vav_23⟩ := u
    obtain ⟨hP1, hK1, hD1⟩ := hB
    rw [ht] at hP1
    obtain ⟨hP, hD⟩ := va_join (wr := []) (w1 := [(x0, .inr (0, [.ref xw, .ref xr, .ref xg, .int pcv_21, .int trv_22, .int vav_23, .int dnv])), (xw, .inl (c1, 4096, .inl wd_19)), (xr, .inl (c2, 4, .inl rg)), (xg, .inl (c3, 32, .inl rs_20))]) hP hD [0, 1, 2, 3] [] rfl rfl (by decide) (by decide) hk1 hFc hP1 hD1
    generalize H1 = H at hP hS ⊢
    have hP : va_P (dC, dI) vwCl [(x0, .inr (0, [.ref xw, .ref xr, .ref xg, .int pcv_21, .int trv_22, .int vav_23, .int dnv])), (xw, .inl (c1, 4096, .inl wd_19)), (xr, .inl (c2, 4, .inl rg)), (xg, .inl (c3, 32, .inl rs_20))] H := hP
    have hD : va_D A [(x0, .inr (0, [.ref xw, .ref xr, .ref xg, .int pcv_21, .int trv_22, .int vav_23, .int dnv])), (xw, .inl (c1, 4096, .inl wd_19)), (xr, .inl (c2, 4, .inl rg)), (xg, .inl (c3, 32, .inl rs_20))] := hD
    exact W.zret (v := r_17) (ty := .boolean) hx hb hr b_18 (fun t ht hW => ⟨⟨_, (wd_19, rs_20, pcv_21, trv_22, vav_23), rfl, ⟨b_18, (by unfold F_callOrBreak; rw [if_pos c_1]; exact hw)⟩, by rw [ht]; exact hP, va_K.moved hW.alike hK, hD⟩, hS.F ht⟩) hS.2.2 dX0_callOrBreak_13
def F_fence (wd : Nat → Int32) (rg : Nat → Int32) (rs : Nat → Int32) (pcv : Int32) (trv : Int32) (vav : Int32) (a1 : Int32) : Int32 × (Nat → Int32) × (Nat → Int32) × Int32 × Int32 × Int32 :=
  if (F_partF a1) = 0 then
    (1, (wd, rs, pcv + 4, trv, vav))
  else
    F_refuse wd rg rs pcv trv vav a1
set_option maxHeartbeats 4000000 in
set_option maxRecDepth 100000 in
theorem c_fence (l : Launch) (dC : Nat → ClassId) (dI : Nat → Nat → Nat) (x0 xw xr xg : Nat) (c1 c2 c3 : ClassId) (sz : Nat) (wd : Nat → Int32) (rg : Nat → Int32) (rs : Nat → Int32) (pcv : Int32) (trv : Int32) (vav : Int32) (dnv : Int32) (a1 : Int32)  : Met l yX0_fence wsX0_fence ({ frames := 2, cells := 0, slots := 0, locals := 43 }) (va_Pc [.ref x0, .int a1] (fun U => U.heap.size = sz ∧ va_P (dC, dI) vwCl [(x0, .inr (0, [.ref xw, .ref xr, .ref xg, .int pcv, .int trv, .int vav, .int dnv])), (xw, .inl (c1, 4096, .inl wd)), (xr, .inl (c2, 4, .inl rg)), (xg, .inl (c3, 32, .inl rs))] U.heap ∧ va_K (dC, dI) vwCl [(c1, .int), (c2, .int), (c3, .int)] U ∧ va_D (fun _ => True) [(x0, .inr (0, [.ref xw, .ref xr, .ref xg, .int pcv, .int trv, .int vav, .int dnv])), (xw, .inl (c1, 4096, .inl wd)), (xr, .inl (c2, 4, .inl rg)), (xg, .inl (c3, 32, .inl rs))])) (va_Qi (fun (r : Int32) (u : (Nat → Int32) × (Nat → Int32) × Int32 × Int32 × Int32) => narrow .boolean (.int r) = .int r ∧ (r, u) = F_fence wd rg rs pcv trv vav a1) (fun (u : (Nat → Int32) × (Nat → Int32) × Int32 × Int32 × Int32) (t : State) => va_P (dC, dI) vwCl [(x0, .inr (0, [.ref xw, .ref xr, .ref xg, .int u.2.2.1, .int u.2.2.2.1, .int u.2.2.2.2, .int dnv])), (xw, .inl (c1, 4096, .inl u.1)), (xr, .inl (c2, 4, .inl rg)), (xg, .inl (c3, 32, .inl u.2.1))] t.heap ∧ va_K (dC, dI) vwCl [(c1, .int), (c2, .int), (c3, .int)] t ∧ va_D (va_A [(x0, .inr (0, [.ref xw, .ref xr, .ref xg, .int pcv, .int trv, .int vav, .int dnv])), (xw, .inl (c1, 4096, .inl wd)), (xr, .inl (c2, 4, .inl rg)), (xg, .inl (c3, 32, .inl rs))] sz) [(x0, .inr (0, [.ref xw, .ref xr, .ref xg, .int u.2.2.1, .int u.2.2.2.1, .int u.2.2.2.2, .int dnv])), (xw, .inl (c1, 4096, .inl u.1)), (xr, .inl (c2, 4, .inl rg)), (xg, .inl (c3, 32, .inl u.2.1))]) (va_A [(x0, .inr (0, [.ref xw, .ref xr, .ref xg, .int pcv, .int trv, .int vav, .int dnv])), (xw, .inl (c1, 4096, .inl wd)), (xr, .inl (c2, 4, .inl rg)), (xg, .inl (c3, 32, .inl rs))] sz)) 0 0 (va_A [(x0, .inr (0, [.ref xw, .ref xr, .ref xg, .int pcv, .int trv, .int vav, .int dnv])), (xw, .inl (c1, 4096, .inl wd)), (xr, .inl (c2, 4, .inl rg)), (xg, .inl (c3, 32, .inl rs))] sz) := by
  refine Met.ofW (cc := cX0_fence) (maxL := 2) (ret := (some .boolean)) (by decide) rfl ?_
  intro p e s m args below meth c s₁ B hml hv
  obtain ⟨rfl, hsz, hP, hK, hD0⟩ := hv
  have hx := B.exec
  have hb := B.bytes
  have hr := B.returns
  have hts := atoms_spec (ws := wsX0_fence) B.pre
  have hown : s.vm.findClass RX0 = some m.cls := findClass_of_methodNamed B.named
  have hlocks := B.notSynchronized
  subst hsz
  have hD := hD0.self (sz := s.heap.size)
  generalize hAe : va_A [(x0, .inr (0, [.ref xw, .ref xr, .ref xg, .int pcv, .int trv, .int vav, .int dnv])), (xw, .inl (c1, 4096, .inl wd)), (xr, .inl (c2, 4, .inl rg)), (xg, .inl (c3, 32, .inl rs))] s.heap.size = A at hD ⊢
  have hA : ∀ q : Nat, s.heap.size ≤ q → A q := fun q h => by rw [← hAe]; exact Or.inr h
  have hS : va_S A s.heap s.heap [] := va_S.rf
  have hP : va_P (dC, dI) vwCl [(x0, .inr (0, [.ref xw, .ref xr, .ref xg, .int pcv, .int trv, .int vav, .int dnv])), (xw, .inl (c1, 4096, .inl wd)), (xr, .inl (c2, 4, .inl rg)), (xg, .inl (c3, 32, .inl rs))] s.heap := hP
  have hl := lv_entry ([.ref x0, .int a1]) (n := 2) (Nat.le_of_ble_eq_true rfl)
  rw [lg_entry_eq]
  generalize (lg_sl ([.ref x0, .int a1]) ++ List.replicate (2 - (lg_sl ([.ref x0, .int a1])).length) Slot.unset).toArray = ls at hl ⊢
  have hl : lv_has ls 2 [(0, .ref x0), (1, .int a1)] := hl
  refine lv_iload_n hx hb dX0_fence_0 rfl (lv_at hl 1 rfl) ?_
  refine vp_callSi (W.runS (As := [.int a1]) (rest := []) ⟨hx, hb, hml, hown, hts⟩ (c_partF l a1) (cwS 1 hts (gS mL_X0_114 mS_X0_partF mN_X0 mC_X0_partF) rfl rfl rfl (by decide +kernel) ⟨Nat.le_of_ble_eq_true rfl, Nat.le_of_ble_eq_true rfl⟩) preEq rfl rfl hl.1 rfl (lv_room (Nat.le_of_ble_eq_true rfl)) dX0_fence_1 ⟨Nat.zero_le _, Nat.zero_le _⟩) (fun r_1 hw => ?_)
  subst hw
  refine lv_if_eq (tgt := 13) hx hb dX0_fence_4 (by decide) (fun c_2 => ?_) (fun c_2 => ?_)
  · refine lv_aload_n hx hb dX0_fence_13 rfl (lv_at hl 0 rfl) ?_
    refine lv_dup hx hb dX0_fence_14 rfl ?_
    refine va_get (D := (dC, dI)) (ci := 0) (v := .int pcv) (C := RX0) (T := TX0) (N := 7) hx hb hts (gw_lay lay_X0) hown hK hP 0 rfl rfl 3 (by decide) (hts _ (gcons mF_X0_19)) (fun _ h9 => h9) rfl dX0_fence_15 ?_
    refine lv_iconst (v := 4) hx hb dX0_fence_18 (by decide) ?_
    refine lv_iadd hx hb dX0_fence_19 ?_
    refine va_put (D := (dC, dI)) (ci := 0) (v := .int (pcv + 4)) (ty := .int) (C := RX0) (T := TX0) (N := 7) hx hb hts (gw_lay lay_X0) tyX0 tyX0_ok nmX0 hown hK hP hD hS 0 rfl rfl 3 (by decide) (hts _ (gcons mF_X0_19)) (fun _ h9 => h9) rfl (by decide +kernel) rfl rfl (Nat.le_of_ble_eq_true rfl) dX0_fence_20 (fun H locs hP hD hS => ?_)
    have hP : va_P (dC, dI) vwCl [(x0, .inr (0, [.ref xw, .ref xr, .ref xg, .int (pcv + 4), .int trv, .int vav, .int dnv])), (xw, .inl (c1, 4096, .inl wd)), (xr, .inl (c2, 4, .inl rg)), (xg, .inl (c3, 32, .inl rs))] H := hP
    have hD : va_D A [(x0, .inr (0, [.ref xw, .ref xr, .ref xg, .int (pcv + 4), .int trv, .int vav, .int dnv])), (xw, .inl (c1, 4096, .inl wd)), (xr, .inl (c2, 4, .inl rg)), (xg, .inl (c3, 32, .inl rs))] := hD
    refine lv_iconst (v := 1) hx hb dX0_fence_23 (by decide) ?_
    exact W.zret (v := 1) (ty := .boolean) hx hb hr rfl (fun t ht hW => ⟨⟨_, (wd, rs, pcv + 4, trv, vav), rfl, ⟨rfl, (by unfold F_fence; rw [if_pos c_2])⟩, by rw [ht]; exact hP, va_K.moved hW.alike hK, hD⟩, hS.F ht⟩) hS.2.2 dX0_fence_24
  · refine lv_aload_n hx hb dX0_fence_7 rfl (lv_at hl 0 rfl) ?_
    refine lv_iload_n hx hb dX0_fence_8 rfl (lv_at hl 1 rfl) ?_
    have hFc := va_free (wc := [(x0, .inr (0, [.ref xw, .ref xr, .ref xg, .int pcv, .int trv, .int vav, .int dnv])), (xw, .inl (c1, 4096, .inl wd)), (xr, .inl (c2, 4, .inl rg)), (xg, .inl (c3, 32, .inl rs))]) hD hS hA [0, 1, 2, 3] rfl
    refine va_calli (va_runV (As := [.int a1]) (rest := []) ⟨hx, hb, hml, hown, hts⟩ (c_refuse l dC dI x0 xw xr xg c1 c2 c3 s.heap.size wd rg rs pcv trv vav dnv a1) (cwV 1 hts (gV mL_X0_111 mI_X0_refuse mE_X0_refuse mN_X0 mC_X0_refuse) rfl rfl rfl (by decide +kernel) ⟨Nat.le_of_ble_eq_true rfl, Nat.le_of_ble_eq_true rfl⟩) ⟨fun a U g mk q => by obtain ⟨q0, q1, qP, qK, qD⟩ := q; exact ⟨q0, q1, qP, va_K.moved (u := U) (U := U.calling g mk a) (Vm.Alike.refl U.vm) qK, qD⟩, va_recv hK hP (ci := 0) (q0 := 0) rfl rfl, fun U hU hW => ⟨rfl, by rw [hU], by rw [hU]; exact hP, va_K.moved hW.alike hK, hD.weaken (fun _ _ _ _ => trivial)⟩⟩ rfl rfl hl.1 rfl (lv_room (Nat.le_of_ble_eq_true rfl)) dX0_fence_9 ⟨Nat.zero_le _, Nat.zero_le _⟩) hS (fun q _ h => hFc q h) hFc (fun r_3 u t H1 locs ht hvm hw hB hz1 hk1 hS => ?_)
    obtain ⟨b_4, hw⟩ := hw
    obtain ⟨wd_5, rs_6, pcv_7, trv_8, vav_9⟩ := u
    obtain ⟨hP1, hK1, hD1⟩ := hB
    rw [ht] at hP1
    obtain ⟨hP, hD⟩ := va_join (wr := []) (w1 := [(x0, .inr (0, [.ref xw, .ref xr, .ref xg, .int pcv_7, .int trv_8, .int vav_9, .int dnv])), (xw, .inl (c1, 4096, .inl wd_5)), (xr, .inl (c2, 4, .inl rg)), (xg, .inl (c3, 32, .inl rs_6))]) hP hD [0, 1, 2, 3] [] rfl rfl (by decide) (by decide) hk1 hFc hP1 hD1
    generalize H1 = H at hP hS ⊢
    have hP : va_P (dC, dI) vwCl [(x0, .inr (0, [.ref xw, .ref xr, .ref xg, .int pcv_7, .int trv_8, .int vav_9, .int dnv])), (xw, .inl (c1, 4096, .inl wd_5)), (xr, .inl (c2, 4, .inl rg)), (xg, .inl (c3, 32, .inl rs_6))] H := hP
    have hD : va_D A [(x0, .inr (0, [.ref xw, .ref xr, .ref xg, .int pcv_7, .int trv_8, .int vav_9, .int dnv])), (xw, .inl (c1, 4096, .inl wd_5)), (xr, .inl (c2, 4, .inl rg)), (xg, .inl (c3, 32, .inl rs_6))] := hD
    exact W.zret (v := r_3) (ty := .boolean) hx hb hr b_4 (fun t ht hW => ⟨⟨_, (wd_5, rs_6, pcv_7, trv_8, vav_9), rfl, ⟨b_4, (by unfold F_fence; rw [if_neg c_2]; exact hw)⟩, by rw [ht]; exact hP, va_K.moved hW.alike hK, hD⟩, hS.F ht⟩) hS.2.2 dX0_fence_12
def F_computeWithRegisters (wd : Nat → Int32) (rg : Nat → Int32) (rs : Nat → Int32) (pcv : Int32) (trv : Int32) (vav : Int32) (a1 : Int32) : Int32 × (Nat → Int32) × (Nat → Int32) × Int32 × Int32 × Int32 :=
  if (F_partG a1) = 0 then
    F_finish wd rg rs pcv trv vav a1 (F_compute (F_partF a1) (F_registerA rs a1) (F_registerB rs a1))
  else
    if (F_partG a1) = 1 then
      F_finish wd rg rs pcv trv vav a1 (F_multiplyOrDivide (F_partF a1) (F_registerA rs a1) (F_registerB rs a1))
    else
      if (F_partG a1) = 32 then
        if (F_partF a1) = 0 then
          F_finish wd rg rs pcv trv vav a1 ((F_registerA rs a1) - (F_registerB rs a1))
        else
          if (F_partF a1) = 5 then
            F_finish wd rg rs pcv trv vav a1 ((F_registerA rs a1) >>> (((F_registerB rs a1) &&& 31) &&& 31))
          else
            F_refuse wd rg rs pcv trv vav a1
      else
        F_refuse wd rg rs pcv trv vav a1
set_option maxHeartbeats 4000000 in
set_option maxRecDepth 100000 in
theorem c_computeWithRegisters (l : Launch) (dC : Nat → ClassId) (dI : Nat → Nat → Nat) (x0 xw xr xg : Nat) (c1 c2 c3 : ClassId) (sz : Nat) (wd : Nat → Int32) (rg : Nat → Int32) (rs : Nat → Int32) (pcv : Int32) (trv : Int32) (vav : Int32) (dnv : Int32) (a1 : Int32)  : Met l yX0_computeWithRegisters wsX0_computeWithRegisters ({ frames := 3, cells := 0, slots := 0, locals := 64 }) (va_Pc [.ref x0, .int a1] (fun U => U.heap.size = sz ∧ va_P (dC, dI) vwCl [(x0, .inr (0, [.ref xw, .ref xr, .ref xg, .int pcv, .int trv, .int vav, .int dnv])), (xw, .inl (c1, 4096, .inl wd)), (xr, .inl (c2, 4, .inl rg)), (xg, .inl (c3, 32, .inl rs))] U.heap ∧ va_K (dC, dI) vwCl [(c1, .int), (c2, .int), (c3, .int)] U ∧ va_D (fun _ => True) [(x0, .inr (0, [.ref xw, .ref xr, .ref xg, .int pcv, .int trv, .int vav, .int dnv])), (xw, .inl (c1, 4096, .inl wd)), (xr, .inl (c2, 4, .inl rg)), (xg, .inl (c3, 32, .inl rs))])) (va_Qi (fun (r : Int32) (u : (Nat → Int32) × (Nat → Int32) × Int32 × Int32 × Int32) => narrow .boolean (.int r) = .int r ∧ (r, u) = F_computeWithRegisters wd rg rs pcv trv vav a1) (fun (u : (Nat → Int32) × (Nat → Int32) × Int32 × Int32 × Int32) (t : State) => va_P (dC, dI) vwCl [(x0, .inr (0, [.ref xw, .ref xr, .ref xg, .int u.2.2.1, .int u.2.2.2.1, .int u.2.2.2.2, .int dnv])), (xw, .inl (c1, 4096, .inl u.1)), (xr, .inl (c2, 4, .inl rg)), (xg, .inl (c3, 32, .inl u.2.1))] t.heap ∧ va_K (dC, dI) vwCl [(c1, .int), (c2, .int), (c3, .int)] t ∧ va_D (va_A [(x0, .inr (0, [.ref xw, .ref xr, .ref xg, .int pcv, .int trv, .int vav, .int dnv])), (xw, .inl (c1, 4096, .inl wd)), (xr, .inl (c2, 4, .inl rg)), (xg, .inl (c3, 32, .inl rs))] sz) [(x0, .inr (0, [.ref xw, .ref xr, .ref xg, .int u.2.2.1, .int u.2.2.2.1, .int u.2.2.2.2, .int dnv])), (xw, .inl (c1, 4096, .inl u.1)), (xr, .inl (c2, 4, .inl rg)), (xg, .inl (c3, 32, .inl u.2.1))]) (va_A [(x0, .inr (0, [.ref xw, .ref xr, .ref xg, .int pcv, .int trv, .int vav, .int dnv])), (xw, .inl (c1, 4096, .inl wd)), (xr, .inl (c2, 4, .inl rg)), (xg, .inl (c3, 32, .inl rs))] sz)) 0 0 (va_A [(x0, .inr (0, [.ref xw, .ref xr, .ref xg, .int pcv, .int trv, .int vav, .int dnv])), (xw, .inl (c1, 4096, .inl wd)), (xr, .inl (c2, 4, .inl rg)), (xg, .inl (c3, 32, .inl rs))] sz) := by
  refine Met.ofW (cc := cX0_computeWithRegisters) (maxL := 5) (ret := (some .boolean)) (by decide) rfl ?_
  intro p e s m args below meth c s₁ B hml hv
  obtain ⟨rfl, hsz, hP, hK, hD0⟩ := hv
  have hx := B.exec
  have hb := B.bytes
  have hr := B.returns
  have hts := atoms_spec (ws := wsX0_computeWithRegisters) B.pre
  have hown : s.vm.findClass RX0 = some m.cls := findClass_of_methodNamed B.named
  have hlocks := B.notSynchronized
  subst hsz
  have hD := hD0.self (sz := s.heap.size)
  generalize hAe : va_A [(x0, .inr (0, [.ref xw, .ref xr, .ref xg, .int pcv, .int trv, .int vav, .int dnv])), (xw, .inl (c1, 4096, .inl wd)), (xr, .inl (c2, 4, .inl rg)), (xg, .inl (c3, 32, .inl rs))] s.heap.size = A at hD ⊢
  have hA : ∀ q : Nat, s.heap.size ≤ q → A q := fun q h => by rw [← hAe]; exact Or.inr h
  have hS : va_S A s.heap s.heap [] := va_S.rf
  have hP : va_P (dC, dI) vwCl [(x0, .inr (0, [.ref xw, .ref xr, .ref xg, .int pcv, .int trv, .int vav, .int dnv])), (xw, .inl (c1, 4096, .inl wd)), (xr, .inl (c2, 4, .inl rg)), (xg, .inl (c3, 32, .inl rs))] s.heap := hP
  have hl := lv_entry ([.ref x0, .int a1]) (n := 5) (Nat.le_of_ble_eq_true rfl)
  rw [lg_entry_eq]
  generalize (lg_sl ([.ref x0, .int a1]) ++ List.replicate (5 - (lg_sl ([.ref x0, .int a1])).length) Slot.unset).toArray = ls at hl ⊢
  have hl : lv_has ls 5 [(0, .ref x0), (1, .int a1)] := hl
  refine lv_iload_n hx hb dX0_computeWithRegisters_0 rfl (lv_at hl 1 rfl) ?_
  refine vp_callSi (W.runS (As := [.int a1]) (rest := []) ⟨hx, hb, hml, hown, hts⟩ (c_partF l a1) (cwS 1 hts (gS mL_X0_114 mS_X0_partF mN_X0 mC_X0_partF) rfl rfl rfl (by decide +kernel) ⟨Nat.le_of_ble_eq_true rfl, Nat.le_of_ble_eq_true rfl⟩) preEq rfl rfl hl.1 rfl (lv_room (Nat.le_of_ble_eq_true rfl)) dX0_computeWithRegisters_1 ⟨Nat.zero_le _, Nat.zero_le _⟩) (fun r_1 hw => ?_)
  subst hw
  refine lv_istore_n (lv' := [(2, .int (F_partF a1)), (0, .ref x0), (1, .int a1)]) hx hb dX0_computeWithRegisters_4 rfl hl (by decide) rfl (fun ls hl => ?_)
  refine lv_aload_n hx hb dX0_computeWithRegisters_5 rfl (lv_at hl 1 rfl) ?_
  refine lv_iload_n hx hb dX0_computeWithRegisters_6 rfl (lv_at hl 2 rfl) ?_
  refine vp_callSi (W.runV (As := [.int a1]) (rest := []) ⟨hx, hb, hml, hown, hts⟩ (c_registerA l dC dI x0 xw xr xg c1 c2 c3 wd rg rs pcv trv vav dnv a1) (cwV 1 hts (gV mL_X0_117 mI_X0_registerA mE_X0_registerA mN_X0 mC_X0_registerA) rfl rfl rfl (by decide +kernel) ⟨Nat.le_of_ble_eq_true rfl, Nat.le_of_ble_eq_true rfl⟩) ⟨fun a U g mk q => by obtain ⟨q0, qP, qK⟩ := q; exact ⟨q0, qP, va_K.moved (u := U) (U := U.calling g mk a) (Vm.Alike.refl U.vm) qK⟩, va_recv hK hP (ci := 0) (q0 := 0) rfl rfl, fun U hU hW => ⟨rfl, by rw [hU]; exact hP, va_K.moved hW.alike hK⟩⟩ rfl rfl hl.1 rfl (lv_room (Nat.le_of_ble_eq_true rfl)) dX0_computeWithRegisters_7 ⟨Nat.zero_le _, Nat.zero_le _⟩) (fun r_2 hw => ?_)
  subst hw
  refine lv_istore_n (lv' := [(3, .int (F_registerA rs a1)), (2, .int (F_partF a1)), (0, .ref x0), (1, .int a1)]) hx hb dX0_computeWithRegisters_10 rfl hl (by decide) rfl (fun ls hl => ?_)
  refine lv_aload_n hx hb dX0_computeWithRegisters_11 rfl (lv_at hl 2 rfl) ?_
  refine lv_iload_n hx hb dX0_computeWithRegisters_12 rfl (lv_at hl 3 rfl) ?_
  refine vp_callSi (W.runV (As := [.int a1]) (rest := []) ⟨hx, hb, hml, hown, hts⟩ (c_registerB l dC dI x0 xw xr xg c1 c2 c3 wd rg rs pcv trv vav dnv a1) (cwV 1 hts (gV mL_X0_123 mI_X0_registerB mE_X0_registerB mN_X0 mC_X0_registerB) rfl rfl rfl (by decide +kernel) ⟨Nat.le_of_ble_eq_true rfl, Nat.le_of_ble_eq_true rfl⟩) ⟨fun a U g mk q => by obtain ⟨q0, qP, qK⟩ := q; exact ⟨q0, qP, va_K.moved (u := U) (U := U.calling g mk a) (Vm.Alike.refl U.vm) qK⟩, va_recv hK hP (ci := 0) (q0 := 0) rfl rfl, fun U hU hW => ⟨rfl, by rw [hU]; exact hP, va_K.moved hW.alike hK⟩⟩ rfl rfl hl.1 rfl (lv_room (Nat.le_of_ble_eq_true rfl)) dX0_computeWithRegisters_13 ⟨Nat.zero_le _, Nat.zero_le _⟩) (fun r_3 hw => ?_)
  subst hw
  refine lv_istore (lv' := [(4, .int (F_registerB rs a1)), (3, .int (F_registerA rs a1)), (2, .int (F_partF a1)), (0, .ref x0), (1, .int a1)]) hx hb dX0_computeWithRegisters_16 hl (by decide) rfl (fun ls hl => ?_)
  refine lv_iload_n hx hb dX0_computeWithRegisters_18 rfl (lv_at hl 4 rfl) ?_
  refine vp_callSi (W.runS (As := [.int a1]) (rest := []) ⟨hx, hb, hml, hown, hts⟩ (c_partG l a1) (cwS 1 hts (gS mL_X0_140 mS_X0_partG mN_X0 mC_X0_partG) rfl rfl rfl (by decide +kernel) ⟨Nat.le_of_ble_eq_true rfl, Nat.le_of_ble_eq_true rfl⟩) preEq rfl rfl hl.1 rfl (lv_room (Nat.le_of_ble_eq_true rfl)) dX0_computeWithRegisters_19 ⟨Nat.zero_le _, Nat.zero_le _⟩) (fun r_4 hw => ?_)
  subst hw
  by_cases c_5 : (F_partG a1) = 0
  · refine lv_lookup (tgt := 56) (off := 34) hx hb dX0_computeWithRegisters_22 (by decide) (by rw [c_5] <;> rfl) (by decide) ?_
    refine lv_aload_n hx hb dX0_computeWithRegisters_56 rfl (lv_at hl 3 rfl) ?_
    refine lv_iload_n hx hb dX0_computeWithRegisters_57 rfl (lv_at hl 4 rfl) ?_
    refine lv_iload_n hx hb dX0_computeWithRegisters_58 rfl (lv_at hl 2 rfl) ?_
    refine lv_iload_n hx hb dX0_computeWithRegisters_59 rfl (lv_at hl 1 rfl) ?_
    refine lv_iload hx hb dX0_computeWithRegisters_60 (lv_at hl 0 rfl) ?_
    refine vp_callSi (W.runS (As := [.int (F_partF a1), .int (F_registerA rs a1), .int (F_registerB rs a1)]) (rest := [.int a1, .ref x0]) ⟨hx, hb, hml, hown, hts⟩ (c_compute l (F_partF a1) (F_registerA rs a1) (F_registerB rs a1)) (cwS 3 hts (gS mL_X0_146 mS_X0_compute mN_X0 mC_X0_compute) rfl rfl rfl (by decide +kernel) ⟨Nat.le_of_ble_eq_true rfl, Nat.le_of_ble_eq_true rfl⟩) preEq rfl rfl hl.1 rfl (lv_room (Nat.le_of_ble_eq_true rfl)) dX0_computeWithRegisters_62 ⟨Nat.zero_le _, Nat.zero_le _⟩) (fun r_6 hw => ?_)
    subst hw
    have hFc := va_free (wc := [(x0, .inr (0, [.ref xw, .ref xr, .ref xg, .int pcv, .int trv, .int vav, .int dnv])), (xw, .inl (c1, 4096, .inl wd)), (xr, .inl (c2, 4, .inl rg)), (xg, .inl (c3, 32, .inl rs))]) hD hS hA [0, 1, 2, 3] rfl
    refine va_calli (va_runV (As := [.int a1, .int (F_compute (F_partF a1) (F_registerA rs a1) (F_registerB rs a1))]) (rest := []) ⟨hx, hb, hml, hown, hts⟩ (c_finish l dC dI x0 xw xr xg c1 c2 c3 s.heap.size wd rg rs pcv trv vav dnv a1 (F_compute (F_partF a1) (F_registerA rs a1) (F_registerB rs a1))) (cwV 2 hts (gV mL_X0_78 mI_X0_finish mE_X0_finish mN_X0 mC_X0_finish) rfl rfl rfl (by decide +kernel) ⟨Nat.le_of_ble_eq_true rfl, Nat.le_of_ble_eq_true rfl⟩) ⟨fun a U g mk q => by obtain ⟨q0, q1, qP, qK, qD⟩ := q; exact ⟨q0, q1, qP, va_K.moved (u := U) (U := U.calling g mk a) (Vm.Alike.refl U.vm) qK, qD⟩, va_recv hK hP (ci := 0) (q0 := 0) rfl rfl, fun U hU hW => ⟨rfl, by rw [hU], by rw [hU]; exact hP, va_K.moved hW.alike hK, hD.weaken (fun _ _ _ _ => trivial)⟩⟩ rfl rfl hl.1 rfl (lv_room (Nat.le_of_ble_eq_true rfl)) dX0_computeWithRegisters_65 ⟨Nat.zero_le _, Nat.zero_le _⟩) hS (fun q _ h => hFc q h) hFc (fun r_7 u t H1 locs ht hvm hw hB hz1 hk1 hS => ?_)
    obtain ⟨b_8, hw⟩ := hw
    obtain ⟨wd_9, rs_10, pcv_11, trv_12, vav_13⟩ := u
    obtain ⟨hP1, hK1, hD1⟩ := hB
    rw [ht] at hP1
    obtain ⟨hP, hD⟩ := va_join (wr := []) (w1 := [(x0, .inr (0, [.ref xw, .ref xr, .ref xg, .int pcv_11, .int trv_12, .int vav_13, .int dnv])), (xw, .inl (c1, 4096, .inl wd_9)), (xr, .inl (c2, 4, .inl rg)), (xg, .inl (c3, 32, .inl rs_10))]) hP hD [0, 1, 2, 3] [] rfl rfl (by decide) (by decide) hk1 hFc hP1 hD1
    generalize H1 = H at hP hS ⊢
    have hP : va_P (dC, dI) vwCl [(x0, .inr (0, [.ref xw, .ref xr, .ref xg, .int pcv_11, .int trv_12, .int vav_13, .int dnv])), (xw, .inl (c1, 4096, .inl wd_9)), (xr, .inl (c2, 4, .inl rg)), (xg, .inl (c3, 32, .inl rs_10))] H := hP
    have hD : va_D A [(x0, .inr (0, [.ref xw, .ref xr, .ref xg, .int pcv_11, .int trv_12, .int vav_13, .int dnv])), (xw, .inl (c1, 4096, .inl wd_9)), (xr, .inl (c2, 4, .inl rg)), (xg, .inl (c3, 32, .inl rs_10))] := hD
    exact W.zret (v := r_7) (ty := .boolean) hx hb hr b_8 (fun t ht hW => ⟨⟨_, (wd_9, rs_10, pcv_11, trv_12, vav_13), rfl, ⟨b_8, (by unfold F_computeWithRegisters; rw [if_pos c_5]; exact hw)⟩, by rw [ht]; exact hP, va_K.moved hW.alike hK, hD⟩, hS.F ht⟩) hS.2.2 dX0_computeWithRegisters_68
  · by_cases c_14 : (F_partG a1) = 1
    · refine lv_lookup (tgt := 69) (off := 47) hx hb dX0_computeWithRegisters_22 (by decide) (by rw [c_14] <;> rfl) (by decide) ?_
      refine lv_aload_n hx hb dX0_computeWithRegisters_69 rfl (lv_at hl 3 rfl) ?_
      refine lv_iload_n hx hb dX0_computeWithRegisters_70 rfl (lv_at hl 4 rfl) ?_
      refine lv_iload_n hx hb dX0_computeWithRegisters_71 rfl (lv_at hl 2 rfl) ?_
      refine lv_iload_n hx hb dX0_computeWithRegisters_72 rfl (lv_at hl 1 rfl) ?_
      refine lv_iload hx hb dX0_computeWithRegisters_73 (lv_at hl 0 rfl) ?_
      refine vp_callSi (W.runS (As := [.int (F_partF a1), .int (F_registerA rs a1), .int (F_registerB rs a1)]) (rest := [.int a1, .ref x0]) ⟨hx, hb, hml, hown, hts⟩ (c_multiplyOrDivide l (F_partF a1) (F_registerA rs a1) (F_registerB rs a1)) (cwS 3 hts (gS mL_X0_150 mS_X0_multiplyOrDivide mN_X0 mC_X0_multiplyOrDivide) rfl rfl rfl (by decide +kernel) ⟨Nat.le_of_ble_eq_true rfl, Nat.le_of_ble_eq_true rfl⟩) preEq rfl rfl hl.1 rfl (lv_room (Nat.le_of_ble_eq_true rfl)) dX0_computeWithRegisters_75 ⟨Nat.zero_le _, Nat.zero_le _⟩) (fun r_15 hw => ?_)
      subst hw
      have hFc := va_free (wc := [(x0, .inr (0, [.ref xw, .ref xr, .ref xg, .int pcv, .int trv, .int vav, .int dnv])), (xw, .inl (c1, 4096, .inl wd)), (xr, .inl (c2, 4, .inl rg)), (xg, .inl (c3, 32, .inl rs))]) hD hS hA [0, 1, 2, 3] rfl
      refine va_calli (va_runV (As := [.int a1, .int (F_multiplyOrDivide (F_partF a1) (F_registerA rs a1) (F_registerB rs a1))]) (rest := []) ⟨hx, hb, hml, hown, hts⟩ (c_finish l dC dI x0 xw xr xg c1 c2 c3 s.heap.size wd rg rs pcv trv vav dnv a1 (F_multiplyOrDivide (F_partF a1) (F_registerA rs a1) (F_registerB rs a1))) (cwV 2 hts (gV mL_X0_78 mI_X0_finish mE_X0_finish mN_X0 mC_X0_finish) rfl rfl rfl (by decide +kernel) ⟨Nat.le_of_ble_eq_true rfl, Nat.le_of_ble_eq_true rfl⟩) ⟨fun a U g mk q => by obtain ⟨q0, q1, qP, qK, qD⟩ := q; exact ⟨q0, q1, qP, va_K.moved (u := U) (U := U.calling g mk a) (Vm.Alike.refl U.vm) qK, qD⟩, va_recv hK hP (ci := 0) (q0 := 0) rfl rfl, fun U hU hW => ⟨rfl, by rw [hU], by rw [hU]; exact hP, va_K.moved hW.alike hK, hD.weaken (fun _ _ _ _ => trivial)⟩⟩ rfl rfl hl.1 rfl (lv_room (Nat.le_of_ble_eq_true rfl)) dX0_computeWithRegisters_78 ⟨Nat.zero_le _, Nat.zero_le _⟩) hS (fun q _ h => hFc q h) hFc (fun r_16 u t H1 locs ht hvm hw hB hz1 hk1 hS => ?_)
      obtain ⟨b_17, hw⟩ := hw
      obtain ⟨wd_18, rs_19, pcv_20, trv_21, vav_22⟩ := u
      obtain ⟨hP1, hK1, hD1⟩ := hB
      rw [ht] at hP1
      obtain ⟨hP, hD⟩ := va_join (wr := []) (w1 := [(x0, .inr (0, [.ref xw, .ref xr, .ref xg, .int pcv_20, .int trv_21, .int vav_22, .int dnv])), (xw, .inl (c1, 4096, .inl wd_18)), (xr, .inl (c2, 4, .inl rg)), (xg, .inl (c3, 32, .inl rs_19))]) hP hD [0, 1, 2, 3] [] rfl rfl (by decide) (by decide) hk1 hFc hP1 hD1
      generalize H1 = H at hP hS ⊢
      have hP : va_P (dC, dI) vwCl [(x0, .inr (0, [.ref xw, .ref xr, .ref xg, .int pcv_20, .int trv_21, .int vav_22, .int dnv])), (xw, .inl (c1, 4096, .inl wd_18)), (xr, .inl (c2, 4, .inl rg)), (xg, .inl (c3, 32, .inl rs_19))] H := hP
      have hD : va_D A [(x0, .inr (0, [.ref xw, .ref xr, .ref xg, .int pcv_20, .int trv_21, .int vav_22, .int dnv])), (xw, .inl (c1, 4096, .inl wd_18)), (xr, .inl (c2, 4, .inl rg)), (xg, .inl (c3, 32, .inl rs_19))] := hD
      exact W.zret (v := r_16) (ty := .boolean) hx hb hr b_17 (fun t ht hW => ⟨⟨_, (wd_18, rs_19, pcv_20, trv_21, vav_22), rfl, ⟨b_17, (by unfold F_computeWithRegisters; rw [if_neg c_5, if_pos c_14]; exact hw)⟩, by rw [ht]; exact hP, va_K.moved hW.alike hK, hD⟩, hS.F ht⟩) hS.2.2 dX0_computeWithRegisters_81
    · by_cases c_23 : (F_partG a1) = 32
      · refine lv_lookup (tgt := 82) (off := 60) hx hb dX0_computeWithRegisters_22 (by decide) (by rw [c_23] <;> rfl) (by decide) ?_
        refine lv_iload_n hx hb dX0_computeWithRegisters_82 rfl (lv_at hl 2 rfl) ?_
        refine lv_if_ne (tgt := 96) hx hb dX0_computeWithRegisters_83 (by decide) (fun c_24 => ?_) (fun c_24 => ?_)
        · refine lv_iload_n hx hb dX0_computeWithRegisters_96 rfl (lv_at hl 2 rfl) ?_
          refine lv_iconst (v := 5) hx hb dX0_computeWithRegisters_97 (by decide) ?_
          refine lv_icmp_ne (tgt := 116) hx hb dX0_computeWithRegisters_98 (by decide) (fun c_25 => ?_) (fun c_25 => ?_)
          · refine lv_aload_n hx hb dX0_computeWithRegisters_116 rfl (lv_at hl 3 rfl) ?_
            refine lv_iload_n hx hb dX0_computeWithRegisters_117 rfl (lv_at hl 4 rfl) ?_
            have hFc := va_free (wc := [(x0, .inr (0, [.ref xw, .ref xr, .ref xg, .int pcv, .int trv, .int vav, .int dnv])), (xw, .inl (c1, 4096, .inl wd)), (xr, .inl (c2, 4, .inl rg)), (xg, .inl (c3, 32, .inl rs))]) hD hS hA [0, 1, 2, 3] rfl
            refine va_calli (va_runV (As := [.int a1]) (rest := []) ⟨hx, hb, hml, hown, hts⟩ (c_refuse l dC dI x0 xw xr xg c1 c2 c3 s.heap.size wd rg rs pcv trv vav dnv a1) (cwV 1 hts (gV mL_X0_111 mI_X0_refuse mE_X0_refuse mN_X0 mC_X0_refuse) rfl rfl rfl (by decide +kernel) ⟨Nat.le_of_ble_eq_true rfl, Nat.le_of_ble_eq_true rfl⟩) ⟨fun a U g mk q => by obtain ⟨q0, q1, qP, qK, qD⟩ := q; exact ⟨q0, q1, qP, va_K.moved (u := U) (U := U.calling g mk a) (Vm.Alike.refl U.vm) qK, qD⟩, va_recv hK hP (ci := 0) (q0 := 0) rfl rfl, fun U hU hW => ⟨rfl, by rw [hU], by rw [hU]; exact hP, va_K.moved hW.alike hK, hD.weaken (fun _ _ _ _ => trivial)⟩⟩ rfl rfl hl.1 rfl (lv_room (Nat.le_of_ble_eq_true rfl)) dX0_computeWithRegisters_118 ⟨Nat.zero_le _, Nat.zero_le _⟩) hS (fun q _ h => hFc q h) hFc (fun r_26 u t H1 locs ht hvm hw hB hz1 hk1 hS => ?_)
            obtain ⟨b_27, hw⟩ := hw
            obtain ⟨wd_28, rs_29, pcv_30, trv_31, vav_32⟩ := u
            obtain ⟨hP1, hK1, hD1⟩ := hB
            rw [ht] at hP1
            obtain ⟨hP, hD⟩ := va_join (wr := []) (w1 := [(x0, .inr (0, [.ref xw, .ref xr, .ref xg, .int pcv_30, .int trv_31, .int vav_32, .int dnv])), (xw, .inl (c1, 4096, .inl wd_28)), (xr, .inl (c2, 4, .inl rg)), (xg, .inl (c3, 32, .inl rs_29))]) hP hD [0, 1, 2, 3] [] rfl rfl (by decide) (by decide) hk1 hFc hP1 hD1
            generalize H1 = H at hP hS ⊢
            have hP : va_P (dC, dI) vwCl [(x0, .inr (0, [.ref xw, .ref xr, .ref xg, .int pcv_30, .int trv_31, .int vav_32, .int dnv])), (xw, .inl (c1, 4096, .inl wd_28)), (xr, .inl (c2, 4, .inl rg)), (xg, .inl (c3, 32, .inl rs_29))] H := hP
            have hD : va_D A [(x0, .inr (0, [.ref xw, .ref xr, .ref xg, .int pcv_30, .int trv_31, .int vav_32, .int dnv])), (xw, .inl (c1, 4096, .inl wd_28)), (xr, .inl (c2, 4, .inl rg)), (xg, .inl (c3, 32, .inl rs_29))] := hD
            exact W.zret (v := r_26) (ty := .boolean) hx hb hr b_27 (fun t ht hW => ⟨⟨_, (wd_28, rs_29, pcv_30, trv_31, vav_32), rfl, ⟨b_27, (by unfold F_computeWithRegisters; rw [if_neg c_5, if_neg c_14, if_pos c_23, if_neg c_24, if_neg c_25]; exact hw)⟩, by rw [ht]; exact hP, va_K.moved hW.alike hK, hD⟩, hS.F ht⟩) hS.2.2 dX0_computeWithRegisters_121
          · refine lv_aload_n hx hb dX0_computeWithRegisters_101 rfl (lv_at hl 3 rfl) ?_
            refine lv_iload_n hx hb dX0_computeWithRegisters_102 rfl (lv_at hl 4 rfl) ?_
            refine lv_iload_n hx hb dX0_computeWithRegisters_103 rfl (lv_at hl 1 rfl) ?_
            refine lv_iload hx hb dX0_computeWithRegisters_104 (lv_at hl 0 rfl) ?_
            refine lv_bipush (v := 31) hx hb dX0_computeWithRegisters_106 (by decide) ?_
            refine lv_iand hx hb dX0_computeWithRegisters_108 ?_
            refine lv_ishr hx hb dX0_computeWithRegisters_109 ?_
            have hFc := va_free (wc := [(x0, .inr (0, [.ref xw, .ref xr, .ref xg, .int pcv, .int trv, .int vav, .int dnv])), (xw, .inl (c1, 4096, .inl wd)), (xr, .inl (c2, 4, .inl rg)), (xg, .inl (c3, 32, .inl rs))]) hD hS hA [0, 1, 2, 3] rfl
            refine va_calli (va_runV (As := [.int a1, .int ((F_registerA rs a1) >>> (((F_registerB rs a1) &&& 31) &&& 31))]) (rest := []) ⟨hx, hb, hml, hown, hts⟩ (c_finish l dC dI x0 xw xr xg c1 c2 c3 s.heap.size wd rg rs pcv trv vav dnv a1 ((F_registerA rs a1) >>> (((F_registerB rs a1) &&& 31) &&& 31))) (cwV 2 hts (gV mL_X0_78 mI_X0_finish mE_X0_finish mN_X0 mC_X0_finish) rfl rfl rfl (by decide +kernel) ⟨Nat.le_of_ble_eq_true rfl, Nat.le_of_ble_eq_true rfl⟩) ⟨fun a U g mk q => by obtain ⟨q0, q1, qP, qK, qD⟩ := q; exact ⟨q0, q1, qP, va_K.moved (u := U) (U := U.calling g mk a) (Vm.Alike.refl U.vm) qK, qD⟩, va_recv hK hP (ci := 0) (q0 := 0) rfl rfl, fun U hU hW => ⟨rfl, by rw [hU], by rw [hU]; exact hP, va_K.moved hW.alike hK, hD.weaken (fun _ _ _ _ => trivial)⟩⟩ rfl rfl hl.1 rfl (lv_room (Nat.le_of_ble_eq_true rfl)) dX0_computeWithRegisters_110 ⟨Nat.zero_le _, Nat.zero_le _⟩) hS (fun q _ h => hFc q h) hFc (fun r_33 u t H1 locs ht hvm hw hB hz1 hk1 hS => ?_)
            obtain ⟨b_34, hw⟩ := hw
            obtain ⟨wd_35, rs_36, pcv_37, trv_38, vav_39⟩ := u
            obtain ⟨hP1, hK1, hD1⟩ := hB
            rw [ht] at hP1
            obtain ⟨hP, hD⟩ := va_join (wr := []) (w1 := [(x0, .inr (0, [.ref xw, .ref xr, .ref xg, .int pcv_37, .int trv_38, .int vav_39, .int dnv])), (xw, .inl (c1, 4096, .inl wd_35)), (xr, .inl (c2, 4, .inl rg)), (xg, .inl (c3, 32, .inl rs_36))]) hP hD [0, 1, 2, 3] [] rfl rfl (by decide) (by decide) hk1 hFc hP1 hD1
            generalize H1 = H at hP hS ⊢
            have hP : va_P (dC, dI) vwCl [(x0, .inr (0, [.ref xw, .ref xr, .ref xg, .int pcv_37, .int trv_38, .int vav_39, .int dnv])), (xw, .inl (c1, 4096, .inl wd_35)), (xr, .inl (c2, 4, .inl rg)), (xg, .inl (c3, 32, .inl rs_36))] H := hP
            have hD : va_D A [(x0, .inr (0, [.ref xw, .ref xr, .ref xg, .int pcv_37, .int trv_38, .int vav_39, .int dnv])), (xw, .inl (c1, 4096, .inl wd_35)), (xr, .inl (c2, 4, .inl rg)), (xg, .inl (c3, 32, .inl rs_36))] := hD
            refine lv_goto (tgt := 121) hx hb dX0_computeWithRegisters_113 (by decide) ?_
            exact W.zret (v := r_33) (ty := .boolean) hx hb hr b_34 (fun t ht hW => ⟨⟨_, (wd_35, rs_36, pcv_37, trv_38, vav_39), rfl, ⟨b_34, (by unfold F_computeWithRegisters; rw [if_neg c_5, if_neg c_14, if_pos c_23, if_neg c_24, if_pos c_25]; exact hw)⟩, by rw [ht]; exact hP, va_K.moved hW.alike hK, hD⟩, hS.F ht⟩) hS.2.2 dX0_computeWithRegisters_121
        · refine lv_aload_n hx hb dX0_computeWithRegisters_86 rfl (lv_at hl 3 rfl) ?_
          refine lv_iload_n hx hb dX0_computeWithRegisters_87 rfl (lv_at hl 4 rfl) ?_
          refine lv_iload_n hx hb dX0_computeWithRegisters_88 rfl (lv_at hl 1 rfl) ?_
          refine lv_iload hx hb dX0_computeWithRegisters_89 (lv_at hl 0 rfl) ?_
          refine lv_isub hx hb dX0_computeWithRegisters_91 ?_
          have hFc := va_free (wc := [(x0, .inr (0, [.ref xw, .ref xr, .ref xg, .int pcv, .int trv, .int vav, .int dnv])), (xw, .inl (c1, 4096, .inl wd)), (xr, .inl (c2, 4, .inl rg)), (xg, .inl (c3, 32, .inl rs))]) hD hS hA [0, 1, 2, 3] rfl
          refine va_calli (va_runV (As := [.int a1, .int ((F_registerA rs a1) - (F_registerB rs a1))]) (rest := []) ⟨hx, hb, hml, hown, hts⟩ (c_finish l dC dI x0 xw xr xg c1 c2 c3 s.heap.size wd rg rs pcv trv vav dnv a1 ((F_registerA rs a1) - (F_registerB rs a1))) (cwV 2 hts (gV mL_X0_78 mI_X0_finish mE_X0_finish mN_X0 mC_X0_finish) rfl rfl rfl (by decide +kernel) ⟨Nat.le_of_ble_eq_true rfl, Nat.le_of_ble_eq_true rfl⟩) ⟨fun a U g mk q => by obtain ⟨q0, q1, qP, qK, qD⟩ := q; exact ⟨q0, q1, qP, va_K.moved (u := U) (U := U.calling g mk a) (Vm.Alike.refl U.vm) qK, qD⟩, va_recv hK hP (ci := 0) (q0 := 0) rfl rfl, fun U hU hW => ⟨rfl, by rw [hU], by rw [hU]; exact hP, va_K.moved hW.alike hK, hD.weaken (fun _ _ _ _ => trivial)⟩⟩ rfl rfl hl.1 rfl (lv_room (Nat.le_of_ble_eq_true rfl)) dX0_computeWithRegisters_92 ⟨Nat.zero_le _, Nat.zero_le _⟩) hS (fun q _ h => hFc q h) hFc (fun r_40 u t H1 locs ht hvm hw hB hz1 hk1 hS => ?_)
          obtain ⟨b_41, hw⟩ := hw
          obtain ⟨wd_42, rs_43, pcv_44, trv_45, vav_46⟩ := u
          obtain ⟨hP1, hK1, hD1⟩ := hB
          rw [ht] at hP1
          obtain ⟨hP, hD⟩ := va_join (wr := []) (w1 := [(x0, .inr (0, [.ref xw, .ref xr, .ref xg, .int pcv_44, .int trv_45, .int vav_46, .int dnv])), (xw, .inl (c1, 4096, .inl wd_42)), (xr, .inl (c2, 4, .inl rg)), (xg, .inl (c3, 32, .inl rs_43))]) hP hD [0, 1, 2, 3] [] rfl rfl (by decide) (by decide) hk1 hFc hP1 hD1
          generalize H1 = H at hP hS ⊢
          have hP : va_P (dC, dI) vwCl [(x0, .inr (0, [.ref xw, .ref xr, .ref xg, .int pcv_44, .int trv_45, .int vav_46, .int dnv])), (xw, .inl (c1, 4096, .inl wd_42)), (xr, .inl (c2, 4, .inl rg)), (xg, .inl (c3, 32, .inl rs_43))] H := hP
          have hD : va_D A [(x0, .inr (0, [.ref xw, .ref xr, .ref xg, .int pcv_44, .int trv_45, .int vav_46, .int dnv])), (xw, .inl (c1, 4096, .inl wd_42)), (xr, .inl (c2, 4, .inl rg)), (xg, .inl (c3, 32, .inl rs_43))] := hD
          exact W.zret (v := r_40) (ty := .boolean) hx hb hr b_41 (fun t ht hW => ⟨⟨_, (wd_42, rs_43, pcv_44, trv_45, vav_46), rfl, ⟨b_41, (by unfold F_computeWithRegisters; rw [if_neg c_5, if_neg c_14, if_pos c_23, if_pos c_24]; exact hw)⟩, by rw [ht]; exact hP, va_K.moved hW.alike hK, hD⟩, hS.F ht⟩) hS.2.2 dX0_computeWithRegisters_95
      · refine lv_lookup (tgt := 122) (off := 100) hx hb dX0_computeWithRegisters_22 (by decide) (by rw [lv_osw c_5 (by decide), lv_osw c_14 (by decide), lv_osw c_23 (by decide)] <;> rfl) (by decide) ?_
        refine lv_aload_n hx hb dX0_computeWithRegisters_122 rfl (lv_at hl 3 rfl) ?_
        refine lv_iload_n hx hb dX0_computeWithRegisters_123 rfl (lv_at hl 4 rfl) ?_
        have hFc := va_free (wc := [(x0, .inr (0, [.ref xw, .ref xr, .ref xg, .int pcv, .int trv, .int vav, .int dnv])), (xw, .inl (c1, 4096, .inl wd)), (xr, .inl (c2, 4, .inl rg)), (xg, .inl (c3, 32, .inl rs))]) hD hS hA [0, 1, 2, 3] rfl
        refine va_calli (va_runV (As := [.int a1]) (rest := []) ⟨hx, hb, hml, hown, hts⟩ (c_refuse l dC dI x0 xw xr xg c1 c2 c3 s.heap.size wd rg rs pcv trv vav dnv a1) (cwV 1 hts (gV mL_X0_111 mI_X0_refuse mE_X0_refuse mN_X0 mC_X0_refuse) rfl rfl rfl (by decide +kernel) ⟨Nat.le_of_ble_eq_true rfl, Nat.le_of_ble_eq_true rfl⟩) ⟨fun a U g mk q => by obtain ⟨q0, q1, qP, qK, qD⟩ := q; exact ⟨q0, q1, qP, va_K.moved (u := U) (U := U.calling g mk a) (Vm.Alike.refl U.vm) qK, qD⟩, va_recv hK hP (ci := 0) (q0 := 0) rfl rfl, fun U hU hW => ⟨rfl, by rw [hU], by rw [hU]; exact hP, va_K.moved hW.alike hK, hD.weaken (fun _ _ _ _ => trivial)⟩⟩ rfl rfl hl.1 rfl (lv_room (Nat.le_of_ble_eq_true rfl)) dX0_computeWithRegisters_124 ⟨Nat.zero_le _, Nat.zero_le _⟩) hS (fun q _ h => hFc q h) hFc (fun r_47 u t H1 locs ht hvm hw hB hz1 hk1 hS => ?_)
        obtain ⟨b_48, hw⟩ := hw
        obtain ⟨wd_49, rs_50, pcv_51, trv_52, vav_53⟩ := u
        obtain ⟨hP1, hK1, hD1⟩ := hB
        rw [ht] at hP1
        obtain ⟨hP, hD⟩ := va_join (wr := []) (w1 := [(x0, .inr (0, [.ref xw, .ref xr, .ref xg, .int pcv_51, .int trv_52, .int vav_53, .int dnv])), (xw, .inl (c1, 4096, .inl wd_49)), (xr, .inl (c2, 4, .inl rg)), (xg, .inl (c3, 32, .inl rs_50))]) hP hD [0, 1, 2, 3] [] rfl rfl (by decide) (by decide) hk1 hFc hP1 hD1
        generalize H1 = H at hP hS ⊢
        have hP : va_P (dC, dI) vwCl [(x0, .inr (0, [.ref xw, .ref xr, .ref xg, .int pcv_51, .int trv_52, .int vav_53, .int dnv])), (xw, .inl (c1, 4096, .inl wd_49)), (xr, .inl (c2, 4, .inl rg)), (xg, .inl (c3, 32, .inl rs_50))] H := hP
        have hD : va_D A [(x0, .inr (0, [.ref xw, .ref xr, .ref xg, .int pcv_51, .int trv_52, .int vav_53, .int dnv])), (xw, .inl (c1, 4096, .inl wd_49)), (xr, .inl (c2, 4, .inl rg)), (xg, .inl (c3, 32, .inl rs_50))] := hD
        exact W.zret (v := r_47) (ty := .boolean) hx hb hr b_48 (fun t ht hW => ⟨⟨_, (wd_49, rs_50, pcv_51, trv_52, vav_53), rfl, ⟨b_48, (by unfold F_computeWithRegisters; rw [if_neg c_5, if_neg c_14, if_neg c_23]; exact hw)⟩, by rw [ht]; exact hP, va_K.moved hW.alike hK, hD⟩, hS.F ht⟩) hS.2.2 dX0_computeWithRegisters_127
def F_computeWithImmediate (wd : Nat → Int32) (rg : Nat → Int32) (rs : Nat → Int32) (pcv : Int32) (trv : Int32) (vav : Int32) (a1 : Int32) : Int32 × (Nat → Int32) × (Nat → Int32) × Int32 × Int32 × Int32 :=
  if (F_partF a1) = 5 then
    if (F_partG a1) = 32 then
      F_finish wd rg rs pcv trv vav a1 ((F_registerA rs a1) >>> ((F_partB a1) &&& 31))
    else
      if (F_partF a1) = 1 then
        if (F_partG a1) = 0 then
          F_finish wd rg rs pcv trv vav a1 (F_compute (F_partF a1) (F_registerA rs a1) (F_lowImmediate a1))
        else
          F_refuse wd rg rs pcv trv vav a1
      else
        if (F_partG a1) = 0 then
          F_finish wd rg rs pcv trv vav a1 (F_compute (F_partF a1) (F_registerA rs a1) (F_lowImmediate a1))
        else
          F_refuse wd rg rs pcv trv vav a1
  else
    if (F_partF a1) = 1 then
      if (F_partG a1) = 0 then
        F_finish wd rg rs pcv trv vav a1 (F_compute (F_partF a1) (F_registerA rs a1) (F_lowImmediate a1))
      else
        F_refuse wd rg rs pcv trv vav a1
    else
      F_finish wd rg rs pcv trv vav a1 (F_compute (F_partF a1) (F_registerA rs a1) (F_lowImmediate a1))
set_option maxHeartbeats 4000000 in
set_option maxRecDepth 100000 in
theorem c_computeWithImmediate (l : Launch) (dC : Nat → ClassId) (dI : Nat → Nat → Nat) (x0 xw xr xg : Nat) (c1 c2 c3 : ClassId) (sz : Nat) (wd : Nat → Int32) (rg : Nat → Int32) (rs : Nat → Int32) (pcv : Int32) (trv : Int32) (vav : Int32) (dnv : Int32) (a1 : Int32)  : Met l yX0_computeWithImmediate wsX0_computeWithImmediate ({ frames := 2, cells := 0, slots := 0, locals := 44 }) (va_Pc [.ref x0, .int a1] (fun U => U.heap.size = sz ∧ va_P (dC, dI) vwCl [(x0, .inr (0, [.ref xw, .ref xr, .ref xg, .int pcv, .int trv, .int vav, .int dnv])), (xw, .inl (c1, 4096, .inl wd)), (xr, .inl (c2, 4, .inl rg)), (xg, .inl (c3, 32, .inl rs))] U.heap ∧ va_K (dC, dI) vwCl [(c1, .int), (c2, .int), (c3, .int)] U ∧ va_D (fun _ => True) [(x0, .inr (0, [.ref xw, .ref xr, .ref xg, .int pcv, .int trv, .int vav, .int dnv])), (xw, .inl (c1, 4096, .inl wd)), (xr, .inl (c2, 4, .inl rg)), (xg, .inl (c3, 32, .inl rs))])) (va_Qi (fun (r : Int32) (u : (Nat → Int32) × (Nat → Int32) × Int32 × Int32 × Int32) => narrow .boolean (.int r) = .int r ∧ (r, u) = F_computeWithImmediate wd rg rs pcv trv vav a1) (fun (u : (Nat → Int32) × (Nat → Int32) × Int32 × Int32 × Int32) (t : State) => va_P (dC, dI) vwCl [(x0, .inr (0, [.ref xw, .ref xr, .ref xg, .int u.2.2.1, .int u.2.2.2.1, .int u.2.2.2.2, .int dnv])), (xw, .inl (c1, 4096, .inl u.1)), (xr, .inl (c2, 4, .inl rg)), (xg, .inl (c3, 32, .inl u.2.1))] t.heap ∧ va_K (dC, dI) vwCl [(c1, .int), (c2, .int), (c3, .int)] t ∧ va_D (va_A [(x0, .inr (0, [.ref xw, .ref xr, .ref xg, .int pcv, .int trv, .int vav, .int dnv])), (xw, .inl (c1, 4096, .inl wd)), (xr, .inl (c2, 4, .inl rg)), (xg, .inl (c3, 32, .inl rs))] sz) [(x0, .inr (0, [.ref xw, .ref xr, .ref xg, .int u.2.2.1, .int u.2.2.2.1, .int u.2.2.2.2, .int dnv])), (xw, .inl (c1, 4096, .inl u.1)), (xr, .inl (c2, 4, .inl rg)), (xg, .inl (c3, 32, .inl u.2.1))]) (va_A [(x0, .inr (0, [.ref xw, .ref xr, .ref xg, .int pcv, .int trv, .int vav, .int dnv])), (xw, .inl (c1, 4096, .inl wd)), (xr, .inl (c2, 4, .inl rg)), (xg, .inl (c3, 32, .inl rs))] sz)) 0 0 (va_A [(x0, .inr (0, [.ref xw, .ref xr, .ref xg, .int pcv, .int trv, .int vav, .int dnv])), (xw, .inl (c1, 4096, .inl wd)), (xr, .inl (c2, 4, .inl rg)), (xg, .inl (c3, 32, .inl rs))] sz) := by
  refine Met.ofW (cc := cX0_computeWithImmediate) (maxL := 4) (ret := (some .boolean)) (by decide) rfl ?_
  intro p e s m args below meth c s₁ B hml hv
  obtain ⟨rfl, hsz, hP, hK, hD0⟩ := hv
  have hx := B.exec
  have hb := B.bytes
  have hr := B.returns
  have hts := atoms_spec (ws := wsX0_computeWithImmediate) B.pre
  have hown : s.vm.findClass RX0 = some m.cls := findClass_of_methodNamed B.named
  have hlocks := B.notSynchronized
  subst hsz
  have hD := hD0.self (sz := s.heap.size)
  generalize hAe : va_A [(x0, .inr (0, [.ref xw, .ref xr, .ref xg, .int pcv, .int trv, .int vav, .int dnv])), (xw, .inl (c1, 4096, .inl wd)), (xr, .inl (c2, 4, .inl rg)), (xg, .inl (c3, 32, .inl rs))] s.heap.size = A at hD ⊢
  have hA : ∀ q : Nat, s.heap.size ≤ q → A q := fun q h => by rw [← hAe]; exact Or.inr h
  have hS : va_S A s.heap s.heap [] := va_S.rf
  have hP : va_P (dC, dI) vwCl [(x0, .inr (0, [.ref xw, .ref xr, .ref xg, .int pcv, .int trv, .int vav, .int dnv])), (xw, .inl (c1, 4096, .inl wd)), (xr, .inl (c2, 4, .inl rg)), (xg, .inl (c3, 32, .inl rs))] s.heap := hP
  have hl := lv_entry ([.ref x0, .int a1]) (n := 4) (Nat.le_of_ble_eq_true rfl)
  rw [lg_entry_eq]
  generalize (lg_sl ([.ref x0, .int a1]) ++ List.replicate (4 - (lg_sl ([.ref x0, .int a1])).length) Slot.unset).toArray = ls at hl ⊢
  have hl : lv_has ls 4 [(0, .ref x0), (1, .int a1)] := hl
  refine lv_iload_n hx hb dX0_computeWithImmediate_0 rfl (lv_at hl 1 rfl) ?_
  refine vp_callSi (W.runS (As := [.int a1]) (rest := []) ⟨hx, hb, hml, hown, hts⟩ (c_partF l a1) (cwS 1 hts (gS mL_X0_114 mS_X0_partF mN_X0 mC_X0_partF) rfl rfl rfl (by decide +kernel) ⟨Nat.le_of_ble_eq_true rfl, Nat.le_of_ble_eq_true rfl⟩) preEq rfl rfl hl.1 rfl (lv_room (Nat.le_of_ble_eq_true rfl)) dX0_computeWithImmediate_1 ⟨Nat.zero_le _, Nat.zero_le _⟩) (fun r_1 hw => ?_)
  subst hw
  refine lv_istore_n (lv' := [(2, .int (F_partF a1)), (0, .ref x0), (1, .int a1)]) hx hb dX0_computeWithImmediate_4 rfl hl (by decide) rfl (fun ls hl => ?_)
  refine lv_iload_n hx hb dX0_computeWithImmediate_5 rfl (lv_at hl 2 rfl) ?_
  refine vp_callSi (W.runS (As := [.int a1]) (rest := []) ⟨hx, hb, hml, hown, hts⟩ (c_partG l a1) (cwS 1 hts (gS mL_X0_140 mS_X0_partG mN_X0 mC_X0_partG) rfl rfl rfl (by decide +kernel) ⟨Nat.le_of_ble_eq_true rfl, Nat.le_of_ble_eq_true rfl⟩) preEq rfl rfl hl.1 rfl (lv_room (Nat.le_of_ble_eq_true rfl)) dX0_computeWithImmediate_6 ⟨Nat.zero_le _, Nat.zero_le _⟩) (fun r_2 hw => ?_)
  subst hw
  refine lv_istore_n (lv' := [(3, .int (F_partG a1)), (2, .int (F_partF a1)), (0, .ref x0), (1, .int a1)]) hx hb dX0_computeWithImmediate_9 rfl hl (by decide) rfl (fun ls hl => ?_)
  refine lv_iload_n hx hb dX0_computeWithImmediate_10 rfl (lv_at hl 1 rfl) ?_
  refine lv_iconst (v := 5) hx hb dX0_computeWithImmediate_11 (by decide) ?_
  refine lv_icmp_ne (tgt := 37) hx hb dX0_computeWithImmediate_12 (by decide) (fun c_3 => ?_) (fun c_3 => ?_)
  · refine lv_iload_n hx hb dX0_computeWithImmediate_37 rfl (lv_at hl 1 rfl) ?_
    refine lv_iconst (v := 1) hx hb dX0_computeWithImmediate_38 (by decide) ?_
    refine lv_icmp_eq (tgt := 47) hx hb dX0_computeWithImmediate_39 (by decide) (fun c_4 => ?_) (fun c_4 => ?_)
    · refine lv_iload_n hx hb dX0_computeWithImmediate_47 rfl (lv_at hl 0 rfl) ?_
      refine lv_if_eq (tgt := 57) hx hb dX0_computeWithImmediate_48 (by decide) (fun c_5 => ?_) (fun c_5 => ?_)
      · refine lv_aload_n hx hb dX0_computeWithImmediate_57 rfl (lv_at hl 2 rfl) ?_
        refine lv_iload_n hx hb dX0_computeWithImmediate_58 rfl (lv_at hl 3 rfl) ?_
        refine lv_iload_n hx hb dX0_computeWithImmediate_59 rfl (lv_at hl 1 rfl) ?_
        refine lv_aload_n hx hb dX0_computeWithImmediate_60 rfl (lv_at hl 2 rfl) ?_
        refine lv_iload_n hx hb dX0_computeWithImmediate_61 rfl (lv_at hl 3 rfl) ?_
        refine vp_callSi (W.runV (As := [.int a1]) (rest := [.int (F_partF a1), .int a1, .ref x0]) ⟨hx, hb, hml, hown, hts⟩ (c_registerA l dC dI x0 xw xr xg c1 c2 c3 wd rg rs pcv trv vav dnv a1) (cwV 1 hts (gV mL_X0_117 mI_X0_registerA mE_X0_registerA mN_X0 mC_X0_registerA) rfl rfl rfl (by decide +kernel) ⟨Nat.le_of_ble_eq_true rfl, Nat.le_of_ble_eq_true rfl⟩) ⟨fun a U g mk q => by obtain ⟨q0, qP, qK⟩ := q; exact ⟨q0, qP, va_K.moved (u := U) (U := U.calling g mk a) (Vm.Alike.refl U.vm) qK⟩, va_recv hK hP (ci := 0) (q0 := 0) rfl rfl, fun U hU hW => ⟨rfl, by rw [hU]; exact hP, va_K.moved hW.alike hK⟩⟩ rfl rfl hl.1 rfl (lv_room (Nat.le_of_ble_eq_true rfl)) dX0_computeWithImmediate_62 ⟨Nat.zero_le _, Nat.zero_le _⟩) (fun r_6 hw => ?_)
        subst hw
        refine lv_iload_n hx hb dX0_computeWithImmediate_65 rfl (lv_at hl 3 rfl) ?_
        refine vp_callSi (W.runS (As := [.int a1]) (rest := [.int (F_registerA rs a1), .int (F_partF a1), .int a1, .ref x0]) ⟨hx, hb, hml, hown, hts⟩ (c_lowImmediate l a1) (cwS 1 hts (gS mL_X0_120 mS_X0_lowImmediate mN_X0 mC_X0_lowImmediate) rfl rfl rfl (by decide +kernel) ⟨Nat.le_of_ble_eq_true rfl, Nat.le_of_ble_eq_true rfl⟩) preEq rfl rfl hl.1 rfl (lv_room (Nat.le_of_ble_eq_true rfl)) dX0_computeWithImmediate_66 ⟨Nat.zero_le _, Nat.zero_le _⟩) (fun r_7 hw => ?_)
        subst hw
        refine vp_callSi (W.runS (As := [.int (F_partF a1), .int (F_registerA rs a1), .int (F_lowImmediate a1)]) (rest := [.int a1, .ref x0]) ⟨hx, hb, hml, hown, hts⟩ (c_compute l (F_partF a1) (F_registerA rs a1) (F_lowImmediate a1)) (cwS 3 hts (gS mL_X0_146 mS_X0_compute mN_X0 mC_X0_compute) rfl rfl rfl (by decide +kernel) ⟨Nat.le_of_ble_eq_true rfl, Nat.le_of_ble_eq_true rfl⟩) preEq rfl rfl hl.1 rfl (lv_room (Nat.le_of_ble_eq_true rfl)) dX0_computeWithImmediate_69 ⟨Nat.zero_le _, Nat.zero_le _⟩) (fun r_8 hw => ?_)
        subst hw
        have hFc := va_free (wc := [(x0, .inr (0, [.ref xw, .ref xr, .ref xg, .int pcv, .int trv, .int vav, .int dnv])), (xw, .inl (c1, 4096, .inl wd)), (xr, .inl (c2, 4, .inl rg)), (xg, .inl (c3, 32, .inl rs))]) hD hS hA [0, 1, 2, 3] rfl
        refine va_calli (va_runV (As := [.int a1, .int (F_compute (F_partF a1) (F_registerA rs a1) (F_lowImmediate a1))]) (rest := []) ⟨hx, hb, hml, hown, hts⟩ (c_finish l dC dI x0 xw xr xg c1 c2 c3 s.heap.size wd rg rs pcv trv vav dnv a1 (F_compute (F_partF a1) (F_registerA rs a1) (F_lowImmediate a1))) (cwV 2 hts (gV mL_X0_78 mI_X0_finish mE_X0_finish mN_X0 mC_X0_finish) rfl rfl rfl (by decide +kernel) ⟨Nat.le_of_ble_eq_true rfl, Nat.le_of_ble_eq_true rfl⟩) ⟨fun a U g mk q => by obtain ⟨q0, q1, qP, qK, qD⟩ := q; exact ⟨q0, q1, qP, va_K.moved (u := U) (U := U.calling g mk a) (Vm.Alike.refl U.vm) qK, qD⟩, va_recv hK hP (ci := 0) (q0 := 0) rfl rfl, fun U hU hW => ⟨rfl, by rw [hU], by rw [hU]; exact hP, va_K.moved hW.alike hK, hD.weaken (fun _ _ _ _ => trivial)⟩⟩ rfl rfl hl.1 rfl (lv_room (Nat.le_of_ble_eq_true rfl)) dX0_computeWithImmediate_72 ⟨Nat.zero_le _, Nat.zero_le _⟩) hS (fun q _ h => hFc q h) hFc (fun r_9 u t H1 locs ht hvm hw hB hz1 hk1 hS => ?_)
        obtain ⟨b_10, hw⟩ := hw
        obtain ⟨wd_11, rs_12, pcv_13, trv_14, vav_15⟩ := u
        obtain ⟨hP1, hK1, hD1⟩ := hB
        rw [ht] at hP1
        obtain ⟨hP, hD⟩ := va_join (wr := []) (w1 := [(x0, .inr (0, [.ref xw, .ref xr, .ref xg, .int pcv_13, .int trv_14, .int vav_15, .int dnv])), (xw, .inl (c1, 4096, .inl wd_11)), (xr, .inl (c2, 4, .inl rg)), (xg, .inl (c3, 32, .inl rs_12))]) hP hD [0, 1, 2, 3] [] rfl rfl (by decide) (by decide) hk1 hFc hP1 hD1
        generalize H1 = H at hP hS ⊢
        have hP : va_P (dC, dI) vwCl [(x0, .inr (0, [.ref xw, .ref xr, .ref xg, .int pcv_13, .int trv_14, .int vav_15, .int dnv])), (xw, .inl (c1, 4096, .inl wd_11)), (xr, .inl (c2, 4, .inl rg)), (xg, .inl (c3, 32, .inl rs_12))] H := hP
        have hD : va_D A [(x0, .inr (0, [.ref xw, .ref xr, .ref xg, .int pcv_13, .int trv_14, .int vav_15, .int dnv])), (xw, .inl (c1, 4096, .inl wd_11)), (xr, .inl (c2, 4, .inl rg)), (xg, .inl (c3, 32, .inl rs_12))] := hD
        exact W.zret (v := r_9) (ty := .boolean) hx hb hr b_10 (fun t ht hW => ⟨⟨_, (wd_11, rs_12, pcv_13, trv_14, vav_15), rfl, ⟨b_10, (by unfold F_computeWithImmediate; rw [if_neg c_3, if_pos c_4, if_pos c_5]; exact hw)⟩, by rw [ht]; exact hP, va_K.moved hW.alike hK, hD⟩, hS.F ht⟩) hS.2.2 dX0_computeWithImmediate_75
      · refine lv_aload_n hx hb dX0_computeWithImmediate_51 rfl (lv_at hl 2 rfl) ?_
        refine lv_iload_n hx hb dX0_computeWithImmediate_52 rfl (lv_at hl 3 rfl) ?_
        have hFc := va_free (wc := [(x0, .inr (0, [.ref xw, .ref xr, .ref xg, .int pcv, .int trv, .int vav, .int dnv])), (xw, .inl (c1, 4096, .inl wd)), (xr, .inl (c2, 4, .inl rg)), (xg, .inl (c3, 32, .inl rs))]) hD hS hA [0, 1, 2, 3] rfl
        refine va_calli (va_runV (As := [.int a1]) (rest := []) ⟨hx, hb, hml, hown, hts⟩ (c_refuse l dC dI x0 xw xr xg c1 c2 c3 s.heap.size wd rg rs pcv trv vav dnv a1) (cwV 1 hts (gV mL_X0_111 mI_X0_refuse mE_X0_refuse mN_X0 mC_X0_refuse) rfl rfl rfl (by decide +kernel) ⟨Nat.le_of_ble_eq_true rfl, Nat.le_of_ble_eq_true rfl⟩) ⟨fun a U g mk q => by obtain ⟨q0, q1, qP, qK, qD⟩ := q; exact ⟨q0, q1, qP, va_K.moved (u := U) (U := U.calling g mk a) (Vm.Alike.refl U.vm) qK, qD⟩, va_recv hK hP (ci := 0) (q0 := 0) rfl rfl, fun U hU hW => ⟨rfl, by rw [hU], by rw [hU]; exact hP, va_K.moved hW.alike hK, hD.weaken (fun _ _ _ _ => trivial)⟩⟩ rfl rfl hl.1 rfl (lv_room (Nat.le_of_ble_eq_true rfl)) dX0_computeWithImmediate_53 ⟨Nat.zero_le _, Nat.zero_le _⟩) hS (fun q _ h => hFc q h) hFc (fun r_16 u t H1 locs ht hvm hw hB hz1 hk1 hS => ?_)
        obtain ⟨b_17, hw⟩ := hw
        obtain ⟨wd_18, rs_19, pcv_20, trv_21, vav_22⟩ := u
        obtain ⟨hP1, hK1, hD1⟩ := hB
        rw [ht] at hP1
        obtain ⟨hP, hD⟩ := va_join (wr := []) (w1 := [(x0, .inr (0, [.ref xw, .ref xr, .ref xg, .int pcv_20, .int trv_21, .int vav_22, .int dnv])), (xw, .inl (c1, 4096, .inl wd_18)), (xr, .inl (c2, 4, .inl rg)), (xg, .inl (c3, 32, .inl rs_19))]) hP hD [0, 1, 2, 3] [] rfl rfl (by decide) (by decide) hk1 hFc hP1 hD1
        generalize H1 = H at hP hS ⊢
        have hP : va_P (dC, dI) vwCl [(x0, .inr (0, [.ref xw, .ref xr, .ref xg, .int pcv_20, .int trv_21, .int vav_22, .int dnv])), (xw, .inl (c1, 4096, .inl wd_18)), (xr, .inl (c2, 4, .inl rg)), (xg, .inl (c3, 32, .inl rs_19))] H := hP
        have hD : va_D A [(x0, .inr (0, [.ref xw, .ref xr, .ref xg, .int pcv_20, .int trv_21, .int vav_22, .int dnv])), (xw, .inl (c1, 4096, .inl wd_18)), (xr, .inl (c2, 4, .inl rg)), (xg, .inl (c3, 32, .inl rs_19))] := hD
        exact W.zret (v := r_16) (ty := .boolean) hx hb hr b_17 (fun t ht hW => ⟨⟨_, (wd_18, rs_19, pcv_20, trv_21, vav_22), rfl, ⟨b_17, (by unfold F_computeWithImmediate; rw [if_neg c_3, if_pos c_4, if_neg c_5]; exact hw)⟩, by rw [ht]; exact hP, va_K.moved hW.alike hK, hD⟩, hS.F ht⟩) hS.2.2 dX0_computeWithImmediate_56
    · refine lv_iload_n hx hb dX0_computeWithImmediate_42 rfl (lv_at hl 1 rfl) ?_
      refine lv_iconst (v := 5) hx hb dX0_computeWithImmediate_43 (by decide) ?_
      refine lv_icmp_ne (tgt := 57) hx hb dX0_computeWithImmediate_44 (by decide) (fun c_23 => ?_) (fun c_23 => ?_)
      · refine lv_aload_n hx hb dX0_computeWithImmediate_57 rfl (lv_at hl 2 rfl) ?_
        refine lv_iload_n hx hb dX0_computeWithImmediate_58 rfl (lv_at hl 3 rfl) ?_
        refine lv_iload_n hx hb dX0_computeWithImmediate_59 rfl (lv_at hl 1 rfl) ?_
        refine lv_aload_n hx hb dX0_computeWithImmediate_60 rfl (lv_at hl 2 rfl) ?_
        refine lv_iload_n hx hb dX0_computeWithImmediate_61 rfl (lv_at hl 3 rfl) ?_
        refine vp_callSi (W.runV (As := [.int a1]) (rest := [.int (F_partF a1), .int a1, .ref x0]) ⟨hx, hb, hml, hown, hts⟩ (c_registerA l dC dI x0 xw xr xg c1 c2 c3 wd rg rs pcv trv vav dnv a1) (cwV 1 hts (gV mL_X0_117 mI_X0_registerA mE_X0_registerA mN_X0 mC_X0_registerA) rfl rfl rfl (by decide +kernel) ⟨Nat.le_of_ble_eq_true rfl, Nat.le_of_ble_eq_true rfl⟩) ⟨fun a U g mk q => by obtain ⟨q0, qP, qK⟩ := q; exact ⟨q0, qP, va_K.moved (u := U) (U := U.calling g mk a) (Vm.Alike.refl U.vm) qK⟩, va_recv hK hP (ci := 0) (q0 := 0) rfl rfl, fun U hU hW => ⟨rfl, by rw [hU]; exact hP, va_K.moved hW.alike hK⟩⟩ rfl rfl hl.1 rfl (lv_room (Nat.le_of_ble_eq_true rfl)) dX0_computeWithImmediate_62 ⟨Nat.zero_le _, Nat.zero_le _⟩) (fun r_24 hw => ?_)
        subst hw
        refine lv_iload_n hx hb dX0_computeWithImmediate_65 rfl (lv_at hl 3 rfl) ?_
        refine vp_callSi (W.runS (As := [.int a1]) (rest := [.int (F_registerA rs a1), .int (F_partF a1), .int a1, .ref x0]) ⟨hx, hb, hml, hown, hts⟩ (c_lowImmediate l a1) (cwS 1 hts (gS mL_X0_120 mS_X0_lowImmediate mN_X0 mC_X0_lowImmediate) rfl rfl rfl (by decide +kernel) ⟨Nat.le_of_ble_eq_true rfl, Nat.le_of_ble_eq_true rfl⟩) preEq rfl rfl hl.1 rfl (lv_room (Nat.le_of_ble_eq_true rfl)) dX0_computeWithImmediate_66 ⟨Nat.zero_le _, Nat.zero_le _⟩) (fun r_25 hw => ?_)
        subst hw
        refine vp_callSi (W.runS (As := [.int (F_partF a1), .int (F_registerA rs a1), .int (F_lowImmediate a1)]) (rest := [.int a1, .ref x0]) ⟨hx, hb, hml, hown, hts⟩ (c_compute l (F_partF a1) (F_registerA rs a1) (F_lowImmediate a1)) (cwS 3 hts (gS mL_X0_146 mS_X0_compute mN_X0 mC_X0_compute) rfl rfl rfl (by decide +kernel) ⟨Nat.le_of_ble_eq_true rfl, Nat.le_of_ble_eq_true rfl⟩) preEq rfl rfl hl.1 rfl (lv_room (Nat.le_of_ble_eq_true rfl)) dX0_computeWithImmediate_69 ⟨Nat.zero_le _, Nat.zero_le _⟩) (fun r_26 hw => ?_)
        subst hw
        have hFc := va_free (wc := [(x0, .inr (0, [.ref xw, .ref xr, .ref xg, .int pcv, .int trv, .int vav, .int dnv])), (xw, .inl (c1, 4096, .inl wd)), (xr, .inl (c2, 4, .inl rg)), (xg, .inl (c3, 32, .inl rs))]) hD hS hA [0, 1, 2, 3] rfl
        refine va_calli (va_runV (As := [.int a1, .int (F_compute (F_partF a1) (F_registerA rs a1) (F_lowImmediate a1))]) (rest := []) ⟨hx, hb, hml, hown, hts⟩ (c_finish l dC dI x0 xw xr xg c1 c2 c3 s.heap.size wd rg rs pcv trv vav dnv a1 (F_compute (F_partF a1) (F_registerA rs a1) (F_lowImmediate a1))) (cwV 2 hts (gV mL_X0_78 mI_X0_finish mE_X0_finish mN_X0 mC_X0_finish) rfl rfl rfl (by decide +kernel) ⟨Nat.le_of_ble_eq_true rfl, Nat.le_of_ble_eq_true rfl⟩) ⟨fun a U g mk q => by obtain ⟨q0, q1, qP, qK, qD⟩ := q; exact ⟨q0, q1, qP, va_K.moved (u := U) (U := U.calling g mk a) (Vm.Alike.refl U.vm) qK, qD⟩, va_recv hK hP (ci := 0) (q0 := 0) rfl rfl, fun U hU hW => ⟨rfl, by rw [hU], by rw [hU]; exact hP, va_K.moved hW.alike hK, hD.weaken (fun _ _ _ _ => trivial)⟩⟩ rfl rfl hl.1 rfl (lv_room (Nat.le_of_ble_eq_true rfl)) dX0_computeWithImmediate_72 ⟨Nat.zero_le _, Nat.zero_le _⟩) hS (fun q _ h => hFc q h) hFc (fun r_27 u t H1 locs ht hvm hw hB hz1 hk1 hS => ?_)
        obtain ⟨b_28, hw⟩ := hw
        obtain ⟨wd_29, rs_30, pcv_31, trv_32, vav_33⟩ := u
        obtain ⟨hP1, hK1, hD1⟩ := hB
        rw [ht] at hP1
        obtain ⟨hP, hD⟩ := va_join (wr := []) (w1 := [(x0, .inr (0, [.ref xw, .ref xr, .ref xg, .int pcv_31, .int trv_32, .int vav_33, .int dnv])), (xw, .inl (c1, 4096, .inl wd_29)), (xr, .inl (c2, 4, .inl rg)), (xg, .inl (c3, 32, .inl rs_30))]) hP hD [0, 1, 2, 3] [] rfl rfl (by decide) (by decide) hk1 hFc hP1 hD1
        generalize H1 = H at hP hS ⊢
        have hP : va_P (dC, dI) vwCl [(x0, .inr (0, [.ref xw, .ref xr, .ref xg, .int pcv_31, .int trv_32, .int vav_33, .int dnv])), (xw, .inl (c1, 4096, .inl wd_29)), (xr, .inl (c2, 4, .inl rg)), (xg, .inl (c3, 32, .inl rs_30))] H := hP
        have hD : va_D A [(x0, .inr (0, [.ref xw, .ref xr, .ref xg, .int pcv_31, .int trv_32, .int vav_33, .int dnv])), (xw, .inl (c1, 4096, .inl wd_29)), (xr, .inl (c2, 4, .inl rg)), (xg, .inl (c3, 32, .inl rs_30))] := hD
        exact W.zret (v := r_27) (ty := .boolean) hx hb hr b_28 (fun t ht hW => ⟨⟨_, (wd_29, rs_30, pcv_31, trv_32, vav_33), rfl, ⟨b_28, (by unfold F_computeWithImmediate; rw [if_neg c_3, if_neg c_4]; exact hw)⟩, by rw [ht]; exact hP, va_K.moved hW.alike hK, hD⟩, hS.F ht⟩) hS.2.2 dX0_computeWithImmediate_75
      · exact absurd c_23 c_3
  · refine lv_iload_n hx hb dX0_computeWithImmediate_15 rfl (lv_at hl 0 rfl) ?_
    refine lv_bipush (v := 32) hx hb dX0_computeWithImmediate_16 (by decide) ?_
    refine lv_icmp_ne (tgt := 37) hx hb dX0_computeWithImmediate_18 (by decide) (fun c_34 => ?_) (fun c_34 => ?_)
    · refine lv_iload_n hx hb dX0_computeWithImmediate_37 rfl (lv_at hl 1 rfl) ?_
      refine lv_iconst (v := 1) hx hb dX0_computeWithImmediate_38 (by decide) ?_
      refine lv_icmp_eq (tgt := 47) hx hb dX0_computeWithImmediate_39 (by decide) (fun c_35 => ?_) (fun c_35 => ?_)
      · refine lv_iload_n hx hb dX0_computeWithImmediate_47 rfl (lv_at hl 0 rfl) ?_
        refine lv_if_eq (tgt := 57) hx hb dX0_computeWithImmediate_48 (by decide) (fun c_36 => ?_) (fun c_36 => ?_)
        · refine lv_aload_n hx hb dX0_computeWithImmediate_57 rfl (lv_at hl 2 rfl) ?_
          refine lv_iload_n hx hb dX0_computeWithImmediate_58 rfl (lv_at hl 3 rfl) ?_
          refine lv_iload_n hx hb dX0_computeWithImmediate_59 rfl (lv_at hl 1 rfl) ?_
          refine lv_aload_n hx hb dX0_computeWithImmediate_60 rfl (lv_at hl 2 rfl) ?_
          refine lv_iload_n hx hb dX0_computeWithImmediate_61 rfl (lv_at hl 3 rfl) ?_
          refine vp_callSi (W.runV (As := [.int a1]) (rest := [.int (F_partF a1), .int a1, .ref x0]) ⟨hx, hb, hml, hown, hts⟩ (c_registerA l dC dI x0 xw xr xg c1 c2 c3 wd rg rs pcv trv vav dnv a1) (cwV 1 hts (gV mL_X0_117 mI_X0_registerA mE_X0_registerA mN_X0 mC_X0_registerA) rfl rfl rfl (by decide +kernel) ⟨Nat.le_of_ble_eq_true rfl, Nat.le_of_ble_eq_true rfl⟩) ⟨fun a U g mk q => by obtain ⟨q0, qP, qK⟩ := q; exact ⟨q0, qP, va_K.moved (u := U) (U := U.calling g mk a) (Vm.Alike.refl U.vm) qK⟩, va_recv hK hP (ci := 0) (q0 := 0) rfl rfl, fun U hU hW => ⟨rfl, by rw [hU]; exact hP, va_K.moved hW.alike hK⟩⟩ rfl rfl hl.1 rfl (lv_room (Nat.le_of_ble_eq_true rfl)) dX0_computeWithImmediate_62 ⟨Nat.zero_le _, Nat.zero_le _⟩) (fun r_37 hw => ?_)
          subst hw
          refine lv_iload_n hx hb dX0_computeWithImmediate_65 rfl (lv_at hl 3 rfl) ?_
          refine vp_callSi (W.runS (As := [.int a1]) (rest := [.int (F_registerA rs a1), .int (F_partF a1), .int a1, .ref x0]) ⟨hx, hb, hml, hown, hts⟩ (c_lowImmediate l a1) (cwS 1 hts (gS mL_X0_120 mS_X0_lowImmediate mN_X0 mC_X0_lowImmediate) rfl rfl rfl (by decide +kernel) ⟨Nat.le_of_ble_eq_true rfl, Nat.le_of_ble_eq_true rfl⟩) preEq rfl rfl hl.1 rfl (lv_room (Nat.le_of_ble_eq_true rfl)) dX0_computeWithImmediate_66 ⟨Nat.zero_le _, Nat.zero_le _⟩) (fun r_38 hw => ?_)
          subst hw
          refine vp_callSi (W.runS (As := [.int (F_partF a1), .int (F_registerA rs a1), .int (F_lowImmediate a1)]) (rest := [.int a1, .ref x0]) ⟨hx, hb, hml, hown, hts⟩ (c_compute l (F_partF a1) (F_registerA rs a1) (F_lowImmediate a1)) (cwS 3 hts (gS mL_X0_146 mS_X0_compute mN_X0 mC_X0_compute) rfl rfl rfl (by decide +kernel) ⟨Nat.le_of_ble_eq_true rfl, Nat.le_of_ble_eq_true rfl⟩) preEq rfl rfl hl.1 rfl (lv_room (Nat.le_of_ble_eq_true rfl)) dX0_computeWithImmediate_69 ⟨Nat.zero_le _, Nat.zero_le _⟩) (fun r_39 hw => ?_)
          subst hw
          have hFc := va_free (wc := [(x0, .inr (0, [.ref xw, .ref xr, .ref xg, .int pcv, .int trv, .int vav, .int dnv])), (xw, .inl (c1, 4096, .inl wd)), (xr, .inl (c2, 4, .inl rg)), (xg, .inl (c3, 32, .inl rs))]) hD hS hA [0, 1, 2, 3] rfl
          refine va_calli (va_runV (As := [.int a1, .int (F_compute (F_partF a1) (F_registerA rs a1) (F_lowImmediate a1))]) (rest := []) ⟨hx, hb, hml, hown, hts⟩ (c_finish l dC dI x0 xw xr xg c1 c2 c3 s.heap.size wd rg rs pcv trv vav dnv a1 (F_compute (F_partF a1) (F_registerA rs a1) (F_lowImmediate a1))) (cwV 2 hts (gV mL_X0_78 mI_X0_finish mE_X0_finish mN_X0 mC_X0_finish) rfl rfl rfl (by decide +kernel) ⟨Nat.le_of_ble_eq_true rfl, Nat.le_of_ble_eq_true rfl⟩) ⟨fun a U g mk q => by obtain ⟨q0, q1, qP, qK, qD⟩ := q; exact ⟨q0, q1, qP, va_K.moved (u := U) (U := U.calling g mk a) (Vm.Alike.refl U.vm) qK, qD⟩, va_recv hK hP (ci := 0) (q0 := 0) rfl rfl, fun U hU hW => ⟨rfl, by rw [hU], by rw [hU]; exact hP, va_K.moved hW.alike hK, hD.weaken (fun _ _ _ _ => trivial)⟩⟩ rfl rfl hl.1 rfl (lv_room (Nat.le_of_ble_eq_true rfl)) dX0_computeWithImmediate_72 ⟨Nat.zero_le _, Nat.zero_le _⟩) hS (fun q _ h => hFc q h) hFc (fun r_40 u t H1 locs ht hvm hw hB hz1 hk1 hS => ?_)
          obtain ⟨b_41, hw⟩ := hw
          obtain ⟨wd_42, rs_43, pcv_44, trv_45, vav_46⟩ := u
          obtain ⟨hP1, hK1, hD1⟩ := hB
          rw [ht] at hP1
          obtain ⟨hP, hD⟩ := va_join (wr := []) (w1 := [(x0, .inr (0, [.ref xw, .ref xr, .ref xg, .int pcv_44, .int trv_45, .int vav_46, .int dnv])), (xw, .inl (c1, 4096, .inl wd_42)), (xr, .inl (c2, 4, .inl rg)), (xg, .inl (c3, 32, .inl rs_43))]) hP hD [0, 1, 2, 3] [] rfl rfl (by decide) (by decide) hk1 hFc hP1 hD1
          generalize H1 = H at hP hS ⊢
          have hP : va_P (dC, dI) vwCl [(x0, .inr (0, [.ref xw, .ref xr, .ref xg, .int pcv_44, .int trv_45, .int vav_46, .int dnv])), (xw, .inl (c1, 4096, .inl wd_42)), (xr, .inl (c2, 4, .inl rg)), (xg, .inl (c3, 32, .inl rs_43))] H := hP
          have hD : va_D A [(x0, .inr (0, [.ref xw, .ref xr, .ref xg, .int pcv_44, .int trv_45, .int vav_46, .int dnv])), (xw, .inl (c1, 4096, .inl wd_42)), (xr, .inl (c2, 4, .inl rg)), (xg, .inl (c3, 32, .inl rs_43))] := hD
          exact W.zret (v := r_40) (ty := .boolean) hx hb hr b_41 (fun t ht hW => ⟨⟨_, (wd_42, rs_43, pcv_44, trv_45, vav_46), rfl, ⟨b_41, (by unfold F_computeWithImmediate; rw [if_pos c_3, if_neg c_34, if_pos c_35, if_pos c_36]; exact hw)⟩, by rw [ht]; exact hP, va_K.moved hW.alike hK, hD⟩, hS.F ht⟩) hS.2.2 dX0_computeWithImmediate_75
        · refine lv_aload_n hx hb dX0_computeWithImmediate_51 rfl (lv_at hl 2 rfl) ?_
          refine lv_iload_n hx hb dX0_computeWithImmediate_52 rfl (lv_at hl 3 rfl) ?_
          have hFc := va_free (wc := [(x0, .inr (0, [.ref xw, .ref xr, .ref xg, .int pcv, .int trv, .int vav, .int dnv])), (xw, .inl (c1, 4096, .inl wd)), (xr, .inl (c2, 4, .inl rg)), (xg, .inl (c3, 32, .inl rs))]) hD hS hA [0, 1, 2, 3] rfl
          refine va_calli (va_runV (As := [.int a1]) (rest := []) ⟨hx, hb, hml, hown, hts⟩ (c_refuse l dC dI x0 xw xr xg c1 c2 c3 s.heap.size wd rg rs pcv trv vav dnv a1) (cwV 1 hts (gV mL_X0_111 mI_X0_refuse mE_X0_refuse mN_X0 mC_X0_refuse) rfl rfl rfl (by decide +kernel) ⟨Nat.le_of_ble_eq_true rfl, Nat.le_of_ble_eq_true rfl⟩) ⟨fun a U g mk q => by obtain ⟨q0, q1, qP, qK, qD⟩ := q; exact ⟨q0, q1, qP, va_K.moved (u := U) (U := U.calling g mk a) (Vm.Alike.refl U.vm) qK, qD⟩, va_recv hK hP (ci := 0) (q0 := 0) rfl rfl, fun U hU hW => ⟨rfl, by rw [hU], by rw [hU]; exact hP, va_K.moved hW.alike hK, hD.weaken (fun _ _ _ _ => trivial)⟩⟩ rfl rfl hl.1 rfl (lv_room (Nat.le_of_ble_eq_true rfl)) dX0_computeWithImmediate_53 ⟨Nat.zero_le _, Nat.zero_le _⟩) hS (fun q _ h => hFc q h) hFc (fun r_47 u t H1 locs ht hvm hw hB hz1 hk1 hS => ?_)
          obtain ⟨b_48, hw⟩ := hw
          obtain ⟨wd_49, rs_50, pcv_51, trv_52, vav_53⟩ := u
          obtain ⟨hP1, hK1, hD1⟩ := hB
          rw [ht] at hP1
          obtain ⟨hP, hD⟩ := va_join (wr := []) (w1 := [(x0, .inr (0, [.ref xw, .ref xr, .ref xg, .int pcv_51, .int trv_52, .int vav_53, .int dnv])), (xw, .inl (c1, 4096, .inl wd_49)), (xr, .inl (c2, 4, .inl rg)), (xg, .inl (c3, 32, .inl rs_50))]) hP hD [0, 1, 2, 3] [] rfl rfl (by decide) (by decide) hk1 hFc hP1 hD1
          generalize H1 = H at hP hS ⊢
          have hP : va_P (dC, dI) vwCl [(x0, .inr (0, [.ref xw, .ref xr, .ref xg, .int pcv_51, .int trv_52, .int vav_53, .int dnv])), (xw, .inl (c1, 4096, .inl wd_49)), (xr, .inl (c2, 4, .inl rg)), (xg, .inl (c3, 32, .inl rs_50))] H := hP
          have hD : va_D A [(x0, .inr (0, [.ref xw, .ref xr, .ref xg, .int pcv_51, .int trv_52, .int vav_53, .int dnv])), (xw, .inl (c1, 4096, .inl wd_49)), (xr, .inl (c2, 4, .inl rg)), (xg, .inl (c3, 32, .inl rs_50))] := hD
          exact W.zret (v := r_47) (ty := .boolean) hx hb hr b_48 (fun t ht hW => ⟨⟨_, (wd_49, rs_50, pcv_51, trv_52, vav_53), rfl, ⟨b_48, (by unfold F_computeWithImmediate; rw [if_pos c_3, if_neg c_34, if_pos c_35, if_neg c_36]; exact hw)⟩, by rw [ht]; exact hP, va_K.moved hW.alike hK, hD⟩, hS.F ht⟩) hS.2.2 dX0_computeWithImmediate_56
      · refine lv_iload_n hx hb dX0_computeWithImmediate_42 rfl (lv_at hl 1 rfl) ?_
        refine lv_iconst (v := 5) hx hb dX0_computeWithImmediate_43 (by decide) ?_
        refine lv_icmp_ne (tgt := 57) hx hb dX0_computeWithImmediate_44 (by decide) (fun c_54 => ?_) (fun c_54 => ?_)
        · exact absurd c_3 c_54
        · refine lv_iload_n hx hb dX0_computeWithImmediate_47 rfl (lv_at hl 0 rfl) ?_
          refine lv_if_eq (tgt := 57) hx hb dX0_computeWithImmediate_48 (by decide) (fun c_55 => ?_) (fun c_55 => ?_)
          · refine lv_aload_n hx hb dX0_computeWithImmediate_57 rfl (lv_at hl 2 rfl) ?_
            refine lv_iload_n hx hb dX0_computeWithImmediate_58 rfl (lv_at hl 3 rfl) ?_
            refine lv_iload_n hx hb dX0_computeWithImmediate_59 rfl (lv_at hl 1 rfl) ?_
            refine lv_aload_n hx hb dX0_computeWithImmediate_60 rfl (lv_at hl 2 rfl) ?_
            refine lv_iload_n hx hb dX0_computeWithImmediate_61 rfl (lv_at hl 3 rfl) ?_
            refine vp_callSi (W.runV (As := [.int a1]) (rest := [.int (F_partF a1), .int a1, .ref x0]) ⟨hx, hb, hml, hown, hts⟩ (c_registerA l dC dI x0 xw xr xg c1 c2 c3 wd rg rs pcv trv vav dnv a1) (cwV 1 hts (gV mL_X0_117 mI_X0_registerA mE_X0_registerA mN_X0 mC_X0_registerA) rfl rfl rfl (by decide +kernel) ⟨Nat.le_of_ble_eq_true rfl, Nat.le_of_ble_eq_true rfl⟩) ⟨fun a U g mk q => by obtain ⟨q0, qP, qK⟩ := q; exact ⟨q0, qP, va_K.moved (u := U) (U := U.calling g mk a) (Vm.Alike.refl U.vm) qK⟩, va_recv hK hP (ci := 0) (q0 := 0) rfl rfl, fun U hU hW => ⟨rfl, by rw [hU]; exact hP, va_K.moved hW.alike hK⟩⟩ rfl rfl hl.1 rfl (lv_room (Nat.le_of_ble_eq_true rfl)) dX0_computeWithImmediate_62 ⟨Nat.zero_le _, Nat.zero_le _⟩) (fun r_56 hw => ?_)
            subst hw
            refine lv_iload_n hx hb dX0_computeWithImmediate_65 rfl (lv_at hl 3 rfl) ?_
            refine vp_callSi (W.runS (As := [.int a1]) (rest := [.int (F_registerA rs a1), .int (F_partF a1), .int a1, .ref x0]) ⟨hx, hb, hml, hown, hts⟩ (c_lowImmediate l a1) (cwS 1 hts (gS mL_X0_120 mS_X0_lowImmediate mN_X0 mC_X0_lowImmediate) rfl rfl rfl (by decide +kernel) ⟨Nat.le_of_ble_eq_true rfl, Nat.le_of_ble_eq_true rfl⟩) preEq rfl rfl hl.1 rfl (lv_room (Nat.le_of_ble_eq_true rfl)) dX0_computeWithImmediate_66 ⟨Nat.zero_le _, Nat.zero_le _⟩) (fun r_57 hw => ?_)
            subst hw
            refine vp_callSi (W.runS (As := [.int (F_partF a1), .int (F_registerA rs a1), .int (F_lowImmediate a1)]) (rest := [.int a1, .ref x0]) ⟨hx, hb, hml, hown, hts⟩ (c_compute l (F_partF a1) (F_registerA rs a1) (F_lowImmediate a1)) (cwS 3 hts (gS mL_X0_146 mS_X0_compute mN_X0 mC_X0_compute) rfl rfl rfl (by decide +kernel) ⟨Nat.le_of_ble_eq_true rfl, Nat.le_of_ble_eq_true rfl⟩) preEq rfl rfl hl.1 rfl (lv_room (Nat.le_of_ble_eq_true rfl)) dX0_computeWithImmediate_69 ⟨Nat.zero_le _, Nat.zero_le _⟩) (fun r_58 hw => ?_)
            subst hw
            have hFc := va_free (wc := [(x0, .inr (0, [.ref xw, .ref xr, .ref xg, .int pcv, .int trv, .int vav, .int dnv])), (xw, .inl (c1, 4096, .inl wd)), (xr, .inl (c2, 4, .inl rg)), (xg, .inl (c3, 32, .inl rs))]) hD hS hA [0, 1, 2, 3] rfl
            refine va_calli (va_runV (As := [.int a1, .int (F_compute (F_partF a1) (F_registerA rs a1) (F_lowImmediate a1))]) (rest := []) ⟨hx, hb, hml, hown, hts⟩ (c_finish l dC dI x0 xw xr xg c1 c2 c3 s.heap.size wd rg rs pcv trv vav dnv a1 (F_compute (F_partF a1) (F_registerA rs a1) (F_lowImmediate a1))) (cwV 2 hts (gV mL_X0_78 mI_X0_finish mE_X0_finish mN_X0 mC_X0_finish) rfl rfl rfl (by decide +kernel) ⟨Nat.le_of_ble_eq_true rfl, Nat.le_of_ble_eq_true rfl⟩) ⟨fun a U g mk q => by obtain ⟨q0, q1, qP, qK, qD⟩ := q; exact ⟨q0, q1, qP, va_K.moved (u := U) (U := U.calling g mk a) (Vm.Alike.refl U.vm) qK, qD⟩, va_recv hK hP (ci := 0) (q0 := 0) rfl rfl, fun U hU hW => ⟨rfl, by rw [hU], by rw [hU]; exact hP, va_K.moved hW.alike hK, hD.weaken (fun _ _ _ _ => trivial)⟩⟩ rfl rfl hl.1 rfl (lv_room (Nat.le_of_ble_eq_true rfl)) dX0_computeWithImmediate_72 ⟨Nat.zero_le _, Nat.zero_le _⟩) hS (fun q _ h => hFc q h) hFc (fun r_59 u t H1 locs ht hvm hw hB hz1 hk1 hS => ?_)
            obtain ⟨b_60, hw⟩ := hw
            obtain ⟨wd_61, rs_62, pcv_63, trv_64, vav_65⟩ := u
            obtain ⟨hP1, hK1, hD1⟩ := hB
            rw [ht] at hP1
            obtain ⟨hP, hD⟩ := va_join (wr := []) (w1 := [(x0, .inr (0, [.ref xw, .ref xr, .ref xg, .int pcv_63, .int trv_64, .int vav_65, .int dnv])), (xw, .inl (c1, 4096, .inl wd_61)), (xr, .inl (c2, 4, .inl rg)), (xg, .inl (c3, 32, .inl rs_62))]) hP hD [0, 1, 2, 3] [] rfl rfl (by decide) (by decide) hk1 hFc hP1 hD1
            generalize H1 = H at hP hS ⊢
            have hP : va_P (dC, dI) vwCl [(x0, .inr (0, [.ref xw, .ref xr, .ref xg, .int pcv_63, .int trv_64, .int vav_65, .int dnv])), (xw, .inl (c1, 4096, .inl wd_61)), (xr, .inl (c2, 4, .inl rg)), (xg, .inl (c3, 32, .inl rs_62))] H := hP
            have hD : va_D A [(x0, .inr (0, [.ref xw, .ref xr, .ref xg, .int pcv_63, .int trv_64, .int vav_65, .int dnv])), (xw, .inl (c1, 4096, .inl wd_61)), (xr, .inl (c2, 4, .inl rg)), (xg, .inl (c3, 32, .inl rs_62))] := hD
            exact W.zret (v := r_59) (ty := .boolean) hx hb hr b_60 (fun t ht hW => ⟨⟨_, (wd_61, rs_62, pcv_63, trv_64, vav_65), rfl, ⟨b_60, (by unfold F_computeWithImmediate; rw [if_pos c_3, if_neg c_34, if_neg c_35, if_pos c_55]; exact hw)⟩, by rw [ht]; exact hP, va_K.moved hW.alike hK, hD⟩, hS.F ht⟩) hS.2.2 dX0_computeWithImmediate_75
          · refine lv_aload_n hx hb dX0_computeWithImmediate_51 rfl (lv_at hl 2 rfl) ?_
            refine lv_iload_n hx hb dX0_computeWithImmediate_52 rfl (lv_at hl 3 rfl) ?_
            have hFc := va_free (wc := [(x0, .inr (0, [.ref xw, .ref xr, .ref xg, .int pcv, .int trv, .int vav, .int dnv])), (xw, .inl (c1, 4096, .inl wd)), (xr, .inl (c2, 4, .inl rg)), (xg, .inl (c3, 32, .inl rs))]) hD hS hA [0, 1, 2, 3] rfl
            refine va_calli (va_runV (As := [.int a1]) (rest := []) ⟨hx, hb, hml, hown, hts⟩ (c_refuse l dC dI x0 xw xr xg c1 c2 c3 s.heap.size wd rg rs pcv trv vav dnv a1) (cwV 1 hts (gV mL_X0_111 mI_X0_refuse mE_X0_refuse mN_X0 mC_X0_refuse) rfl rfl rfl (by decide +kernel) ⟨Nat.le_of_ble_eq_true rfl, Nat.le_of_ble_eq_true rfl⟩) ⟨fun a U g mk q => by obtain ⟨q0, q1, qP, qK, qD⟩ := q; exact ⟨q0, q1, qP, va_K.moved (u := U) (U := U.calling g mk a) (Vm.Alike.refl U.vm) qK, qD⟩, va_recv hK hP (ci := 0) (q0 := 0) rfl rfl, fun U hU hW => ⟨rfl, by rw [hU], by rw [hU]; exact hP, va_K.moved hW.alike hK, hD.weaken (fun _ _ _ _ => trivial)⟩⟩ rfl rfl hl.1 rfl (lv_room (Nat.le_of_ble_eq_true rfl)) dX0_computeWithImmediate_53 ⟨Nat.zero_le _, Nat.zero_le _⟩) hS (fun q _ h => hFc q h) hFc (fun r_66 u t H1 locs ht hvm hw hB hz1 hk1 hS => ?_)
            obtain ⟨b_67, hw⟩ := hw
            obtain ⟨wd_68, rs_69, pcv_70, trv_71, vav_72⟩ := u
            obtain ⟨hP1, hK1, hD1⟩ := hB
            rw [ht] at hP1
            obtain ⟨hP, hD⟩ := va_join (wr := []) (w1 := [(x0, .inr (0, [.ref xw, .ref xr, .ref xg, .int pcv_70, .int trv_71, .int vav_72, .int dnv])), (xw, .inl (c1, 4096, .inl wd_68)), (xr, .inl (c2, 4, .inl rg)), (xg, .inl (c3, 32, .inl rs_69))]) hP hD [0, 1, 2, 3] [] rfl rfl (by decide) (by decide) hk1 hFc hP1 hD1
            generalize H1 = H at hP hS ⊢
            have hP : va_P (dC, dI) vwCl [(x0, .inr (0, [.ref xw, .ref xr, .ref xg, .int pcv_70, .int trv_71, .int vav_72, .int dnv])), (xw, .inl (c1, 4096, .inl wd_68)), (xr, .inl (c2, 4, .inl rg)), (xg, .inl (c3, 32, .inl rs_69))] H := hP
            have hD : va_D A [(x0, .inr (0, [.ref xw, .ref xr, .ref xg, .int pcv_70, .int trv_71, .int vav_72, .int dnv])), (xw, .inl (c1, 4096, .inl wd_68)), (xr, .inl (c2, 4, .inl rg)), (xg, .inl (c3, 32, .inl rs_69))] := hD
            exact W.zret (v := r_66) (ty := .boolean) hx hb hr b_67 (fun t ht hW => ⟨⟨_, (wd_68, rs_69, pcv_70, trv_71, vav_72), rfl, ⟨b_67, (by unfold F_computeWithImmediate; rw [if_pos c_3, if_neg c_34, if_neg c_35, if_neg c_55]; exact hw)⟩, by rw [ht]; exact hP, va_K.moved hW.alike hK, hD⟩, hS.F ht⟩) hS.2.2 dX0_computeWithImmediate_56
    · refine lv_aload_n hx hb dX0_computeWithImmediate_21 rfl (lv_at hl 2 rfl) ?_
      refine lv_iload_n hx hb dX0_computeWithImmediate_22 rfl (lv_at hl 3 rfl) ?_
      refine lv_aload_n hx hb dX0_computeWithImmediate_23 rfl (lv_at hl 2 rfl) ?_
      refine lv_iload_n hx hb dX0_computeWithImmediate_24 rfl (lv_at hl 3 rfl) ?_
      refine vp_callSi (W.runV (As := [.int a1]) (rest := [.int a1, .ref x0]) ⟨hx, hb, hml, hown, hts⟩ (c_registerA l dC dI x0 xw xr xg c1 c2 c3 wd rg rs pcv trv vav dnv a1) (cwV 1 hts (gV mL_X0_117 mI_X0_registerA mE_X0_registerA mN_X0 mC_X0_registerA) rfl rfl rfl (by decide +kernel) ⟨Nat.le_of_ble_eq_true rfl, Nat.le_of_ble_eq_true rfl⟩) ⟨fun a U g mk q => by obtain ⟨q0, qP, qK⟩ := q; exact ⟨q0, qP, va_K.moved (u := U) (U := U.calling g mk a) (Vm.Alike.refl U.vm) qK⟩, va_recv hK hP (ci := 0) (q0 := 0) rfl rfl, fun U hU hW => ⟨rfl, by rw [hU]; exact hP, va_K.moved hW.alike hK⟩⟩ rfl rfl hl.1 rfl (lv_room (Nat.le_of_ble_eq_true rfl)) dX0_computeWithImmediate_25 ⟨Nat.zero_le _, Nat.zero_le _⟩) (fun r_73 hw => ?_)
      subst hw
      refine lv_iload_n hx hb dX0_computeWithImmediate_28 rfl (lv_at hl 3 rfl) ?_
      refine vp_callSi (W.runS (As := [.int a1]) (rest := [.int (F_registerA rs a1), .int a1, .ref x0]) ⟨hx, hb, hml, hown, hts⟩ (c_partB l a1) (cwS 1 hts (gS mL_X0_143 mS_X0_partB mN_X0 mC_X0_partB) rfl rfl rfl (by decide +kernel) ⟨Nat.le_of_ble_eq_true rfl, Nat.le_of_ble_eq_true rfl⟩) preEq rfl rfl hl.1 rfl (lv_room (Nat.le_of_ble_eq_true rfl)) dX0_computeWithImmediate_29 ⟨Nat.zero_le _, Nat.zero_le _⟩) (fun r_74 hw => ?_)
      subst hw
      refine lv_ishr hx hb dX0_computeWithImmediate_32 ?_
      have hFc := va_free (wc := [(x0, .inr (0, [.ref xw, .ref xr, .ref xg, .int pcv, .int trv, .int vav, .int dnv])), (xw, .inl (c1, 4096, .inl wd)), (xr, .inl (c2, 4, .inl rg)), (xg, .inl (c3, 32, .inl rs))]) hD hS hA [0, 1, 2, 3] rfl
      refine va_calli (va_runV (As := [.int a1, .int ((F_registerA rs a1) >>> ((F_partB a1) &&& 31))]) (rest := []) ⟨hx, hb, hml, hown, hts⟩ (c_finish l dC dI x0 xw xr xg c1 c2 c3 s.heap.size wd rg rs pcv trv vav dnv a1 ((F_registerA rs a1) >>> ((F_partB a1) &&& 31))) (cwV 2 hts (gV mL_X0_78 mI_X0_finish mE_X0_finish mN_X0 mC_X0_finish) rfl rfl rfl (by decide +kernel) ⟨Nat.le_of_ble_eq_true rfl, Nat.le_of_ble_eq_true rfl⟩) ⟨fun a U g mk q => by obtain ⟨q0, q1, qP, qK, qD⟩ := q; exact ⟨q0, q1, qP, va_K.moved (u := U) (U := U.calling g mk a) (Vm.Alike.refl U.vm) qK, qD⟩, va_recv hK hP (ci := 0) (q0 := 0) rfl rfl, fun U hU hW => ⟨rfl, by rw [hU], by rw [hU]; exact hP, va_K.moved hW.alike hK, hD.weaken (fun _ _ _ _ => trivial)⟩⟩ rfl rfl hl.1 rfl (lv_room (Nat.le_of_ble_eq_true rfl)) dX0_computeWithImmediate_33 ⟨Nat.zero_le _, Nat.zero_le _⟩) hS (fun q _ h => hFc q h) hFc (fun r_75 u t H1 locs ht hvm hw hB hz1 hk1 hS => ?_)
      obtain ⟨b_76, hw⟩ := hw
      obtain ⟨wd_77, rs_78, pcv_79, trv_80, vav_81⟩ := u
      obtain ⟨hP1, hK1, hD1⟩ := hB
      rw [ht] at hP1
      obtain ⟨hP, hD⟩ := va_join (wr := []) (w1 := [(x0, .inr (0, [.ref xw, .ref xr, .ref xg, .int pcv_79, .int trv_80, .int vav_81, .int dnv])), (xw, .inl (c1, 4096, .inl wd_77)), (xr, .inl (c2, 4, .inl rg)), (xg, .inl (c3, 32, .inl rs_78))]) hP hD [0, 1, 2, 3] [] rfl rfl (by decide) (by decide) hk1 hFc hP1 hD1
      generalize H1 = H at hP hS ⊢
      have hP : va_P (dC, dI) vwCl [(x0, .inr (0, [.ref xw, .ref xr, .ref xg, .int pcv_79, .int trv_80, .int vav_81, .int dnv])), (xw, .inl (c1, 4096, .inl wd_77)), (xr, .inl (c2, 4, .inl rg)), (xg, .inl (c3, 32, .inl rs_78))] H := hP
      have hD : va_D A [(x0, .inr (0, [.ref xw, .ref xr, .ref xg, .int pcv_79, .int trv_80, .int vav_81, .int dnv])), (xw, .inl (c1, 4096, .inl wd_77)), (xr, .inl (c2, 4, .inl rg)), (xg, .inl (c3, 32, .inl rs_78))] := hD
      exact W.zret (v := r_75) (ty := .boolean) hx hb hr b_76 (fun t ht hW => ⟨⟨_, (wd_77, rs_78, pcv_79, trv_80, vav_81), rfl, ⟨b_76, (by unfold F_computeWithImmediate; rw [if_pos c_3, if_pos c_34]; exact hw)⟩, by rw [ht]; exact hP, va_K.moved hW.alike hK, hD⟩, hS.F ht⟩) hS.2.2 dX0_computeWithImmediate_36
