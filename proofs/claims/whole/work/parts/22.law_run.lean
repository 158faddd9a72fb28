abbrev wsL_run : List Cond := Cond.codeWith yL_run cL_run 4 (some .int) [(0, 9, 12, 13)] :: gw
theorem mC_L_run : Cond.codeWith yL_run cL_run 4 (some .int) [(0, 9, 12, 13)] ∈ gw := gmem 138 rfl rfl
set_option maxHeartbeats 4000000 in
set_option maxRecDepth 100000 in
theorem c_L_run (l : Launch) (hst : l.stackTraces = false) (dC : Nat → ClassId) (dI : Nat → Nat → Nat) (x0 xw xr xg : Nat) (c1 c2 c3 : ClassId) (xo : Nat) (c4 : ClassId) (sz sa : Nat) (wd : Nat → Int32) (rg : Nat → Int32) (rs : Nat → Int32) (pcv : Int32) (trv : Int32) (vav : Int32) (dnv : Int32) (ov : Nat → Int64) (a1 : Int32) : Met l yL_run wsL_run ({ frames := 7, cells := 1, slots := 6, locals := 152 }) (va_Pc [.ref x0, .int a1, .ref xo] (fun U => U.heap.size = sz ∧ va_P (dC, dI) vwCl [(x0, .inr (0, [.ref xw, .ref xr, .ref xg, .int pcv, .int trv, .int vav, .int dnv])), (xw, .inl (c1, 4096, .inl wd)), (xr, .inl (c2, 4, .inl rg)), (xg, .inl (c3, 32, .inl rs)), (xo, .inl (c4, 1, .inr (.inl ov)))] U.heap ∧ va_K (dC, dI) vwCl [(c1, .int), (c2, .int), (c3, .int), (c4, .long)] U ∧ va_D (fun _ => True) [(x0, .inr (0, [.ref xw, .ref xr, .ref xg, .int pcv, .int trv, .int vav, .int dnv])), (xw, .inl (c1, 4096, .inl wd)), (xr, .inl (c2, 4, .inl rg)), (xg, .inl (c3, 32, .inl rs)), (xo, .inl (c4, 1, .inr (.inl ov)))] ∧ vx_Zq Bundle.tN "UNASSIGNED_STACK" Bundle.steD (va_A [(x0, .inr (0, [.ref xw, .ref xr, .ref xg, .int pcv, .int trv, .int vav, .int dnv])), (xw, .inl (c1, 4096, .inl wd)), (xr, .inl (c2, 4, .inl rg)), (xg, .inl (c3, 32, .inl rs)), (xo, .inl (c4, 1, .inr (.inl ov)))] sz) U U.heap ∧ vx_Zq Bundle.tN "SUPPRESSED_SENTINEL" Bundle.listD (va_A [(x0, .inr (0, [.ref xw, .ref xr, .ref xg, .int pcv, .int trv, .int vav, .int dnv])), (xw, .inl (c1, 4096, .inl wd)), (xr, .inl (c2, 4, .inl rg)), (xg, .inl (c3, 32, .inl rs)), (xo, .inl (c4, 1, .inr (.inl ov)))] sz) U U.heap ∧ vk_R RX0 53 "n is not 0 .. 2000" sa U ∧ xBs U)) (va_Qi (fun (r : Int32) (u : (((Nat → Int32) × (Nat → Int32) × Int32 × Int32 × Int32) × Int32) × (Nat → Int64)) => ((¬ a1 < 0 ∧ a1 ≤ 2000) ∧ r = 0 ∧ u = (((runC rg a1.toNatClampNeg (wd, rs, pcv, (-1), 0)).2, dnv + nI (runC rg a1.toNatClampNeg (wd, rs, pcv, (-1), 0)).1), vp_updL ov 0 (nI (runC rg a1.toNatClampNeg (wd, rs, pcv, (-1), 0)).1).toInt64)) ∨ ((a1 < 0 ∨ ¬ a1 ≤ 2000) ∧ r = 1 ∧ u = (((wd, rs, pcv, trv, vav), dnv), ov))) (fun (u : (((Nat → Int32) × (Nat → Int32) × Int32 × Int32 × Int32) × Int32) × (Nat → Int64)) (t : State) => va_P (dC, dI) vwCl [(x0, .inr (0, [.ref xw, .ref xr, .ref xg, .int u.1.1.2.2.1, .int u.1.1.2.2.2.1, .int u.1.1.2.2.2.2, .int u.1.2])), (xw, .inl (c1, 4096, .inl u.1.1.1)), (xr, .inl (c2, 4, .inl rg)), (xg, .inl (c3, 32, .inl u.1.1.2.1)), (xo, .inl (c4, 1, .inr (.inl u.2)))] t.heap ∧ va_K (dC, dI) vwCl [(c1, .int), (c2, .int), (c3, .int), (c4, .long)] t ∧ va_D (va_A [(x0, .inr (0, [.ref xw, .ref xr, .ref xg, .int pcv, .int trv, .int vav, .int dnv])), (xw, .inl (c1, 4096, .inl wd)), (xr, .inl (c2, 4, .inl rg)), (xg, .inl (c3, 32, .inl rs)), (xo, .inl (c4, 1, .inr (.inl ov)))] sz) [(x0, .inr (0, [.ref xw, .ref xr, .ref xg, .int u.1.1.2.2.1, .int u.1.1.2.2.2.1, .int u.1.1.2.2.2.2, .int u.1.2])), (xw, .inl (c1, 4096, .inl u.1.1.1)), (xr, .inl (c2, 4, .inl rg)), (xg, .inl (c3, 32, .inl u.1.1.2.1)), (xo, .inl (c4, 1, .inr (.inl u.2)))]) (va_A [(x0, .inr (0, [.ref xw, .ref xr, .ref xg, .int pcv, .int trv, .int vav, .int dnv])), (xw, .inl (c1, 4096, .inl wd)), (xr, .inl (c2, 4, .inl rg)), (xg, .inl (c3, 32, .inl rs)), (xo, .inl (c4, 1, .inr (.inl ov)))] sz)) 1 6 (va_A [(x0, .inr (0, [.ref xw, .ref xr, .ref xg, .int pcv, .int trv, .int vav, .int dnv])), (xw, .inl (c1, 4096, .inl wd)), (xr, .inl (c2, 4, .inl rg)), (xg, .inl (c3, 32, .inl rs)), (xo, .inl (c4, 1, .inr (.inl ov)))] sz) := by
  refine va_MetW (cc := cL_run) (maxL := 4) (ret := (some .int)) (hh := [(0, 9, 12, 13)]) (by decide) rfl ?_
  intro p e s m args below meth c s₁ B hml hv
  obtain ⟨rfl, hsz, hP, hK, hD0, hzU, hzN, hstr, hcast⟩ := hv
  have hx := B.exec
  have hb := B.bytes
  have hr := B.returns
  have hts := atoms_spec (ws := wsL_run) B.pre
  have hown : s.vm.findClass RL = some m.cls := findClass_of_methodNamed B.named
  have hlocks := B.notSynchronized
  have htab : c.exceptionTable.toList = tableOf [(0, 9, 12, 13)] := vx_table (x := yL_run) B (hts _ List.mem_cons_self)
  subst hsz
  have hD := hD0.self (sz := s.heap.size)
  generalize hAe : va_A [(x0, .inr (0, [.ref xw, .ref xr, .ref xg, .int pcv, .int trv, .int vav, .int dnv])), (xw, .inl (c1, 4096, .inl wd)), (xr, .inl (c2, 4, .inl rg)), (xg, .inl (c3, 32, .inl rs)), (xo, .inl (c4, 1, .inr (.inl ov)))] s.heap.size = A at hD hzU hzN ⊢
  have hA : ∀ q : Nat, s.heap.size ≤ q → A q := fun q h => by rw [← hAe]; exact Or.inr h
  have hS : va_S A s.heap s.heap [] := va_S.rf
  have hP : va_P (dC, dI) vwCl [(x0, .inr (0, [.ref xw, .ref xr, .ref xg, .int pcv, .int trv, .int vav, .int dnv])), (xw, .inl (c1, 4096, .inl wd)), (xr, .inl (c2, 4, .inl rg)), (xg, .inl (c3, 32, .inl rs)), (xo, .inl (c4, 1, .inr (.inl ov)))] s.heap := hP
  have hl := lv_entry ([.ref x0, .int a1, .ref xo]) (n := 4) (Nat.le_of_ble_eq_true rfl)
  rw [lg_entry_eq]
  generalize (lg_sl ([.ref x0, .int a1, .ref xo]) ++ List.replicate (4 - (lg_sl ([.ref x0, .int a1, .ref xo])).length) Slot.unset).toArray = ls at hl ⊢
  have hl : lv_has ls 4 [(0, .ref x0), (1, .int a1), (2, .ref xo)] := hl
  refine lv_aload_n hx hb dL_run_0 rfl (lv_at hl 2 rfl) ?_
  refine lv_iconst (v := 0) hx hb dL_run_1 (by decide) ?_
  refine lv_aload_n hx hb dL_run_2 rfl (lv_at hl 0 rfl) ?_
  refine lv_iload_n hx hb dL_run_3 rfl (lv_at hl 1 rfl) ?_
  have hPc := hP.sub (ws' := [(x0, .inr (0, [.ref xw, .ref xr, .ref xg, .int pcv, .int trv, .int vav, .int dnv])), (xw, .inl (c1, 4096, .inl wd)), (xr, .inl (c2, 4, .inl rg)), (xg, .inl (c3, 32, .inl rs))]) [0, 1, 2, 3] rfl
  have hDc := hD.sub (ws' := [(x0, .inr (0, [.ref xw, .ref xr, .ref xg, .int pcv, .int trv, .int vav, .int dnv])), (xw, .inl (c1, 4096, .inl wd)), (xr, .inl (c2, 4, .inl rg)), (xg, .inl (c3, 32, .inl rs))]) [0, 1, 2, 3] (by decide) rfl
  have hKc := hK.sub (tys' := [(c1, .int), (c2, .int), (c3, .int)]) [0, 1, 2] rfl
  have hFc := va_free (wc := [(x0, .inr (0, [.ref xw, .ref xr, .ref xg, .int pcv, .int trv, .int vav, .int dnv])), (xw, .inl (c1, 4096, .inl wd)), (xr, .inl (c2, 4, .inl rg)), (xg, .inl (c3, 32, .inl rs))]) hD hS hA [0, 1, 2, 3] rfl
  refine vx_calli (vx_runV (As := [.int a1]) (rest := [.int 0, .ref xo]) ⟨hx, hb, hml, hown, hts⟩ (c_run l hst dC dI x0 xw xr xg c1 c2 c3 s.heap.size sa wd rg rs pcv trv vav dnv a1) (cwV 1 hts (gV mL_L_7 mI_X0_run mE_X0_run mN_X0 mC_X0_run) rfl rfl rfl (by decide +kernel) ⟨Nat.le_of_ble_eq_true rfl, Nat.le_of_ble_eq_true rfl⟩) ⟨fun a U g mk q => by obtain ⟨q0, q1, qP, qK, qD, z1, z2, z3, z4⟩ := q; exact ⟨q0, q1, qP, va_K.moved (u := U) (U := U.calling g mk a) (Vm.Alike.refl U.vm) qK, qD, vx_Zq.moved (u := U) (U := U.calling g mk a) (Vm.Alike.refl U.vm) z1, vx_Zq.moved (u := U) (U := U.calling g mk a) (Vm.Alike.refl U.vm) z2, vk_R.same (u := U) (U := U.calling g mk a) rfl z3, xBs_same (u := U) (U := U.calling g mk a) rfl z4⟩, va_recv hKc hPc (ci := 0) (q0 := 0) rfl rfl, fun U hU hW => ⟨rfl, by rw [hU], by rw [hU]; exact hPc, va_K.moved hW.alike hKc, hDc.weaken (fun _ _ _ _ => trivial), by rw [hU]; exact vx_Zq.moved hW.alike (hzU.narrow hFc), by rw [hU]; exact vx_Zq.moved hW.alike (hzN.narrow hFc), vk_R.warm hW hstr, xBs_warm hW hcast⟩⟩ rfl rfl hl.1 rfl (lv_room (Nat.le_of_ble_eq_true rfl)) dL_run_4 ⟨Nat.le_of_ble_eq_true rfl, Nat.le_of_ble_eq_true rfl⟩) hS (fun q _ h => hFc q h) hFc (fun q _ h => hFc q h) ?_ ?_
  · intro E ce q9 u t H1 locs ht hvm hbad hB hz1 hk1 hS hq9 hcv hcl
    obtain ⟨rfl, hP1, hK1, hD1⟩ := hB
    rw [ht] at hP1
    obtain ⟨hP, hD⟩ := va_join (wr := [(xo, .inl (c4, 1, .inr (.inl ov)))]) (w1 := [(x0, .inr (0, [.ref xw, .ref xr, .ref xg, .int pcv, .int trv, .int vav, .int dnv])), (xw, .inl (c1, 4096, .inl wd)), (xr, .inl (c2, 4, .inl rg)), (xg, .inl (c3, 32, .inl rs))]) hP hD [0, 1, 2, 3] [4] rfl rfl (by decide) (by decide) hk1 hFc hP1 hD1
    have hP := hP.sub (ws' := [(x0, .inr (0, [.ref xw, .ref xr, .ref xg, .int pcv, .int trv, .int vav, .int dnv])), (xw, .inl (c1, 4096, .inl wd)), (xr, .inl (c2, 4, .inl rg)), (xg, .inl (c3, 32, .inl rs)), (xo, .inl (c4, 1, .inr (.inl ov)))]) [1, 2, 3, 4, 0] rfl
    have hD := hD.sub (ws' := [(x0, .inr (0, [.ref xw, .ref xr, .ref xg, .int pcv, .int trv, .int vav, .int dnv])), (xw, .inl (c1, 4096, .inl wd)), (xr, .inl (c2, 4, .inl rg)), (xg, .inl (c3, 32, .inl rs)), (xo, .inl (c4, 1, .inr (.inl ov)))]) [1, 2, 3, 4, 0] (by decide) rfl
    refine vx_widen (k := 1) (n := 6) (Nat.le_of_ble_eq_true rfl) (Nat.le_of_ble_eq_true rfl) ?_
    refine vx_catch hown [] ⟨0, 9, 12, 13⟩ [] htab (fun z h => by cases h) (by decide) (by decide) (hts _ (gcons mT_L_13)) (xBs_use hcast _ (by decide +kernel)) hq9 hcv hcl ?_
    refine lv_astore_n (lv' := [(3, .ref q9), (0, .ref x0), (1, .int a1), (2, .ref xo)]) hx hb dL_run_12 rfl hl (by decide) rfl (fun ls hl => ?_)
    refine lv_iconst (v := 1) hx hb dL_run_13 (by decide) ?_
    exact W.iret (v := 1) hx hb hr (fun t ht hW => ⟨⟨_, (((wd, rs, pcv, trv, vav), dnv), ov), rfl, Or.inr ⟨hbad, rfl, rfl⟩, by rw [ht]; exact hP, va_K.moved hW.alike hK, hD⟩, hS.F ht⟩) hS.2.2 dL_run_14
  · intro r u t H1 locs ht hvm hw hB hz1 hk1 hS
    obtain ⟨hok, hr1, hu1⟩ := hw
    obtain ⟨hP1, hK1, hD1⟩ := hB
    rw [ht] at hP1
    obtain ⟨hP, hD⟩ := va_join (wr := [(xo, .inl (c4, 1, .inr (.inl ov)))]) (w1 := [(x0, .inr (0, [.ref xw, .ref xr, .ref xg, .int u.1.2.2.1, .int u.1.2.2.2.1, .int u.1.2.2.2.2, .int u.2])), (xw, .inl (c1, 4096, .inl u.1.1)), (xr, .inl (c2, 4, .inl rg)), (xg, .inl (c3, 32, .inl u.1.2.1))]) hP hD [0, 1, 2, 3] [4] rfl rfl (by decide) (by decide) hk1 hFc hP1 hD1
    have hP := hP.sub (ws' := [(x0, .inr (0, [.ref xw, .ref xr, .ref xg, .int u.1.2.2.1, .int u.1.2.2.2.1, .int u.1.2.2.2.2, .int u.2])), (xw, .inl (c1, 4096, .inl u.1.1)), (xr, .inl (c2, 4, .inl rg)), (xg, .inl (c3, 32, .inl u.1.2.1)), (xo, .inl (c4, 1, .inr (.inl ov)))]) [1, 2, 3, 4, 0] rfl
    have hD := hD.sub (ws' := [(x0, .inr (0, [.ref xw, .ref xr, .ref xg, .int u.1.2.2.1, .int u.1.2.2.2.1, .int u.1.2.2.2.2, .int u.2])), (xw, .inl (c1, 4096, .inl u.1.1)), (xr, .inl (c2, 4, .inl rg)), (xg, .inl (c3, 32, .inl u.1.2.1)), (xo, .inl (c4, 1, .inr (.inl ov)))]) [1, 2, 3, 4, 0] (by decide) rfl
    refine W.widen (k := 1) (n := 6) (Nat.le_of_ble_eq_true rfl) (Nat.le_of_ble_eq_true rfl) ?_
    refine lv_i2l (v := r.toInt64) hx hb dL_run_7 rfl ?_
    refine va_last hx hb hK hP hD hS 4 3 rfl rfl (show vp_in (0 : Int32) 1 by rw [vp_in_iff]; decide) dL_run_8 (fun H locs hP hD hS => ?_)
    have hP : va_P (dC, dI) vwCl [(x0, .inr (0, [.ref xw, .ref xr, .ref xg, .int u.1.2.2.1, .int u.1.2.2.2.1, .int u.1.2.2.2.2, .int u.2])), (xw, .inl (c1, 4096, .inl u.1.1)), (xr, .inl (c2, 4, .inl rg)), (xg, .inl (c3, 32, .inl u.1.2.1)), (xo, .inl (c4, 1, .inr (.inl (vp_updL ov 0 r.toInt64))))] H := hP
    have hD : va_D A [(x0, .inr (0, [.ref xw, .ref xr, .ref xg, .int u.1.2.2.1, .int u.1.2.2.2.1, .int u.1.2.2.2.2, .int u.2])), (xw, .inl (c1, 4096, .inl u.1.1)), (xr, .inl (c2, 4, .inl rg)), (xg, .inl (c3, 32, .inl u.1.2.1)), (xo, .inl (c4, 1, .inr (.inl (vp_updL ov 0 r.toInt64))))] := hD
    refine lv_goto (tgt := 15) hx hb dL_run_9 (by decide) ?_
    refine lv_iconst (v := 0) hx hb dL_run_15 (by decide) ?_
    exact W.iret (v := 0) hx hb hr (fun t ht hW => ⟨⟨_, (u, vp_updL ov 0 r.toInt64), rfl, Or.inl ⟨hok, rfl, by rw [hr1, hu1]⟩, by rw [ht]; exact hP, va_K.moved hW.alike hK, hD⟩, hS.F ht⟩) hS.2.2 dL_run_16
