set_option maxHeartbeats 4000000 in
set_option maxRecDepth 100000 in
theorem c_init0 (l : Launch) (dC : Nat → ClassId) (dI : Nat → Nat → Nat) (x0 : Nat) (sz : Nat) : Met l yX0_init wsX0_init ({ frames := 1, cells := 3, slots := 4132, locals := 12 }) (va_Pc [.ref x0] (fun U => U.heap.size = sz ∧ va_P (dC, dI) vwCl [(x0, .inr (0, [.null, .null, .null, .int 0, .int 0, .int 0, .int 0]))] U.heap ∧ va_K (dC, dI) vwCl [] U ∧ va_D (fun _ => True) [(x0, .inr (0, [.null, .null, .null, .int 0, .int 0, .int 0, .int 0]))])) (va_Qv (fun _ : Nat × Nat × Nat × ClassId × ClassId × ClassId => True) (fun (u : Nat × Nat × Nat × ClassId × ClassId × ClassId) (t : State) => va_P (dC, dI) vwCl [(x0, .inr (0, [.ref u.1, .ref u.2.1, .ref u.2.2.1, .int 0, .int ((-1)), .int 0, .int 0])), (u.1, .inl (u.2.2.2.1, 4096, .inl (fun _ => 0))), (u.2.1, .inl (u.2.2.2.2.1, 4, .inl (upd (upd (upd (upd (fun _ => 0) 0 7) 1 7) 2 7) 3 7))), (u.2.2.1, .inl (u.2.2.2.2.2, 32, .inl (fun _ => 0)))] t.heap ∧ va_K (dC, dI) vwCl [(u.2.2.2.1, .int), (u.2.2.2.2.1, .int), (u.2.2.2.2.2, .int)] t ∧ va_D (va_A [(x0, .inr (0, [.null, .null, .null, .int 0, .int 0, .int 0, .int 0]))] sz) [(x0, .inr (0, [.ref u.1, .ref u.2.1, .ref u.2.2.1, .int 0, .int ((-1)), .int 0, .int 0])), (u.1, .inl (u.2.2.2.1, 4096, .inl (fun _ => 0))), (u.2.1, .inl (u.2.2.2.2.1, 4, .inl (upd (upd (upd (upd (fun _ => 0) 0 7) 1 7) 2 7) 3 7))), (u.2.2.1, .inl (u.2.2.2.2.2, 32, .inl (fun _ => 0)))]) (va_A [(x0, .inr (0, [.null, .null, .null, .int 0, .int 0, .int 0, .int 0]))] sz)) 3 4132 (va_A [(x0, .inr (0, [.null, .null, .null, .int 0, .int 0, .int 0, .int 0]))] sz) := by
  refine Met.ofW (cc := cX0_init) (maxL := 1) (ret := none) (by decide) rfl ?_
  intro p e s m args below meth c s₁ B hml hv
  obtain ⟨rfl, hsz, hP, hK, hD0⟩ := hv
  have hx := B.exec
  have hb := B.bytes
  have hr := B.returns
  have hts := atoms_spec (ws := wsX0_init) B.pre
  have hown : s.vm.findClass RX0 = some m.cls := findClass_of_methodNamed B.named
  have hlocks := B.notSynchronized
  have hin : meth.name = "<init>" := (name_of_methodNamed B.named B.method).1
  subst hsz
  have hD := hD0.self (sz := s.heap.size)
  generalize hAe : va_A [(x0, .inr (0, [.null, .null, .null, .int 0, .int 0, .int 0, .int 0]))] s.heap.size = A at hD ⊢
  have hA : ∀ q : Nat, s.heap.size ≤ q → A q := fun q h => by rw [← hAe]; exact Or.inr h
  have hS : va_S A s.heap s.heap [] := va_S.rf
  have hP : va_P (dC, dI) vwCl [(x0, .inr (0, [.null, .null, .null, .int 0, .int 0, .int 0, .int 0]))] s.heap := hP
  have hl := lv_entry ([.ref x0]) (n := 1) (Nat.le_of_ble_eq_true rfl)
  rw [lg_entry_eq]
  generalize (lg_sl ([.ref x0]) ++ List.replicate (1 - (lg_sl ([.ref x0])).length) Slot.unset).toArray = ls at hl ⊢
  have hl : lv_has ls 1 [(0, .ref x0)] := hl
  refine lv_aload_n hx hb dX0_init_0 rfl (lv_at hl 0 rfl) ?_
  refine W.objInit hx hb hown (hts _ (gcons mL_X0_3)) (hts _ (gcons mI_objectInit)) (hts _ (gcons mC_objectInit)) rfl (by rw [hml]; exact hl.1) rfl dX0_init_1 (Nat.le_of_ble_eq_true rfl) (Nat.le_of_ble_eq_true rfl) ?_
  refine W.eq (g2 := F0 m 4 ls []) rfl ?_
  refine lv_aload_n hx hb dX0_init_4 rfl (lv_at hl 0 rfl) ?_
  refine lv_sipush (v := 4096) hx hb dX0_init_5 (by decide) ?_
  refine va_newa (atype := .int) (ty := .int) hx hb (hts _ (gcons mA_int)) rfl hK hP hD hS hA (n := 4096) (N' := 4096) (a0 := (4096, .inl (fun _ => 0))) (fun _ => rfl) (by decide) (by decide) (by decide) (Nat.le_of_ble_eq_true rfl) (Nat.le_of_ble_eq_true rfl) dX0_init_8 (fun q1 k1 H hK hP hD hS => ?_)
  have hP : va_P (dC, dI) vwCl [(x0, .inr (0, [.null, .null, .null, .int 0, .int 0, .int 0, .int 0])), (q1, .inl (k1, 4096, .inl (fun _ => 0)))] H := hP
  have hD : va_D A [(x0, .inr (0, [.null, .null, .null, .int 0, .int 0, .int 0, .int 0])), (q1, .inl (k1, 4096, .inl (fun _ => 0)))] := hD
  have hK : va_K (dC, dI) vwCl [(k1, .int)] s := hK
  refine W.widen (k := 1) (n := 4096) (Nat.le_of_ble_eq_true rfl) (Nat.le_of_ble_eq_true rfl) ?_
  refine va_putF (D := (dC, dI)) (ci := 0) (v := .ref q1) (ty := (.array .int)) (C := RX0) (T := TX0) (N := 7) hx hb hts (gw_lay lay_X0) tyX0 tyX0_ok nmX0 hown hK hP hD hS 0 rfl rfl 0 (by decide) (hts _ (gcons mF_X0_9)) (fun _ h9 => h9) rfl hin rfl (by decide +kernel) rfl rfl (Nat.le_of_ble_eq_true rfl) dX0_init_10 (fun H locs hP hD hS => ?_)
  have hP : va_P (dC, dI) vwCl [(x0, .inr (0, [.ref q1, .null, .null, .int 0, .int 0, .int 0, .int 0])), (q1, .inl (k1, 4096, .inl (fun _ => 0)))] H := hP
  have hD : va_D A [(x0, .inr (0, [.ref q1, .null, .null, .int 0, .int 0, .int 0, .int 0])), (q1, .inl (k1, 4096, .inl (fun _ => 0)))] := hD
  refine lv_aload_n hx hb dX0_init_13 rfl (lv_at hl 0 rfl) ?_
  refine lv_iconst (v := 4) hx hb dX0_init_14 (by decide) ?_
  refine va_newa (atype := .int) (ty := .int) hx hb (hts _ (gcons mA_int)) rfl hK hP hD hS hA (n := 4) (N' := 4) (a0 := (4, .inl (fun _ => 0))) (fun _ => rfl) (by decide) (by decide) (by decide) (Nat.le_of_ble_eq_true rfl) (Nat.le_of_ble_eq_true rfl) dX0_init_15 (fun q2 k2 H hK hP hD hS => ?_)
  have hP : va_P (dC, dI) vwCl [(x0, .inr (0, [.ref q1, .null, .null, .int 0, .int 0, .int 0, .int 0])), (q1, .inl (k1, 4096, .inl (fun _ => 0))), (q2, .inl (k2, 4, .inl (fun _ => 0)))] H := hP
  have hD : va_D A [(x0, .inr (0, [.ref q1, .null, .null, .int 0, .int 0, .int 0, .int 0])), (q1, .inl (k1, 4096, .inl (fun _ => 0))), (q2, .inl (k2, 4, .inl (fun _ => 0)))] := hD
  have hK : va_K (dC, dI) vwCl [(k1, .int), (k2, .int)] s := hK
  refine W.widen (k := 2) (n := 4100) (Nat.le_of_ble_eq_true rfl) (Nat.le_of_ble_eq_true rfl) ?_
  refine lv_dup hx hb dX0_init_17 rfl ?_
  refine lv_iconst (v := 0) hx hb dX0_init_18 (by decide) ?_
  refine lv_bipush (v := 7) hx hb dX0_init_19 (by decide) ?_
  refine va_iast hx hb hK hP hD hS 2 1 rfl rfl (show vp_in (0 : Int32) 4 by rw [vp_in_iff]; decide) dX0_init_21 (fun H locs hP hD hS => ?_)
  have hP : va_P (dC, dI) vwCl [(x0, .inr (0, [.ref q1, .null, .null, .int 0, .int 0, .int 0, .int 0])), (q1, .inl (k1, 4096, .inl (fun _ => 0))), (q2, .inl (k2, 4, .inl (upd (fun _ => 0) 0 7)))] H := hP
  have hD : va_D A [(x0, .inr (0, [.ref q1, .null, .null, .int 0, .int 0, .int 0, .int 0])), (q1, .inl (k1, 4096, .inl (fun _ => 0))), (q2, .inl (k2, 4, .inl (upd (fun _ => 0) 0 7)))] := hD
  refine lv_dup hx hb dX0_init_22 rfl ?_
  refine lv_iconst (v := 1) hx hb dX0_init_23 (by decide) ?_
  refine lv_bipush (v := 7) hx hb dX0_init_24 (by decide) ?_
  refine va_iast hx hb hK hP hD hS 2 1 rfl rfl (show vp_in (1 : Int32) 4 by rw [vp_in_iff]; decide) dX0_init_26 (fun H locs hP hD hS => ?_)
  have hP : va_P (dC, dI) vwCl [(x0, .inr (0, [.ref q1, .null, .null, .int 0, .int 0, .int 0, .int 0])), (q1, .inl (k1, 4096, .inl (fun _ => 0))), (q2, .inl (k2, 4, .inl (upd (upd (fun _ => 0) 0 7) 1 7)))] H := hP
  have hD : va_D A [(x0, .inr (0, [.ref q1, .null, .null, .int 0, .int 0, .int 0, .int 0])), (q1, .inl (k1, 4096, .inl (fun _ => 0))), (q2, .inl (k2, 4, .inl (upd (upd (fun _ => 0) 0 7) 1 7)))] := hD
  refine lv_dup hx hb dX0_init_27 rfl ?_
  refine lv_iconst (v := 2) hx hb dX0_init_28 (by decide) ?_
  refine lv_bipush (v := 7) hx hb dX0_init_29 (by decide) ?_
  refine va_iast hx hb hK hP hD hS 2 1 rfl rfl (show vp_in (2 : Int32) 4 by rw [vp_in_iff]; decide) dX0_init_31 (fun H locs hP hD hS => ?_)
  have hP : va_P (dC, dI) vwCl [(x0, .inr (0, [.ref q1, .null, .null, .int 0, .int 0, .int 0, .int 0])), (q1, .inl (k1, 4096, .inl (fun _ => 0))), (q2, .inl (k2, 4, .inl (upd (upd (upd (fun _ => 0) 0 7) 1 7) 2 7)))] H := hP
  have hD : va_D A [(x0, .inr (0, [.ref q1, .null, .null, .int 0, .int 0, .int 0, .int 0])), (q1, .inl (k1, 4096, .inl (fun _ => 0))), (q2, .inl (k2, 4, .inl (upd (upd (upd (fun _ => 0) 0 7) 1 7) 2 7)))] := hD
  refine lv_dup hx hb dX0_init_32 rfl ?_
  refine lv_iconst (v := 3) hx hb dX0_init_33 (by decide) ?_
  refine lv_bipush (v := 7) hx hb dX0_init_34 (by decide) ?_
  refine va_iast hx hb hK hP hD hS 2 1 rfl rfl (show vp_in (3 : Int32) 4 by rw [vp_in_iff]; decide) dX0_init_36 (fun H locs hP hD hS => ?_)
  have hP : va_P (dC, dI) vwCl [(x0, .inr (0, [.ref q1, .null, .null, .int 0, .int 0, .int 0, .int 0])), (q1, .inl (k1, 4096, .inl (fun _ => 0))), (q2, .inl (k2, 4, .inl (upd (upd (upd (upd (fun _ => 0) 0 7) 1 7) 2 7) 3 7)))] H := hP
  have hD : va_D A [(x0, .inr (0, [.ref q1, .null, .null, .int 0, .int 0, .int 0, .int 0])), (q1, .inl (k1, 4096, .inl (fun _ => 0))), (q2, .inl (k2, 4, .inl (upd (upd (upd (upd (fun _ => 0) 0 7) 1 7) 2 7) 3 7)))] := hD
  refine va_putF (D := (dC, dI)) (ci := 0) (v := .ref q2) (ty := (.array .int)) (C := RX0) (T := TX0) (N := 7) hx hb hts (gw_lay lay_X0) tyX0 tyX0_ok nmX0 hown hK hP hD hS 0 rfl rfl 1 (by decide) (hts _ (gcons mF_X0_13)) (fun _ h9 => h9) rfl hin rfl (by decide +kernel) rfl rfl (Nat.le_of_ble_eq_true rfl) dX0_init_37 (fun H locs hP hD hS => ?_)
  have hP : va_P (dC, dI) vwCl [(x0, .inr (0, [.ref q1, .ref q2, .null, .int 0, .int 0, .int 0, .int 0])), (q1, .inl (k1, 4096, .inl (fun _ => 0))), (q2, .inl (k2, 4, .inl (upd (upd (upd (upd (fun _ => 0) 0 7) 1 7) 2 7) 3 7)))] H := hP
  have hD : va_D A [(x0, .inr (0, [.ref q1, .ref q2, .null, .int 0, .int 0, .int 0, .int 0])), (q1, .inl (k1, 4096, .inl (fun _ => 0))), (q2, .inl (k2, 4, .inl (upd (upd (upd (upd (fun _ => 0) 0 7) 1 7) 2 7) 3 7)))] := hD
  refine lv_aload_n hx hb dX0_init_40 rfl (lv_at hl 0 rfl) ?_
  refine lv_bipush (v := 32) hx hb dX0_init_41 (by decide) ?_
  refine va_newa (atype := .int) (ty := .int) hx hb (hts _ (gcons mA_int)) rfl hK hP hD hS hA (n := 32) (N' := 32) (a0 := (32, .inl (fun _ => 0))) (fun _ => rfl) (by decide) (by decide) (by decide) (Nat.le_of_ble_eq_true rfl) (Nat.le_of_ble_eq_true rfl) dX0_init_43 (fun q3 k3 H hK hP hD hS => ?_)
  have hP : va_P (dC, dI) vwCl [(x0, .inr (0, [.ref q1, .ref q2, .null, .int 0, .int 0, .int 0, .int 0])), (q1, .inl (k1, 4096, .inl (fun _ => 0))), (q2, .inl (k2, 4, .inl (upd (upd (upd (upd (fun _ => 0) 0 7) 1 7) 2 7) 3 7))), (q3, .inl (k3, 32, .inl (fun _ => 0)))] H := hP
  have hD : va_D A [(x0, .inr (0, [.ref q1, .ref q2, .null, .int 0, .int 0, .int 0, .int 0])), (q1, .inl (k1, 4096, .inl (fun _ => 0))), (q2, .inl (k2, 4, .inl (upd (upd (upd (upd (fun _ => 0) 0 7) 1 7) 2 7) 3 7))), (q3, .inl (k3, 32, .inl (fun _ => 0)))] := hD
  have hK : va_K (dC, dI) vwCl [(k1, .int), (k2, .int), (k3, .int)] s := hK
  refine W.widen (k := 3) (n := 4132) (Nat.le_of_ble_eq_true rfl) (Nat.le_of_ble_eq_true rfl) ?_
  refine va_putF (D := (dC, dI)) (ci := 0) (v := .ref q3) (ty := (.array .int)) (C := RX0) (T := TX0) (N := 7) hx hb hts (gw_lay lay_X0) tyX0 tyX0_ok nmX0 hown hK hP hD hS 0 rfl rfl 2 (by decide) (hts _ (gcons mF_X0_16)) (fun _ h9 => h9) rfl hin rfl (by decide +kernel) rfl rfl (Nat.le_of_ble_eq_true rfl) dX0_init_45 (fun H locs hP hD hS => ?_)
  have hP : va_P (dC, dI) vwCl [(x0, .inr (0, [.ref q1, .ref q2, .ref q3, .int 0, .int 0, .int 0, .int 0])), (q1, .inl (k1, 4096, .inl (fun _ => 0))), (q2, .inl (k2, 4, .inl (upd (upd (upd (upd (fun _ => 0) 0 7) 1 7) 2 7) 3 7))), (q3, .inl (k3, 32, .inl (fun _ => 0)))] H := hP
  have hD : va_D A [(x0, .inr (0, [.ref q1, .ref q2, .ref q3, .int 0, .int 0, .int 0, .int 0])), (q1, .inl (k1, 4096, .inl (fun _ => 0))), (q2, .inl (k2, 4, .inl (upd (upd (upd (upd (fun _ => 0) 0 7) 1 7) 2 7) 3 7))), (q3, .inl (k3, 32, .inl (fun _ => 0)))] := hD
  refine lv_aload_n hx hb dX0_init_48 rfl (lv_at hl 0 rfl) ?_
  refine lv_iconst (v := 0) hx hb dX0_init_49 (by decide) ?_
  refine va_put (D := (dC, dI)) (ci := 0) (v := .int 0) (ty := .int) (C := RX0) (T := TX0) (N := 7) hx hb hts (gw_lay lay_X0) tyX0 tyX0_ok nmX0 hown hK hP hD hS 0 rfl rfl 3 (by decide) (hts _ (gcons mF_X0_19)) (fun _ h9 => h9) rfl (by decide +kernel) rfl rfl (Nat.le_of_ble_eq_true rfl) dX0_init_50 (fun H locs hP hD hS => ?_)
  have hP : va_P (dC, dI) vwCl [(x0, .inr (0, [.ref q1, .ref q2, .ref q3, .int 0, .int 0, .int 0, .int 0])), (q1, .inl (k1, 4096, .inl (fun _ => 0))), (q2, .inl (k2, 4, .inl (upd (upd (upd (upd (fun _ => 0) 0 7) 1 7) 2 7) 3 7))), (q3, .inl (k3, 32, .inl (fun _ => 0)))] H := hP
  have hD : va_D A [(x0, .inr (0, [.ref q1, .ref q2, .ref q3, .int 0, .int 0, .int 0, .int 0])), (q1, .inl (k1, 4096, .inl (fun _ => 0))), (q2, .inl (k2, 4, .inl (upd (upd (upd (upd (fun _ => 0) 0 7) 1 7) 2 7) 3 7))), (q3, .inl (k3, 32, .inl (fun _ => 0)))] := hD
  refine lv_aload_n hx hb dX0_init_53 rfl (lv_at hl 0 rfl) ?_
  refine lv_iconst (v := (-1)) hx hb dX0_init_54 (by decide) ?_
  refine va_put (D := (dC, dI)) (ci := 0) (v := .int ((-1))) (ty := .int) (C := RX0) (T := TX0) (N := 7) hx hb hts (gw_lay lay_X0) tyX0 tyX0_ok nmX0 hown hK hP hD hS 0 rfl rfl 4 (by decide) (hts _ (gcons mF_X0_23)) (fun _ h9 => h9) rfl (by decide +kernel) rfl rfl (Nat.le_of_ble_eq_true rfl) dX0_init_55 (fun H locs hP hD hS => ?_)
  have hP : va_P (dC, dI) vwCl [(x0, .inr (0, [.ref q1, .ref q2, .ref q3, .int 0, .int ((-1)), .int 0, .int 0])), (q1, .inl (k1, 4096, .inl (fun _ => 0))), (q2, .inl (k2, 4, .inl (upd (upd (upd (upd (fun _ => 0) 0 7) 1 7) 2 7) 3 7))), (q3, .inl (k3, 32, .inl (fun _ => 0)))] H := hP
  have hD : va_D A [(x0, .inr (0, [.ref q1, .ref q2, .ref q3, .int 0, .int ((-1)), .int 0, .int 0])), (q1, .inl (k1, 4096, .inl (fun _ => 0))), (q2, .inl (k2, 4, .inl (upd (upd (upd (upd (fun _ => 0) 0 7) 1 7) 2 7) 3 7))), (q3, .inl (k3, 32, .inl (fun _ => 0)))] := hD
  refine lv_aload_n hx hb dX0_init_58 rfl (lv_at hl 0 rfl) ?_
  refine lv_iconst (v := 0) hx hb dX0_init_59 (by decide) ?_
  refine va_put (D := (dC, dI)) (ci := 0) (v := .int 0) (ty := .int) (C := RX0) (T := TX0) (N := 7) hx hb hts (gw_lay lay_X0) tyX0 tyX0_ok nmX0 hown hK hP hD hS 0 rfl rfl 5 (by decide) (hts _ (gcons mF_X0_26)) (fun _ h9 => h9) rfl (by decide +kernel) rfl rfl (Nat.le_of_ble_eq_true rfl) dX0_init_60 (fun H locs hP hD hS => ?_)
  have hP : va_P (dC, dI) vwCl [(x0, .inr (0, [.ref q1, .ref q2, .ref q3, .int 0, .int ((-1)), .int 0, .int 0])), (q1, .inl (k1, 4096, .inl (fun _ => 0))), (q2, .inl (k2, 4, .inl (upd (upd (upd (upd (fun _ => 0) 0 7) 1 7) 2 7) 3 7))), (q3, .inl (k3, 32, .inl (fun _ => 0)))] H := hP
  have hD : va_D A [(x0, .inr (0, [.ref q1, .ref q2, .ref q3, .int 0, .int ((-1)), .int 0, .int 0])), (q1, .inl (k1, 4096, .inl (fun _ => 0))), (q2, .inl (k2, 4, .inl (upd (upd (upd (upd (fun _ => 0) 0 7) 1 7) 2 7) 3 7))), (q3, .inl (k3, 32, .inl (fun _ => 0)))] := hD
  refine lv_aload_n hx hb dX0_init_63 rfl (lv_at hl 0 rfl) ?_
  refine lv_iconst (v := 0) hx hb dX0_init_64 (by decide) ?_
  refine va_put (D := (dC, dI)) (ci := 0) (v := .int 0) (ty := .int) (C := RX0) (T := TX0) (N := 7) hx hb hts (gw_lay lay_X0) tyX0 tyX0_ok nmX0 hown hK hP hD hS 0 rfl rfl 6 (by decide) (hts _ (gcons mF_X0_29)) (fun _ h9 => h9) rfl (by decide +kernel) rfl rfl (Nat.le_of_ble_eq_true rfl) dX0_init_65 (fun H locs hP hD hS => ?_)
  have hP : va_P (dC, dI) vwCl [(x0, .inr (0, [.ref q1, .ref q2, .ref q3, .int 0, .int ((-1)), .int 0, .int 0])), (q1, .inl (k1, 4096, .inl (fun _ => 0))), (q2, .inl (k2, 4, .inl (upd (upd (upd (upd (fun _ => 0) 0 7) 1 7) 2 7) 3 7))), (q3, .inl (k3, 32, .inl (fun _ => 0)))] H := hP
  have hD : va_D A [(x0, .inr (0, [.ref q1, .ref q2, .ref q3, .int 0, .int ((-1)), .int 0, .int 0])), (q1, .inl (k1, 4096, .inl (fun _ => 0))), (q2, .inl (k2, 4, .inl (upd (upd (upd (upd (fun _ => 0) 0 7) 1 7) 2 7) 3 7))), (q3, .inl (k3, 32, .inl (fun _ => 0)))] := hD
  exact W.vret hx hb hr (fun t ht hW => ⟨⟨(q1, q2, q3, k1, k2, k3), rfl, trivial, by rw [ht]; exact hP, va_K.moved hW.alike hK, hD⟩, hS.F ht⟩) hS.2.2 dX0_init_68
set_option maxHeartbeats 4000000 in
set_option maxRecDepth 100000 in
theorem c_init1 (l : Launch) (dC : Nat → ClassId) (dI : Nat → Nat → Nat) (y0 : Nat) (sz : Nat) : Met l yX1_init wsX1_init ({ frames := 1, cells := 3, slots := 16420, locals := 12 }) (va_Pc [.ref y0] (fun U => U.heap.size = sz ∧ va_P (dC, dI) vwCl [(y0, .inr (1, [.int 0, .null, .null, .null, .int 0, .int 0, .int 0, .int 0, .int 0, .int 0, .int 0, .int 0]))] U.heap ∧ va_K (dC, dI) vwCl [] U ∧ va_D (fun _ => True) [(y0, .inr (1, [.int 0, .null, .null, .null, .int 0, .int 0, .int 0, .int 0, .int 0, .int 0, .int 0, .int 0]))])) (va_Qv (fun _ : Nat × Nat × Nat × ClassId × ClassId × ClassId => True) (fun (u : Nat × Nat × Nat × ClassId × ClassId × ClassId) (t : State) => va_P (dC, dI) vwCl [(y0, .inr (1, [.int 0, .ref u.1, .ref u.2.1, .ref u.2.2.1, .int 0, .int ((-1)), .int 0, .int 0, .int 0, .int 0, .int 0, .int 0])), (u.1, .inl (u.2.2.2.1, 16384, .inl (fun _ => 0))), (u.2.1, .inl (u.2.2.2.2.1, 4, .inl (upd (upd (upd (upd (fun _ => 0) 0 7) 1 7) 2 7) 3 7))), (u.2.2.1, .inl (u.2.2.2.2.2, 32, .inl (fun _ => 0)))] t.heap ∧ va_K (dC, dI) vwCl [(u.2.2.2.1, .byte), (u.2.2.2.2.1, .int), (u.2.2.2.2.2, .int)] t ∧ va_D (va_A [(y0, .inr (1, [.int 0, .null, .null, .null, .int 0, .int 0, .int 0, .int 0, .int 0, .int 0, .int 0, .int 0]))] sz) [(y0, .inr (1, [.int 0, .ref u.1, .ref u.2.1, .ref u.2.2.1, .int 0, .int ((-1)), .int 0, .int 0, .int 0, .int 0, .int 0, .int 0])), (u.1, .inl (u.2.2.2.1, 16384, .inl (fun _ => 0))), (u.2.1, .inl (u.2.2.2.2.1, 4, .inl (upd (upd (upd (upd (fun _ => 0) 0 7) 1 7) 2 7) 3 7))), (u.2.2.1, .inl (u.2.2.2.2.2, 32, .inl (fun _ => 0)))]) (va_A [(y0, .inr (1, [.int 0, .null, .null, .null, .int 0, .int 0, .int 0, .int 0, .int 0, .int 0, .int 0, .int 0]))] sz)) 3 16420 (va_A [(y0, .inr (1, [.int 0, .null, .null, .null, .int 0, .int 0, .int 0, .int 0, .int 0, .int 0, .int 0, .int 0]))] sz) := by
  refine Met.ofW (cc := cX1_init) (maxL := 1) (ret := none) (by decide) rfl ?_
  intro p e s m args below meth c s₁ B hml hv
  obtain ⟨rfl, hsz, hP, hK, hD0⟩ := hv
  have hx := B.exec
  have hb := B.bytes
  have hr := B.returns
  have hts := atoms_spec (ws := wsX1_init) B.pre
  have hown : s.vm.findClass RX1 = some m.cls := findClass_of_methodNamed B.named
  have hlocks := B.notSynchronized
  have hin : meth.name = "<init>" := (name_of_methodNamed B.named B.method).1
  subst hsz
  have hD := hD0.self (sz := s.heap.size)
  generalize hAe : va_A [(y0, .inr (1, [.int 0, .null, .null, .null, .int 0, .int 0, .int 0, .int 0, .int 0, .int 0, .int 0, .int 0]))] s.heap.size = A at hD ⊢
  have hA : ∀ q : Nat, s.heap.size ≤ q → A q := fun q h => by rw [← hAe]; exact Or.inr h
  have hS : va_S A s.heap s.heap [] := va_S.rf
  have hP : va_P (dC, dI) vwCl [(y0, .inr (1, [.int 0, .null, .null, .null, .int 0, .int 0, .int 0, .int 0, .int 0, .int 0, .int 0, .int 0]))] s.heap := hP
  have hl := lv_entry ([.ref y0]) (n := 1) (Nat.le_of_ble_eq_true rfl)
  rw [lg_entry_eq]
  generalize (lg_sl ([.ref y0]) ++ List.replicate (1 - (lg_sl ([.ref y0])).length) Slot.unset).toArray = ls at hl ⊢
  have hl : lv_has ls 1 [(0, .ref y0)] := hl
  refine lv_aload_n hx hb dX1_init_0 rfl (lv_at hl 0 rfl) ?_
  refine W.objInit hx hb hown (hts _ (gcons mL_X1_1)) (hts _ (gcons mI_objectInit)) (hts _ (gcons mC_objectInit)) rfl (by rw [hml]; exact hl.1) rfl dX1_init_1 (Nat.le_of_ble_eq_true rfl) (Nat.le_of_ble_eq_true rfl) ?_
  refine W.eq (g2 := F0 m 4 ls []) rfl ?_
  refine lv_aload_n hx hb dX1_init_4 rfl (lv_at hl 0 rfl) ?_
  refine lv_sipush (v := 16384) hx hb dX1_init_5 (by decide) ?_
  refine va_newa (atype := .byte) (ty := .byte) hx hb (hts _ (gcons mA_byte)) rfl hK hP hD hS hA (n := 16384) (N' := 16384) (a0 := (16384, .inl (fun _ => 0))) (fun _ => rfl) (by decide) (by decide) (by decide) (Nat.le_of_ble_eq_true rfl) (Nat.le_of_ble_eq_true rfl) dX1_init_8 (fun q1 k1 H hK hP hD hS => ?_)
  have hP : va_P (dC, dI) vwCl [(y0, .inr (1, [.int 0, .null, .null, .null, .int 0, .int 0, .int 0, .int 0, .int 0, .int 0, .int 0, .int 0])), (q1, .inl (k1, 16384, .inl (fun _ => 0)))] H := hP
  have hD : va_D A [(y0, .inr (1, [.int 0, .null, .null, .null, .int 0, .int 0, .int 0, .int 0, .int 0, .int 0, .int 0, .int 0])), (q1, .inl (k1, 16384, .inl (fun _ => 0)))] := hD
  have hK : va_K (dC, dI) vwCl [(k1, .byte)] s := hK
  refine W.widen (k := 1) (n := 16384) (Nat.le_of_ble_eq_true rfl) (Nat.le_of_ble_eq_true rfl) ?_
  refine va_putF (D := (dC, dI)) (ci := 1) (v := .ref q1) (ty := (.array .byte)) (C := RX1) (T := TX1) (N := 12) hx hb hts (gw_lay lay_X1) tyX1 tyX1_ok nmX1 hown hK hP hD hS 0 rfl rfl 1 (by decide) (hts _ (gcons mF_X1_7)) (fun _ h9 => h9) rfl hin rfl (by decide +kernel) rfl rfl (Nat.le_of_ble_eq_true rfl) dX1_init_10 (fun H locs hP hD hS => ?_)
  have hP : va_P (dC, dI) vwCl [(y0, .inr (1, [.int 0, .ref q1, .null, .null, .int 0, .int 0, .int 0, .int 0, .int 0, .int 0, .int 0, .int 0])), (q1, .inl (k1, 16384, .inl (fun _ => 0)))] H := hP
  have hD : va_D A [(y0, .inr (1, [.int 0, .ref q1, .null, .null, .int 0, .int 0, .int 0, .int 0, .int 0, .int 0, .int 0, .int 0])), (q1, .inl (k1, 16384, .inl (fun _ => 0)))] := hD
  refine lv_aload_n hx hb dX1_init_13 rfl (lv_at hl 0 rfl) ?_
  refine lv_iconst (v := 4) hx hb dX1_init_14 (by decide) ?_
  refine va_newa (atype := .int) (ty := .int) hx hb (hts _ (gcons mA_int)) rfl hK hP hD hS hA (n := 4) (N' := 4) (a0 := (4, .inl (fun _ => 0))) (fun _ => rfl) (by decide) (by decide) (by decide) (Nat.le_of_ble_eq_true rfl) (Nat.le_of_ble_eq_true rfl) dX1_init_15 (fun q2 k2 H hK hP hD hS => ?_)
  have hP : va_P (dC, dI) vwCl [(y0, .inr (1, [.int 0, .ref q1, .null, .null, .int 0, .int 0, .int 0, .int 0, .int 0, .int 0, .int 0, .int 0])), (q1, .inl (k1, 16384, .inl (fun _ => 0))), (q2, .inl (k2, 4, .inl (fun _ => 0)))] H := hP
  have hD : va_D A [(y0, .inr (1, [.int 0, .ref q1, .null, .null, .int 0, .int 0, .int 0, .int 0, .int 0, .int 0, .int 0, .int 0])), (q1, .inl (k1, 16384, .inl (fun _ => 0))), (q2, .inl (k2, 4, .inl (fun _ => 0)))] := hD
  have hK : va_K (dC, dI) vwCl [(k1, .byte), (k2, .int)] s := hK
  refine W.widen (k := 2) (n := 16388) (Nat.le_of_ble_eq_true rfl) (Nat.le_of_ble_eq_true rfl) ?_
  refine lv_dup hx hb dX1_init_17 rfl ?_
  refine lv_iconst (v := 0) hx hb dX1_init_18 (by decide) ?_
  refine lv_bipush (v := 7) hx hb dX1_init_19 (by decide) ?_
  refine va_iast hx hb hK hP hD hS 2 1 rfl rfl (show vp_in (0 : Int32) 4 by rw [vp_in_iff]; decide) dX1_init_21 (fun H locs hP hD hS => ?_)
  have hP : va_P (dC, dI) vwCl [(y0, .inr (1, [.int 0, .ref q1, .null, .null, .int 0, .int 0, .int 0, .int 0, .int 0, .int 0, .int 0, .int 0])), (q1, .inl (k1, 16384, .inl (fun _ => 0))), (q2, .inl (k2, 4, .inl (upd (fun _ => 0) 0 7)))] H := hP
  have hD : va_D A [(y0, .inr (1, [.int 0, .ref q1, .null, .null, .int 0, .int 0, .int 0, .int 0, .int 0, .int 0, .int 0, .int 0])), (q1, .inl (k1, 16384, .inl (fun _ => 0))), (q2, .inl (k2, 4, .inl (upd (fun _ => 0) 0 7)))] := hD
  refine lv_dup hx hb dX1_init_22 rfl ?_
  refine lv_iconst (v := 1) hx hb dX1_init_23 (by decide) ?_
  refine lv_bipush (v := 7) hx hb dX1_init_24 (by decide) ?_
  refine va_iast hx hb hK hP hD hS 2 1 rfl rfl (show vp_in (1 : Int32) 4 by rw [vp_in_iff]; decide) dX1_init_26 (fun H locs hP hD hS => ?_)
  have hP : va_P (dC, dI) vwCl [(y0, .inr (1, [.int 0, .ref q1, .null, .null, .int 0, .int 0, .int 0, .int 0, .int 0, .int 0, .int 0, .int 0])), (q1, .inl (k1, 16384, .inl (fun _ => 0))), (q2, .inl (k2, 4, .inl (upd (upd (fun _ => 0) 0 7) 1 7)))] H := hP
  have hD : va_D A [(y0, .inr (1, [.int 0, .ref q1, .null, .null, .int 0, .int 0, .int 0, .int 0, .int 0, .int 0, .int 0, .int 0])), (q1, .inl (k1, 16384, .inl (fun _ => 0))), (q2, .inl (k2, 4, .inl (upd (upd (fun _ => 0) 0 7) 1 7)))] := hD
  refine lv_dup hx hb dX1_init_27 rfl ?_
  refine lv_iconst (v := 2) hx hb dX1_init_28 (by decide) ?_
  refine lv_bipush (v := 7) hx hb dX1_init_29 (by decide) ?_
  refine va_iast hx hb hK hP hD hS 2 1 rfl rfl (show vp_in (2 : Int32) 4 by rw [vp_in_iff]; decide) dX1_init_31 (fun H locs hP hD hS => ?_)
  have hP : va_P (dC, dI) vwCl [(y0, .inr (1, [.int 0, .ref q1, .null, .null, .int 0, .int 0, .int 0, .int 0, .int 0, .int 0, .int 0, .int 0])), (q1, .inl (k1, 16384, .inl (fun _ => 0))), (q2, .inl (k2, 4, .inl (upd (upd (upd (fun _ => 0) 0 7) 1 7) 2 7)))] H := hP
  have hD : va_D A [(y0, .inr (1, [.int 0, .ref q1, .null, .null, .int 0, .int 0, .int 0, .int 0, .int 0, .int 0, .int 0, .int 0])), (q1, .inl (k1, 16384, .inl (fun _ => 0))), (q2, .inl (k2, 4, .inl (upd (upd (upd (fun _ => 0) 0 7) 1 7) 2 7)))] := hD
  refine lv_dup hx hb dX1_init_32 rfl ?_
  refine lv_iconst (v := 3) hx hb dX1_init_33 (by decide) ?_
  refine lv_bipush (v := 7) hx hb dX1_init_34 (by decide) ?_
  refine va_iast hx hb hK hP hD hS 2 1 rfl rfl (show vp_in (3 : Int32) 4 by rw [vp_in_iff]; decide) dX1_init_36 (fun H locs hP hD hS => ?_)
  have hP : va_P (dC, dI) vwCl [(y0, .inr (1, [.int 0, .ref q1, .null, .null, .int 0, .int 0, .int 0, .int 0, .int 0, .int 0, .int 0, .int 0])), (q1, .inl (k1, 16384, .inl (fun _ => 0))), (q2, .inl (k2, 4, .inl (upd (upd (upd (upd (fun _ => 0) 0 7) 1 7) 2 7) 3 7)))] H := hP
  have hD : va_D A [(y0, .inr (1, [.int 0, .ref q1, .null, .null, .int 0, .int 0, .int 0, .int 0, .int 0, .int 0, .int 0, .int 0])), (q1, .inl (k1, 16384, .inl (fun _ => 0))), (q2, .inl (k2, 4, .inl (upd (upd (upd (upd (fun _ => 0) 0 7) 1 7) 2 7) 3 7)))] := hD
  refine va_putF (D := (dC, dI)) (ci := 1) (v := .ref q2) (ty := (.array .int)) (C := RX1) (T := TX1) (N := 12) hx hb hts (gw_lay lay_X1) tyX1 tyX1_ok nmX1 hown hK hP hD hS 0 rfl rfl 2 (by decide) (hts _ (gcons mF_X1_13)) (fun _ h9 => h9) rfl hin rfl (by decide +kernel) rfl rfl (Nat.le_of_ble_eq_true rfl) dX1_init_37 (fun H locs hP hD hS => ?_)
  have hP : va_P (dC, dI) vwCl [(y0, .inr (1, [.int 0, .ref q1, .ref q2, .null, .int 0, .int 0, .int 0, .int 0, .int 0, .int 0, .int 0, .int 0])), (q1, .inl (k1, 16384, .inl (fun _ => 0))), (q2, .inl (k2, 4, .inl (upd (upd (upd (upd (fun _ => 0) 0 7) 1 7) 2 7) 3 7)))] H := hP
  have hD : va_D A [(y0, .inr (1, [.int 0, .ref q1, .ref q2, .null, .int 0, .int 0, .int 0, .int 0, .int 0, .int 0, .int 0, .int 0])), (q1, .inl (k1, 16384, .inl (fun _ => 0))), (q2, .inl (k2, 4, .inl (upd (upd (upd (upd (fun _ => 0) 0 7) 1 7) 2 7) 3 7)))] := hD
  refine lv_aload_n hx hb dX1_init_40 rfl (lv_at hl 0 rfl) ?_
  refine lv_bipush (v := 32) hx hb dX1_init_41 (by decide) ?_
  refine va_newa (atype := .int) (ty := .int) hx hb (hts _ (gcons mA_int)) rfl hK hP hD hS hA (n := 32) (N' := 32) (a0 := (32, .inl (fun _ => 0))) (fun _ => rfl) (by decide) (by decide) (by decide) (Nat.le_of_ble_eq_true rfl) (Nat.le_of_ble_eq_true rfl) dX1_init_43 (fun q3 k3 H hK hP hD hS => ?_)
  have hP : va_P (dC, dI) vwCl [(y0, .inr (1, [.int 0, .ref q1, .ref q2, .null, .int 0, .int 0, .int 0, .int 0, .int 0, .int 0, .int 0, .int 0])), (q1, .inl (k1, 16384, .inl (fun _ => 0))), (q2, .inl (k2, 4, .inl (upd (upd (upd (upd (fun _ => 0) 0 7) 1 7) 2 7) 3 7))), (q3, .inl (k3, 32, .inl (fun _ => 0)))] H := hP
  have hD : va_D A [(y0, .inr (1, [.int 0, .ref q1, .ref q2, .null, .int 0, .int 0, .int 0, .int 0, .int 0, .int 0, .int 0, .int 0])), (q1, .inl (k1, 16384, .inl (fun _ => 0))), (q2, .inl (k2, 4, .inl (upd (upd (upd (upd (fun _ => 0) 0 7) 1 7) 2 7) 3 7))), (q3, .inl (k3, 32, .inl (fun _ => 0)))] := hD
  have hK : va_K (dC, dI) vwCl [(k1, .byte), (k2, .int), (k3, .int)] s := hK
  refine W.widen (k := 3) (n := 16420) (Nat.le_of_ble_eq_true rfl) (Nat.le_of_ble_eq_true rfl) ?_
  refine va_putF (D := (dC, dI)) (ci := 1) (v := .ref q3) (ty := (.array .int)) (C := RX1) (T := TX1) (N := 12) hx hb hts (gw_lay lay_X1) tyX1 tyX1_ok nmX1 hown hK hP hD hS 0 rfl rfl 3 (by decide) (hts _ (gcons mF_X1_17)) (fun _ h9 => h9) rfl hin rfl (by decide +kernel) rfl rfl (Nat.le_of_ble_eq_true rfl) dX1_init_45 (fun H locs hP hD hS => ?_)
  have hP : va_P (dC, dI) vwCl [(y0, .inr (1, [.int 0, .ref q1, .ref q2, .ref q3, .int 0, .int 0, .int 0, .int 0, .int 0, .int 0, .int 0, .int 0])), (q1, .inl (k1, 16384, .inl (fun _ => 0))), (q2, .inl (k2, 4, .inl (upd (upd (upd (upd (fun _ => 0) 0 7) 1 7) 2 7) 3 7))), (q3, .inl (k3, 32, .inl (fun _ => 0)))] H := hP
  have hD : va_D A [(y0, .inr (1, [.int 0, .ref q1, .ref q2, .ref q3, .int 0, .int 0, .int 0, .int 0, .int 0, .int 0, .int 0, .int 0])), (q1, .inl (k1, 16384, .inl (fun _ => 0))), (q2, .inl (k2, 4, .inl (upd (upd (upd (upd (fun _ => 0) 0 7) 1 7) 2 7) 3 7))), (q3, .inl (k3, 32, .inl (fun _ => 0)))] := hD
  refine lv_aload_n hx hb dX1_init_48 rfl (lv_at hl 0 rfl) ?_
  refine lv_iconst (v := (-1)) hx hb dX1_init_49 (by decide) ?_
  refine va_put (D := (dC, dI)) (ci := 1) (v := .int ((-1))) (ty := .int) (C := RX1) (T := TX1) (N := 12) hx hb hts (gw_lay lay_X1) tyX1 tyX1_ok nmX1 hown hK hP hD hS 0 rfl rfl 5 (by decide) (hts _ (gcons mF_X1_20)) (fun _ h9 => h9) rfl (by decide +kernel) rfl rfl (Nat.le_of_ble_eq_true rfl) dX1_init_50 (fun H locs hP hD hS => ?_)
  have hP : va_P (dC, dI) vwCl [(y0, .inr (1, [.int 0, .ref q1, .ref q2, .ref q3, .int 0, .int ((-1)), .int 0, .int 0, .int 0, .int 0, .int 0, .int 0])), (q1, .inl (k1, 16384, .inl (fun _ => 0))), (q2, .inl (k2, 4, .inl (upd (upd (upd (upd (fun _ => 0) 0 7) 1 7) 2 7) 3 7))), (q3, .inl (k3, 32, .inl (fun _ => 0)))] H := hP
  have hD : va_D A [(y0, .inr (1, [.int 0, .ref q1, .ref q2, .ref q3, .int 0, .int ((-1)), .int 0, .int 0, .int 0, .int 0, .int 0, .int 0])), (q1, .inl (k1, 16384, .inl (fun _ => 0))), (q2, .inl (k2, 4, .inl (upd (upd (upd (upd (fun _ => 0) 0 7) 1 7) 2 7) 3 7))), (q3, .inl (k3, 32, .inl (fun _ => 0)))] := hD
  exact W.vret hx hb hr (fun t ht hW => ⟨⟨(q1, q2, q3, k1, k2, k3), rfl, trivial, by rw [ht]; exact hP, va_K.moved hW.alike hK, hD⟩, hS.F ht⟩) hS.2.2 dX1_init_53
