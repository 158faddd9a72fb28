def F_putRegister (rs : Nat → Int32) (a1 : Int32) (a2 : Int32) : (Nat → Int32) :=
  if a1 ≤ 0 then
    rs
  else
    if (32 : Int32) ≤ a1 then
      rs
    else
      upd rs a1.toNatClampNeg a2
set_option maxHeartbeats 4000000 in
set_option maxRecDepth 100000 in
theorem c_putRegister (l : Launch) (dC : Nat → ClassId) (dI : Nat → Nat → Nat) (x0 xw xr xg : Nat) (c1 c2 c3 : ClassId) (sz : Nat) (wd : Nat → Int32) (rg : Nat → Int32) (rs : Nat → Int32) (pcv : Int32) (trv : Int32) (vav : Int32) (dnv : Int32) (a1 : Int32) (a2 : Int32)  : Met l yX0_putRegister wsX0_putRegister ({ frames := 0, cells := 0, slots := 0, locals := 0 }) (va_Pc [.ref x0, .int a1, .int a2] (fun U => U.heap.size = sz ∧ va_P (dC, dI) vwCl [(x0, .inr (0, [.ref xw, .ref xr, .ref xg, .int pcv, .int trv, .int vav, .int dnv])), (xw, .inl (c1, 4096, .inl wd)), (xr, .inl (c2, 4, .inl rg)), (xg, .inl (c3, 32, .inl rs))] U.heap ∧ va_K (dC, dI) vwCl [(c1, .int), (c2, .int), (c3, .int)] U ∧ va_D (fun _ => True) [(x0, .inr (0, [.ref xw, .ref xr, .ref xg, .int pcv, .int trv, .int vav, .int dnv])), (xw, .inl (c1, 4096, .inl wd)), (xr, .inl (c2, 4, .inl rg)), (xg, .inl (c3, 32, .inl rs))])) (va_Qv (fun u : (Nat → Int32) => u = F_putRegister rs a1 a2) (fun (u : (Nat → Int32)) (t : State) => va_P (dC, dI) vwCl [(x0, .inr (0, [.ref xw, .ref xr, .ref xg, .int pcv, .int trv, .int vav, .int dnv])), (xw, .inl (c1, 4096, .inl wd)), (xr, .inl (c2, 4, .inl rg)), (xg, .inl (c3, 32, .inl u))] t.heap ∧ va_K (dC, dI) vwCl [(c1, .int), (c2, .int), (c3, .int)] t ∧ va_D (va_A [(x0, .inr (0, [.ref xw, .ref xr, .ref xg, .int pcv, .int trv, .int vav, .int dnv])), (xw, .inl (c1, 4096, .inl wd)), (xr, .inl (c2, 4, .inl rg)), (xg, .inl (c3, 32, .inl rs))] sz) [(x0, .inr (0, [.ref xw, .ref xr, .ref xg, .int pcv, .int trv, .int vav, .int dnv])), (xw, .inl (c1, 4096, .inl wd)), (xr, .inl (c2, 4, .inl rg)), (xg, .inl (c3, 32, .inl u))]) (va_A [(x0, .inr (0, [.ref xw, .ref xr, .ref xg, .int pcv, .int trv, .int vav, .int dnv])), (xw, .inl (c1, 4096, .inl wd)), (xr, .inl (c2, 4, .inl rg)), (xg, .inl (c3, 32, .inl rs))] sz)) 0 0 (va_A [(x0, .inr (0, [.ref xw, .ref xr, .ref xg, .int pcv, .int trv, .int vav, .int dnv])), (xw, .inl (c1, 4096, .inl wd)), (xr, .inl (c2, 4, .inl rg)), (xg, .inl (c3, 32, .inl rs))] sz) := by
  refine Met.ofW (cc := cX0_putRegister) (maxL := 3) (ret := none) (by decide) rfl ?_
  intro p e s m args below meth c s₁ B hml hv
  obtain ⟨rfl, hsz, hP, hK, hD0⟩ := hv
  have hx := B.exec
  have hb := B.bytes
  have hr := B.returns
  have hts := atoms_spec (ws := wsX0_putRegister) B.pre
  have hown : s.vm.findClass RX0 = some m.cls := findClass_of_methodNamed B.named
  have hlocks := B.notSynchronized
  subst hsz
  have hD := hD0.self (sz := s.heap.size)
  generalize hAe : va_A [(x0, .inr (0, [.ref xw, .ref xr, .ref xg, .int pcv, .int trv, .int vav, .int dnv])), (xw, .inl (c1, 4096, .inl wd)), (xr, .inl (c2, 4, .inl rg)), (xg, .inl (c3, 32, .inl rs))] s.heap.size = A at hD ⊢
  have hA : ∀ q : Nat, s.heap.size ≤ q → A q := fun q h => by rw [← hAe]; exact Or.inr h
  have hS : va_S A s.heap s.heap [] := va_S.rf
  have hP : va_P (dC, dI) vwCl [(x0, .inr (0, [.ref xw, .ref xr, .ref xg, .int pcv, .int trv, .int vav, .int dnv])), (xw, .inl (c1, 4096, .inl wd)), (xr, .inl (c2, 4, .inl rg)), (xg, .inl (c3, 32, .inl rs))] s.heap := hP
  have hl := lv_entry ([.ref x0, .int a1, .int a2]) (n := 3) (Nat.le_of_ble_eq_true rfl)
  rw [lg_entry_eq]
  generalize (lg_sl ([.ref x0, .int a1, .int a2]) ++ List.replicate (3 - (lg_sl ([.ref x0, .int a1, .int a2])).length) Slot.unset).toArray = ls at hl ⊢
  have hl : lv_has ls 3 [(0, .ref x0), (1, .int a1), (2, .int a2)] := hl
  refine lv_iload_n hx hb dX0_putRegister_0 rfl (lv_at hl 1 rfl) ?_
  refine lv_if_le (tgt := 17) hx hb dX0_putRegister_1 (by decide) (fun c_1 => ?_) (fun c_1 => ?_)
  · exact W.vret hx hb hr (fun t ht hW => ⟨⟨rs, rfl, (by unfold F_putRegister; rw [if_pos c_1]), by rw [ht]; exact hP, va_K.moved hW.alike hK, hD⟩, hS.F ht⟩) hS.2.2 dX0_putRegister_17
  · refine lv_iload_n hx hb dX0_putRegister_4 rfl (lv_at hl 1 rfl) ?_
    refine lv_bipush (v := 32) hx hb dX0_putRegister_5 (by decide) ?_
    refine lv_icmp_ge (tgt := 17) hx hb dX0_putRegister_7 (by decide) (fun c_2 => ?_) (fun c_2 => ?_)
    · exact W.vret hx hb hr (fun t ht hW => ⟨⟨rs, rfl, (by unfold F_putRegister; rw [if_neg c_1, if_pos c_2]), by rw [ht]; exact hP, va_K.moved hW.alike hK, hD⟩, hS.F ht⟩) hS.2.2 dX0_putRegister_17
    · refine lv_aload_n hx hb dX0_putRegister_10 rfl (lv_at hl 0 rfl) ?_
      refine va_get (D := (dC, dI)) (ci := 0) (v := .ref xg) (C := RX0) (T := TX0) (N := 7) hx hb hts (gw_lay lay_X0) hown hK hP 0 rfl rfl 2 (by decide) (hts _ (gcons mF_X0_16)) (fun _ h9 => h9) rfl dX0_putRegister_11 ?_
      refine lv_iload_n hx hb dX0_putRegister_14 rfl (lv_at hl 1 rfl) ?_
      refine lv_iload_n hx hb dX0_putRegister_15 rfl (lv_at hl 2 rfl) ?_
      refine va_iast hx hb hK hP hD hS 3 2 rfl rfl (in_reg c_1 c_2) dX0_putRegister_16 (fun H locs hP hD hS => ?_)
      have hP : va_P (dC, dI) vwCl [(x0, .inr (0, [.ref xw, .ref xr, .ref xg, .int pcv, .int trv, .int vav, .int dnv])), (xw, .inl (c1, 4096, .inl wd)), (xr, .inl (c2, 4, .inl rg)), (xg, .inl (c3, 32, .inl (upd rs a1.toNatClampNeg a2)))] H := hP
      have hD : va_D A [(x0, .inr (0, [.ref xw, .ref xr, .ref xg, .int pcv, .int trv, .int vav, .int dnv])), (xw, .inl (c1, 4096, .inl wd)), (xr, .inl (c2, 4, .inl rg)), (xg, .inl (c3, 32, .inl (upd rs a1.toNatClampNeg a2)))] := hD
      exact W.vret hx hb hr (fun t ht hW => ⟨⟨upd rs a1.toNatClampNeg a2, rfl, (by unfold F_putRegister; rw [if_neg c_1, if_neg c_2]), by rw [ht]; exact hP, va_K.moved hW.alike hK, hD⟩, hS.F ht⟩) hS.2.2 dX0_putRegister_17
/-- words behind j bytes -/
def pbN (wd : Nat → Int32) (a1 : Int32) (a3 : Int64) : Nat → (Nat → Int32)
  | 0 => wd
  | j + 1 => upd ((pbN wd a1 a3 j)) (((a1 + (nI j)).toUInt32 >>> ((2 : Int32).toUInt32 &&& Int32.toUInt32 31)).toInt32).toNatClampNeg (((((pbN wd a1 a3 j)) (((a1 + (nI j)).toUInt32 >>> ((2 : Int32).toUInt32 &&& Int32.toUInt32 31)).toInt32).toNatClampNeg) &&& ((255 <<< ((((a1 + (nI j)) &&& 3) * 8) &&& 31)) ^^^ ((-1)))) ||| (((((a3.toUInt64 >>> ((8 * (nI j)).toInt64.toUInt64 &&& Int64.toUInt64 63)).toInt64).toInt32) &&& 255) <<< ((((a1 + (nI j)) &&& 3) * 8) &&& 31)))
def F_putBytes (wd : Nat → Int32) (a1 : Int32) (a2 : Int32) (a3 : Int64) : Nat → Int32 := pbN wd a1 a3 a2.toNatClampNeg
set_option maxHeartbeats 4000000 in
set_option maxRecDepth 100000 in
theorem c_putBytes (l : Launch) (dC : Nat → ClassId) (dI : Nat → Nat → Nat) (x0 xw xr xg : Nat) (c1 c2 c3 : ClassId) (sz : Nat) (wd : Nat → Int32) (rg : Nat → Int32) (rs : Nat → Int32) (pcv : Int32) (trv : Int32) (vav : Int32) (dnv : Int32) (a1 : Int32) (a2 : Int32) (a3 : Int64) (hpb : 0 ≤ a1.toInt ∧ 0 ≤ a2.toInt ∧ a2.toInt ≤ 8 ∧ a1.toInt + a2.toInt ≤ 16384) : Met l yX0_putBytes wsX0_putBytes ({ frames := 0, cells := 0, slots := 0, locals := 0 }) (va_Pc [.ref x0, .int a1, .int a2, .long a3] (fun U => U.heap.size = sz ∧ va_P (dC, dI) vwCl [(x0, .inr (0, [.ref xw, .ref xr, .ref xg, .int pcv, .int trv, .int vav, .int dnv])), (xw, .inl (c1, 4096, .inl wd)), (xr, .inl (c2, 4, .inl rg)), (xg, .inl (c3, 32, .inl rs))] U.heap ∧ va_K (dC, dI) vwCl [(c1, .int), (c2, .int), (c3, .int)] U ∧ va_D (fun _ => True) [(x0, .inr (0, [.ref xw, .ref xr, .ref xg, .int pcv, .int trv, .int vav, .int dnv])), (xw, .inl (c1, 4096, .inl wd)), (xr, .inl (c2, 4, .inl rg)), (xg, .inl (c3, 32, .inl rs))])) (va_Qv (fun u : (Nat → Int32) => u = F_putBytes wd a1 a2 a3) (fun (u : (Nat → Int32)) (t : State) => va_P (dC, dI) vwCl [(x0, .inr (0, [.ref xw, .ref xr, .ref xg, .int pcv, .int trv, .int vav, .int dnv])), (xw, .inl (c1, 4096, .inl u)), (xr, .inl (c2, 4, .inl rg)), (xg, .inl (c3, 32, .inl rs))] t.heap ∧ va_K (dC, dI) vwCl [(c1, .int), (c2, .int), (c3, .int)] t ∧ va_D (va_A [(x0, .inr (0, [.ref xw, .ref xr, .ref xg, .int pcv, .int trv, .int vav, .int dnv])), (xw, .inl (c1, 4096, .inl wd)), (xr, .inl (c2, 4, .inl rg)), (xg, .inl (c3, 32, .inl rs))] sz) [(x0, .inr (0, [.ref xw, .ref xr, .ref xg, .int pcv, .int trv, .int vav, .int dnv])), (xw, .inl (c1, 4096, .inl u)), (xr, .inl (c2, 4, .inl rg)), (xg, .inl (c3, 32, .inl rs))]) (va_A [(x0, .inr (0, [.ref xw, .ref xr, .ref xg, .int pcv, .int trv, .int vav, .int dnv])), (xw, .inl (c1, 4096, .inl wd)), (xr, .inl (c2, 4, .inl rg)), (xg, .inl (c3, 32, .inl rs))] sz)) 0 0 (va_A [(x0, .inr (0, [.ref xw, .ref xr, .ref xg, .int pcv, .int trv, .int vav, .int dnv])), (xw, .inl (c1, 4096, .inl wd)), (xr, .inl (c2, 4, .inl rg)), (xg, .inl (c3, 32, .inl rs))] sz) := by
  refine Met.ofW (cc := cX0_putBytes) (maxL := 9) (ret := none) (by decide) rfl ?_
  intro p e s m args below meth c s₁ B hml hv
  obtain ⟨rfl, hsz, hP, hK, hD0⟩ := hv
  have hx := B.exec
  have hb := B.bytes
  have hr := B.returns
  have hts := atoms_spec (ws := wsX0_putBytes) B.pre
  have hown : s.vm.findClass RX0 = some m.cls := findClass_of_methodNamed B.named
  have hlocks := B.notSynchronized
  subst hsz
  have hD := hD0.self (sz := s.heap.size)
  generalize hAe : va_A [(x0, .inr (0, [.ref xw, .ref xr, .ref xg, .int pcv, .int trv, .int vav, .int dnv])), (xw, .inl (c1, 4096, .inl wd)), (xr, .inl (c2, 4, .inl rg)), (xg, .inl (c3, 32, .inl rs))] s.heap.size = A at hD ⊢
  have hA : ∀ q : Nat, s.heap.size ≤ q → A q := fun q h => by rw [← hAe]; exact Or.inr h
  have hS : va_S A s.heap s.heap [] := va_S.rf
  have hP : va_P (dC, dI) vwCl [(x0, .inr (0, [.ref xw, .ref xr, .ref xg, .int pcv, .int trv, .int vav, .int dnv])), (xw, .inl (c1, 4096, .inl wd)), (xr, .inl (c2, 4, .inl rg)), (xg, .inl (c3, 32, .inl rs))] s.heap := hP
  have hl := lv_entry ([.ref x0, .int a1, .int a2, .long a3]) (n := 9) (Nat.le_of_ble_eq_true rfl)
  rw [lg_entry_eq]
  generalize (lg_sl ([.ref x0, .int a1, .int a2, .long a3]) ++ List.replicate (9 - (lg_sl ([.ref x0, .int a1, .int a2, .long a3])).length) Slot.unset).toArray = ls at hl ⊢
  have hl : lv_has ls 9 [(0, .ref x0), (1, .int a1), (2, .int a2), (3, .long a3)] := hl
  obtain ⟨n, hn, rfl⟩ : ∃ n : Nat, n ≤ 8 ∧ a2 = nI n := pb_n hpb
  have hcl : (nI n).toNatClampNeg = n := nI_clamp (by omega)
  refine lv_iconst (v := 0) hx hb dX0_putBytes_0 (by decide) ?_
  refine lv_istore (lv' := [(5, .int 0), (0, .ref x0), (1, .int a1), (2, .int (nI n)), (3, .long a3)]) hx hb dX0_putBytes_1 hl (by decide) rfl (fun ls hl => ?_)
  refine lv_loop (n := n) (P := fun j H locs ls => va_P (dC, dI) vwCl [(x0, .inr (0, [.ref xw, .ref xr, .ref xg, .int pcv, .int trv, .int vav, .int dnv])), (xw, .inl (c1, 4096, .inl ((pbN wd a1 a3 j)))), (xr, .inl (c2, 4, .inl rg)), (xg, .inl (c3, 32, .inl rs))] H ∧ va_D A [(x0, .inr (0, [.ref xw, .ref xr, .ref xg, .int pcv, .int trv, .int vav, .int dnv])), (xw, .inl (c1, 4096, .inl ((pbN wd a1 a3 j)))), (xr, .inl (c2, 4, .inl rg)), (xg, .inl (c3, 32, .inl rs))] ∧ va_S A s.heap H locs ∧ lv_has ls 9 [(5, .int (nI j)), (0, .ref x0), (1, .int a1), (2, .int (nI n)), (3, .long a3)]) (Wg := fun H locs ls => W p l e _ s m _ below meth c H locs 0 0 _ (F0 m 3 ls [])) ?_ n 0 s.heap [] ls (by omega) (Nat.zero_le _) ⟨hP, hD, hS, hl⟩
  clear hP hD hS hl ls
  rintro j H locs ls hj ⟨hP, hD, hS, hl⟩ ih
  refine lv_iload hx hb dX0_putBytes_3 (lv_at hl 0 rfl) ?_
  refine lv_iload_n hx hb dX0_putBytes_5 rfl (lv_at hl 3 rfl) ?_
  refine lv_icmp_ge (tgt := 77) hx hb dX0_putBytes_6 (by decide) (fun c_1 => ?_) (fun c_1 => ?_)
  · exact W.vret hx hb hr (fun t ht hW => ⟨⟨(pbN wd a1 a3 j), rfl, (by unfold F_putBytes; rw [hcl, pb_eq hn hj c_1]), by rw [ht]; exact hP, va_K.moved hW.alike hK, hD⟩, hS.F ht⟩) hS.2.2 dX0_putBytes_77
  · have hlt : j < n := pb_lt hn hj c_1
    refine lv_iload_n hx hb dX0_putBytes_9 rfl (lv_at hl 2 rfl) ?_
    refine lv_iload hx hb dX0_putBytes_10 (lv_at hl 0 rfl) ?_
    refine lv_iadd hx hb dX0_putBytes_12 ?_
    refine lv_istore (lv' := [(6, .int (a1 + (nI j))), (5, .int (nI j)), (0, .ref x0), (1, .int a1), (2, .int (nI n)), (3, .long a3)]) hx hb dX0_putBytes_13 hl (by decide) rfl (fun ls hl => ?_)
    refine lv_iload hx hb dX0_putBytes_15 (lv_at hl 0 rfl) ?_
    refine lv_iconst (v := 3) hx hb dX0_putBytes_17 (by decide) ?_
    refine lv_iand hx hb dX0_putBytes_18 ?_
    refine lv_bipush (v := 8) hx hb dX0_putBytes_19 (by decide) ?_
    refine lv_imul hx hb dX0_putBytes_21 ?_
    refine lv_istore (lv' := [(7, .int (((a1 + (nI j)) &&& 3) * 8)), (6, .int (a1 + (nI j))), (5, .int (nI j)), (0, .ref x0), (1, .int a1), (2, .int (nI n)), (3, .long a3)]) hx hb dX0_putBytes_22 hl (by decide) rfl (fun ls hl => ?_)
    refine lv_lload_n hx hb dX0_putBytes_24 rfl (lv_at hl 6 rfl) ?_
    refine lv_bipush (v := 8) hx hb dX0_putBytes_25 (by decide) ?_
    refine lv_iload hx hb dX0_putBytes_27 (lv_at hl 2 rfl) ?_
    refine lv_imul hx hb dX0_putBytes_29 ?_
    refine lv_lushr (v := (a3.toUInt64 >>> ((8 * (nI j)).toInt64.toUInt64 &&& Int64.toUInt64 63)).toInt64) hx hb dX0_putBytes_30 rfl ?_
    refine lv_l2i (v := ((a3.toUInt64 >>> ((8 * (nI j)).toInt64.toUInt64 &&& Int64.toUInt64 63)).toInt64).toInt32) hx hb dX0_putBytes_31 rfl ?_
    refine lv_sipush (v := 255) hx hb dX0_putBytes_32 (by decide) ?_
    refine lv_iand hx hb dX0_putBytes_35 ?_
    refine lv_istore (lv' := [(8, .int ((((a3.toUInt64 >>> ((8 * (nI j)).toInt64.toUInt64 &&& Int64.toUInt64 63)).toInt64).toInt32) &&& 255)), (7, .int (((a1 + (nI j)) &&& 3) * 8)), (6, .int (a1 + (nI j))), (5, .int (nI j)), (0, .ref x0), (1, .int a1), (2, .int (nI n)), (3, .long a3)]) hx hb dX0_putBytes_36 hl (by decide) rfl (fun ls hl => ?_)
    refine lv_aload_n hx hb dX0_putBytes_38 rfl (lv_at hl 4 rfl) ?_
    refine va_get (D := (dC, dI)) (ci := 0) (v := .ref xw) (C := RX0) (T := TX0) (N := 7) hx hb hts (gw_lay lay_X0) hown hK hP 0 rfl rfl 0 (by decide) (hts _ (gcons mF_X0_9)) (fun _ h9 => h9) rfl dX0_putBytes_39 ?_
    refine lv_iload hx hb dX0_putBytes_42 (lv_at hl 2 rfl) ?_
    refine lv_iconst (v := 2) hx hb dX0_putBytes_44 (by decide) ?_
    refine lv_iushr (v := ((a1 + (nI j)).toUInt32 >>> ((2 : Int32).toUInt32 &&& Int32.toUInt32 31)).toInt32) hx hb dX0_putBytes_45 rfl ?_
    refine lv_aload_n hx hb dX0_putBytes_46 rfl (lv_at hl 4 rfl) ?_
    refine va_get (D := (dC, dI)) (ci := 0) (v := .ref xw) (C := RX0) (T := TX0) (N := 7) hx hb hts (gw_lay lay_X0) hown hK hP 0 rfl rfl 0 (by decide) (hts _ (gcons mF_X0_9)) (fun _ h9 => h9) rfl dX0_putBytes_47 ?_
    refine lv_iload hx hb dX0_putBytes_50 (lv_at hl 2 rfl) ?_
    refine lv_iconst (v := 2) hx hb dX0_putBytes_52 (by decide) ?_
    refine lv_iushr (v := ((a1 + (nI j)).toUInt32 >>> ((2 : Int32).toUInt32 &&& Int32.toUInt32 31)).toInt32) hx hb dX0_putBytes_53 rfl ?_
    refine va_iald hx hb hK hP 1 0 rfl rfl (in_pb hn hpb hlt) dX0_putBytes_54 ?_
    refine lv_sipush (v := 255) hx hb dX0_putBytes_55 (by decide) ?_
    refine lv_iload hx hb dX0_putBytes_58 (lv_at hl 1 rfl) ?_
    refine lv_ishl hx hb dX0_putBytes_60 ?_
    refine lv_iconst (v := (-1)) hx hb dX0_putBytes_61 (by decide) ?_
    refine lv_ixor hx hb dX0_putBytes_62 ?_
    refine lv_iand hx hb dX0_putBytes_63 ?_
    refine lv_iload hx hb dX0_putBytes_64 (lv_at hl 0 rfl) ?_
    refine lv_iload hx hb dX0_putBytes_66 (lv_at hl 1 rfl) ?_
    refine lv_ishl hx hb dX0_putBytes_68 ?_
    refine lv_ior hx hb dX0_putBytes_69 ?_
    refine va_iast hx hb hK hP hD hS 1 0 rfl rfl (in_pb hn hpb hlt) dX0_putBytes_70 (fun H locs hP hD hS => ?_)
    have hP : va_P (dC, dI) vwCl [(x0, .inr (0, [.ref xw, .ref xr, .ref xg, .int pcv, .int trv, .int vav, .int dnv])), (xw, .inl (c1, 4096, .inl (upd ((pbN wd a1 a3 j)) (((a1 + (nI j)).toUInt32 >>> ((2 : Int32).toUInt32 &&& Int32.toUInt32 31)).toInt32).toNatClampNeg (((((pbN wd a1 a3 j)) (((a1 + (nI j)).toUInt32 >>> ((2 : Int32).toUInt32 &&& Int32.toUInt32 31)).toInt32).toNatClampNeg) &&& ((255 <<< ((((a1 + (nI j)) &&& 3) * 8) &&& 31)) ^^^ ((-1)))) ||| (((((a3.toUInt64 >>> ((8 * (nI j)).toInt64.toUInt64 &&& Int64.toUInt64 63)).toInt64).toInt32) &&& 255) <<< ((((a1 + (nI j)) &&& 3) * 8) &&& 31)))))), (xr, .inl (c2, 4, .inl rg)), (xg, .inl (c3, 32, .inl rs))] H := hP
    have hD : va_D A [(x0, .inr (0, [.ref xw, .ref xr, .ref xg, .int pcv, .int trv, .int vav, .int dnv])), (xw, .inl (c1, 4096, .inl (upd ((pbN wd a1 a3 j)) (((a1 + (nI j)).toUInt32 >>> ((2 : Int32).toUInt32 &&& Int32.toUInt32 31)).toInt32).toNatClampNeg (((((pbN wd a1 a3 j)) (((a1 + (nI j)).toUInt32 >>> ((2 : Int32).toUInt32 &&& Int32.toUInt32 31)).toInt32).toNatClampNeg) &&& ((255 <<< ((((a1 + (nI j)) &&& 3) * 8) &&& 31)) ^^^ ((-1)))) ||| (((((a3.toUInt64 >>> ((8 * (nI j)).toInt64.toUInt64 &&& Int64.toUInt64 63)).toInt64).toInt32) &&& 255) <<< ((((a1 + (nI j)) &&& 3) * 8) &&& 31)))))), (xr, .inl (c2, 4, .inl rg)), (xg, .inl (c3, 32, .inl rs))] := hD
    refine lv_iinc (v := (nI j) + 1) (lv' := [(5, .int ((nI j) + 1)), (8, .int ((((a3.toUInt64 >>> ((8 * (nI j)).toInt64.toUInt64 &&& Int64.toUInt64 63)).toInt64).toInt32) &&& 255)), (7, .int (((a1 + (nI j)) &&& 3) * 8)), (6, .int (a1 + (nI j))), (0, .ref x0), (1, .int a1), (2, .int (nI n)), (3, .long a3)]) hx hb dX0_putBytes_71 hl (k := 3) rfl rfl (by decide) rfl (fun ls hl => ?_)
    refine lv_goto (tgt := 3) hx hb dX0_putBytes_74 (by decide) ?_
    have hl := lv_sub hl [0, 4, 5, 6, 7] rfl
    have hl : lv_has ls 9 [(5, .int (nI j + 1)), (0, .ref x0), (1, .int a1), (2, .int (nI n)), (3, .long a3)] := hl
    rw [nI_1] at hl
    exact ih H locs ls hlt ⟨hP, hD, hS, hl⟩
def F_trapWith (wd : Nat → Int32) (rg : Nat → Int32) (rs : Nat → Int32) (pcv : Int32) (trv : Int32) (vav : Int32) (a1 : Int32) (a2 : Int32) : Int32 × (Nat → Int32) × (Nat → Int32) × Int32 × Int32 × Int32 :=
  (0, (wd, rs, pcv, a1, a2))
set_option maxHeartbeats 4000000 in
set_option maxRecDepth 100000 in
theorem c_trapWith (l : Launch) (dC : Nat → ClassId) (dI : Nat → Nat → Nat) (x0 xw xr xg : Nat) (c1 c2 c3 : ClassId) (sz : Nat) (wd : Nat → Int32) (rg : Nat → Int32) (rs : Nat → Int32) (pcv : Int32) (trv : Int32) (vav : Int32) (dnv : Int32) (a1 : Int32) (a2 : Int32)  : Met l yX0_trapWith wsX0_trapWith ({ frames := 0, cells := 0, slots := 0, locals := 0 }) (va_Pc [.ref x0, .int a1, .int a2] (fun U => U.heap.size = sz ∧ va_P (dC, dI) vwCl [(x0, .inr (0, [.ref xw, .ref xr, .ref xg, .int pcv, .int trv, .int vav, .int dnv])), (xw, .inl (c1, 4096, .inl wd)), (xr, .inl (c2, 4, .inl rg)), (xg, .inl (c3, 32, .inl rs))] U.heap ∧ va_K (dC, dI) vwCl [(c1, .int), (c2, .int), (c3, .int)] U ∧ va_D (fun _ => True) [(x0, .inr (0, [.ref xw, .ref xr, .ref xg, .int pcv, .int trv, .int vav, .int dnv])), (xw, .inl (c1, 4096, .inl wd)), (xr, .inl (c2, 4, .inl rg)), (xg, .inl (c3, 32, .inl rs))])) (va_Qi (fun (r : Int32) (u : (Nat → Int32) × (Nat → Int32) × Int32 × Int32 × Int32) => narrow .boolean (.int r) = .int r ∧ (r, u) = F_trapWith wd rg rs pcv trv vav a1 a2) (fun (u : (Nat → Int32) × (Nat → Int32) × Int32 × Int32 × Int32) (t : State) => va_P (dC, dI) vwCl [(x0, .inr (0, [.ref xw, .ref xr, .ref xg, .int u.2.2.1, .int u.2.2.2.1, .int u.2.2.2.2, .int dnv])), (xw, .inl (c1, 4096, .inl u.1)), (xr, .inl (c2, 4, .inl rg)), (xg, .inl (c3, 32, .inl u.2.1))] t.heap ∧ va_K (dC, dI) vwCl [(c1, .int), (c2, .int), (c3, .int)] t ∧ va_D (va_A [(x0, .inr (0, [.ref xw, .ref xr, .ref xg, .int pcv, .int trv, .int vav, .int dnv])), (xw, .inl (c1, 4096, .inl wd)), (xr, .inl (c2, 4, .inl rg)), (xg, .inl (c3, 32, .inl rs))] sz) [(x0, .inr (0, [.ref xw, .ref xr, .ref xg, .int u.2.2.1, .int u.2.2.2.1, .int u.2.2.2.2, .int dnv])), (xw, .inl (c1, 4096, .inl u.1)), (xr, .inl (c2, 4, .inl rg)), (xg, .inl (c3, 32, .inl u.2.1))]) (va_A [(x0, .inr (0, [.ref xw, .ref xr, .ref xg, .int pcv, .int trv, .int vav, .int dnv])), (xw, .inl (c1, 4096, .inl wd)), (xr, .inl (c2, 4, .inl rg)), (xg, .inl (c3, 32, .inl rs))] sz)) 0 0 (va_A [(x0, .inr (0, [.ref xw, .ref xr, .ref xg, .int pcv, .int trv, .int vav, .int dnv])), (xw, .inl (c1, 4096, .inl wd)), (xr, .inl (c2, 4, .inl rg)), (xg, .inl (c3, 32, .inl rs))] sz) := by
  refine Met.ofW (cc := cX0_trapWith) (maxL := 3) (ret := (some .boolean)) (by decide) rfl ?_
  intro p e s m args below meth c s₁ B hml hv
  obtain ⟨rfl, hsz, hP, hK, hD0⟩ := hv
  have hx := B.exec
  have hb := B.bytes
  have hr := B.returns
  have hts := atoms_spec (ws := wsX0_trapWith) B.pre
  have hown : s.vm.findClass RX0 = some m.cls := findClass_of_methodNamed B.named
  have hlocks := B.notSynchronized
  subst hsz
  have hD := hD0.self (sz := s.heap.size)
  generalize hAe : va_A [(x0, .inr (0, [.ref xw, .ref xr, .ref xg, .int pcv, .int trv, .int vav, .int dnv])), (xw, .inl (c1, 4096, .inl wd)), (xr, .inl (c2, 4, .inl rg)), (xg, .inl (c3, 32, .inl rs))] s.heap.size = A at hD ⊢
  have hA : ∀ q : Nat, s.heap.size ≤ q → A q := fun q h => by rw [← hAe]; exact Or.inr h
  have hS : va_S A s.heap s.heap [] := va_S.rf
  have hP : va_P (dC, dI) vwCl [(x0, .inr (0, [.ref xw, .ref xr, .ref xg, .int pcv, .int trv, .int vav, .int dnv])), (xw, .inl (c1, 4096, .inl wd)), (xr, .inl (c2, 4, .inl rg)), (xg, .inl (c3, 32, .inl rs))] s.heap := hP
  have hl := lv_entry ([.ref x0, .int a1, .int a2]) (n := 3) (Nat.le_of_ble_eq_true rfl)
  rw [lg_entry_eq]
  generalize (lg_sl ([.ref x0, .int a1, .int a2]) ++ List.replicate (3 - (lg_sl ([.ref x0, .int a1, .int a2])).length) Slot.unset).toArray = ls at hl ⊢
  have hl : lv_has ls 3 [(0, .ref x0), (1, .int a1), (2, .int a2)] := hl
  refine lv_aload_n hx hb dX0_trapWith_0 rfl (lv_at hl 0 rfl) ?_
  refine lv_iload_n hx hb dX0_trapWith_1 rfl (lv_at hl 1 rfl) ?_
  refine va_put (D := (dC, dI)) (ci := 0) (v := .int a1) (ty := .int) (C := RX0) (T := TX0) (N := 7) hx hb hts (gw_lay lay_X0) tyX0 tyX0_ok nmX0 hown hK hP hD hS 0 rfl rfl 4 (by decide) (hts _ (gcons mF_X0_23)) (fun _ h9 => h9) rfl (by decide +kernel) rfl rfl (Nat.le_of_ble_eq_true rfl) dX0_trapWith_2 (fun H locs hP hD hS => ?_)
  have hP : va_P (dC, dI) vwCl [(x0, .inr (0, [.ref xw, .ref xr, .ref xg, .int pcv, .int a1, .int vav, .int dnv])), (xw, .inl (c1, 4096, .inl wd)), (xr, .inl (c2, 4, .inl rg)), (xg, .inl (c3, 32, .inl rs))] H := hP
  have hD : va_D A [(x0, .inr (0, [.ref xw, .ref xr, .ref xg, .int pcv, .int a1, .int vav, .int dnv])), (xw, .inl (c1, 4096, .inl wd)), (xr, .inl (c2, 4, .inl rg)), (xg, .inl (c3, 32, .inl rs))] := hD
  refine lv_aload_n hx hb dX0_trapWith_5 rfl (lv_at hl 0 rfl) ?_
  refine lv_iload_n hx hb dX0_trapWith_6 rfl (lv_at hl 2 rfl) ?_
  refine va_put (D := (dC, dI)) (ci := 0) (v := .int a2) (ty := .int) (C := RX0) (T := TX0) (N := 7) hx hb hts (gw_lay lay_X0) tyX0 tyX0_ok nmX0 hown hK hP hD hS 0 rfl rfl 5 (by decide) (hts _ (gcons mF_X0_26)) (fun _ h9 => h9) rfl (by decide +kernel) rfl rfl (Nat.le_of_ble_eq_true rfl) dX0_trapWith_7 (fun H locs hP hD hS => ?_)
  have hP : va_P (dC, dI) vwCl [(x0, .inr (0, [.ref xw, .ref xr, .ref xg, .int pcv, .int a1, .int a2, .int dnv])), (xw, .inl (c1, 4096, .inl wd)), (xr, .inl (c2, 4, .inl rg)), (xg, .inl (c3, 32, .inl rs))] H := hP
  have hD : va_D A [(x0, .inr (0, [.ref xw, .ref xr, .ref xg, .int pcv, .int a1, .int a2, .int dnv])), (xw, .inl (c1, 4096, .inl wd)), (xr, .inl (c2, 4, .inl rg)), (xg, .inl (c3, 32, .inl rs))] := hD
  refine lv_iconst (v := 0) hx hb dX0_trapWith_10 (by decide) ?_
  exact W.zret (v := 0) (ty := .boolean) hx hb hr rfl (fun t ht hW => ⟨⟨_, (wd, rs, pcv, a1, a2), rfl, ⟨rfl, (by unfold F_trapWith; rfl)⟩, by rw [ht]; exact hP, va_K.moved hW.alike hK, hD⟩, hS.F ht⟩) hS.2.2 dX0_trapWith_11
def F_refuse (wd : Nat → Int32) (rg : Nat → Int32) (rs : Nat → Int32) (pcv : Int32) (trv : Int32) (vav : Int32) (a1 : Int32) : Int32 × (Nat → Int32) × (Nat → Int32) × Int32 × Int32 × Int32 :=
  F_trapWith wd rg rs pcv trv vav 2 a1
set_option maxHeartbeats 4000000 in
set_option maxRecDepth 100000 in
theorem c_refuse (l : Launch) (dC : Nat → ClassId) (dI : Nat → Nat → Nat) (x0 xw xr xg : Nat) (c1 c2 c3 : ClassId) (sz : Nat) (wd : Nat → Int32) (rg : Nat → Int32) (rs : Nat → Int32) (pcv : Int32) (trv : Int32) (vav : Int32) (dnv : Int32) (a1 : Int32)  : Met l yX0_refuse wsX0_refuse ({ frames := 1, cells := 0, slots := 0, locals := 22 }) (va_Pc [.ref x0, .int a1] (fun U => U.heap.size = sz ∧ va_P (dC, dI) vwCl [(x0, .inr (0, [.ref xw, .ref xr, .ref xg, .int pcv, .int trv, .int vav, .int dnv])), (xw, .inl (c1, 4096, .inl wd)), (xr, .inl (c2, 4, .inl rg)), (xg, .inl (c3, 32, .inl rs))] U.heap ∧ va_K (dC, dI) vwCl [(c1, .int), (c2, .int), (c3, .int)] U ∧ va_D (fun _ => True) [(x0, .inr (0, [.ref xw, .ref xr, .ref xg, .int pcv, .int trv, .int vav, .int dnv])), (xw, .inl (c1, 4096, .inl wd)), (xr, .inl (c2, 4, .inl rg)), (xg, .inl (c3, 32, .inl rs))])) (va_Qi (fun (r : Int32) (u : (Nat → Int32) × (Nat → Int32) × Int32 × Int32 × Int32) => narrow .boolean (.int r) = .int r ∧ (r, u) = F_refuse wd rg rs pcv trv vav a1) (fun (u : (Nat → Int32) × (Nat → Int32) × Int32 × Int32 × Int32) (t : State) => va_P (dC, dI) vwCl [(x0, .inr (0, [.ref xw, .ref xr, .ref xg, .int u.2.2.1, .int u.2.2.2.1, .int u.2.2.2.2, .int dnv])), (xw, .inl (c1, 4096, .inl u.1)), (xr, .inl (c2, 4, .inl rg)), (xg, .inl (c3, 32, .inl u.2.1))] t.heap ∧ va_K (dC, dI) vwCl [(c1, .int), (c2, .int), (c3, .int)] t ∧ va_D (va_A [(x0, .inr (0, [.ref xw, .ref xr, .ref xg, .int pcv, .int trv, .int vav, .int dnv])), (xw, .inl (c1, 4096, .inl wd)), (xr, .inl (c2, 4, .inl rg)), (xg, .inl (c3, 32, .inl rs))] sz) [(x0, .inr (0, [.ref xw, .ref xr, .ref xg, .int u.2.2.1, .int u.2.2.2.1, .int u.2.2.2.2, .int dnv])), (xw, .inl (c1, 4096, .inl u.1)), (xr, .inl (c2, 4, .inl rg)), (xg, .inl (c3, 32, .inl u.2.1))]) (va_A [(x0, .inr (0, [.ref xw, .ref xr, .ref xg, .int pcv, .int trv, .int vav, .int dnv])), (xw, .inl (c1, 4096, .inl wd)), (xr, .inl (c2, 4, .inl rg)), (xg, .inl (c3, 32, .inl rs))] sz)) 0 0 (va_A [(x0, .inr (0, [.ref xw, .ref xr, .ref xg, .int pcv, .int trv, .int vav, .int dnv])), (xw, .inl (c1, 4096, .inl wd)), (xr, .inl (c2, 4, .inl rg)), (xg, .inl (c3, 32, .inl rs))] sz) := by
  refine Met.ofW (cc := cX0_refuse) (maxL := 2) (ret := (some .boolean)) (by decide) rfl ?_
  intro p e s m args below meth c s₁ B hml hv
  obtain ⟨rfl, hsz, hP, hK, hD0⟩ := hv
  have hx := B.exec
  have hb := B.bytes
  have hr := B.returns
  have hts := atoms_spec (ws := wsX0_refuse) B.pre
  have hown : s.vm.findClass RX0 = some m.cls := findClass_of_methodNamed B.named
  have hlocks := B.notSynchronized
  subst hsz
  have hD := hD0.self (sz := s.heap.size)
  generalize hAe : va_A [(x0, .inr (0, [.ref xw, .ref xr, .ref xg, .int pcv, .int trv, .int vav, .int dnv])), (xw, .inl (c1, 4096, .inl wd)), (xr, .inl (c2, 4, .inl rg)), (xg, .inl (c3, 32, .inl rs))] s.heap.size = A at hD ⊢
  have hA : ∀ q : Nat, s.heap.size ≤ q → A q := fun q h => by rw [← hAe]; exact Or.inr h
  have hS : va_S A s.heap s.heap [] := va_S.rf
  have hP : va_P (dC, dI) vwCl [(x0, .inr (0, [.ref xw, .ref xr, .ref xg, .int pcv, .int trv, .int vav, .int dnv])), (xw, .inl (c1, 4096, .inl wd)), (xr, .inl (c2, 4, .inl rg)), (xg, .inl (c3, 32, .inl rs))] s.heap := hP
  have hl := lv_entry ([.ref x0, .int a1]) (n := 2) (Nat.le_of_ble_eq_true rfl)
  rw [lg_entry_eq]
  generalize (lg_sl ([.ref x0, .int a1]) ++ List.replicate (2 - (lg_sl ([.ref x0, .int a1])).length) Slot.unset).toArray = ls at hl ⊢
  have hl : lv_has ls 2 [(0, .ref x0), (1, .int a1)] := hl
  refine lv_aload_n hx hb dX0_refuse_0 rfl (lv_at hl 0 rfl) ?_
  refine lv_iconst (v := 2) hx hb dX0_refuse_1 (by decide) ?_
  refine lv_iload_n hx hb dX0_refuse_2 rfl (lv_at hl 1 rfl) ?_
  have hFc := va_free (wc := [(x0, .inr (0, [.ref xw, .ref xr, .ref xg, .int pcv, .int trv, .int vav, .int dnv])), (xw, .inl (c1, 4096, .inl wd)), (xr, .inl (c2, 4, .inl rg)), (xg, .inl (c3, 32, .inl rs))]) hD hS hA [0, 1, 2, 3] rfl
  refine va_calli (va_runV (As := [.int 2, .int a1]) (rest := []) ⟨hx, hb, hml, hown, hts⟩ (c_trapWith l dC dI x0 xw xr xg c1 c2 c3 s.heap.size wd rg rs pcv trv vav dnv 2 a1) (cwV 2 hts (gV mL_X0_66 mI_X0_trapWith mE_X0_trapWith mN_X0 mC_X0_trapWith) rfl rfl rfl (by decide +kernel) ⟨Nat.le_of_ble_eq_true rfl, Nat.le_of_ble_eq_true rfl⟩) ⟨fun a U g mk q => by obtain ⟨q0, q1, qP, qK, qD⟩ := q; exact ⟨q0, q1, qP, va_K.moved (u := U) (U := U.calling g mk a) (Vm.Alike.refl U.vm) qK, qD⟩, va_recv hK hP (ci := 0) (q0 := 0) rfl rfl, fun U hU hW => ⟨rfl, by rw [hU], by rw [hU]; exact hP, va_K.moved hW.alike hK, hD.weaken (fun _ _ _ _ => trivial)⟩⟩ rfl rfl hl.1 rfl (lv_room (Nat.le_of_ble_eq_true rfl)) dX0_refuse_3 ⟨Nat.zero_le _, Nat.zero_le _⟩) hS (fun q _ h => hFc q h) hFc (fun r_1 u t H1 locs ht hvm hw hB hz1 hk1 hS => ?_)
  obtain ⟨b_2, hw⟩ := hw
  obtain ⟨wd_3, rs_4, pcv_5, trv_6, vav_7⟩ := u
  obtain ⟨hP1, hK1, hD1⟩ := hB
  rw [ht] at hP1
  obtain ⟨hP, hD⟩ := va_join (wr := []) (w1 := [(x0, .inr (0, [.ref xw, .ref xr, .ref xg, .int pcv_5, .int trv_6, .int vav_7, .int dnv])), (xw, .inl (c1, 4096, .inl wd_3)), (xr, .inl (c2, 4, .inl rg)), (xg, .inl (c3, 32, .inl rs_4))]) hP hD [0, 1, 2, 3] [] rfl rfl (by decide) (by decide) hk1 hFc hP1 hD1
  generalize H1 = H at hP hS ⊢
  have hP : va_P (dC, dI) vwCl [(x0, .inr (0, [.ref xw, .ref xr, .ref xg, .int pcv_5, .int trv_6, .int vav_7, .int dnv])), (xw, .inl (c1, 4096, .inl wd_3)), (xr, .inl (c2, 4, .inl rg)), (xg, .inl (c3, 32, .inl rs_4))] H := hP
  have hD : va_D A [(x0, .inr (0, [.ref xw, .ref xr, .ref xg, .int pcv_5, .int trv_6, .int vav_7, .int dnv])), (xw, .inl (c1, 4096, .inl wd_3)), (xr, .inl (c2, 4, .inl rg)), (xg, .inl (c3, 32, .inl rs_4))] := hD
  exact W.zret (v := r_1) (ty := .boolean) hx hb hr b_2 (fun t ht hW => ⟨⟨_, (wd_3, rs_4, pcv_5, trv_6, vav_7), rfl, ⟨b_2, (by unfold F_refuse; exact hw)⟩, by rw [ht]; exact hP, va_K.moved hW.alike hK, hD⟩, hS.F ht⟩) hS.2.2 dX0_refuse_6
def F_linkAndGo (wd : Nat → Int32) (rg : Nat → Int32) (rs : Nat → Int32) (pcv : Int32) (trv : Int32) (vav : Int32) (a1 : Int32) (a2 : Int32) : Int32 × (Nat → Int32) × (Nat → Int32) × Int32 × Int32 × Int32 :=
  if (F_isCrooked a2 4) = 0 then
    (1, (wd, F_putRegister rs (F_partD a1) (pcv + 4), a2, trv, vav))
  else
    F_trapWith wd rg rs pcv trv vav 0 a2
set_option maxHeartbeats 4000000 in
set_option maxRecDepth 100000 in
theorem c_linkAndGo (l : Launch) (dC : Nat → ClassId) (dI : Nat → Nat → Nat) (x0 xw xr xg : Nat) (c1 c2 c3 : ClassId) (sz : Nat) (wd : Nat → Int32) (rg : Nat → Int32) (rs : Nat → Int32) (pcv : Int32) (trv : Int32) (vav : Int32) (dnv : Int32) (a1 : Int32) (a2 : Int32)  : Met l yX0_linkAndGo wsX0_linkAndGo ({ frames := 1, cells := 0, slots := 0, locals := 22 }) (va_Pc [.ref x0, .int a1, .int a2] (fun U => U.heap.size = sz ∧ va_P (dC, dI) vwCl [(x0, .inr (0, [.ref xw, .ref xr, .ref xg, .int pcv, .int trv, .int vav, .int dnv])), (xw, .inl (c1, 4096, .inl wd)), (xr, .inl (c2, 4, .inl rg)), (xg, .inl (c3, 32, .inl rs))] U.heap ∧ va_K (dC, dI) vwCl [(c1, .int), (c2, .int), (c3, .int)] U ∧ va_D (fun _ => True) [(x0, .inr (0, [.ref xw, .ref xr, .ref xg, .int pcv, .int trv, .int vav, .int dnv])), (xw, .inl (c1, 4096, .inl wd)), (xr, .inl (c2, 4, .inl rg)), (xg, .inl (c3, 32, .inl rs))])) (va_Qi (fun (r : Int32) (u : (Nat → Int32) × (Nat → Int32) × Int32 × Int32 × Int32) => narrow .boolean (.int r) = .int r ∧ (r, u) = F_linkAndGo wd rg rs pcv trv vav a1 a2) (fun (u : (Nat → Int32) × (Nat → Int32) × Int32 × Int32 × Int32) (t : State) => va_P (dC, dI) vwCl [(x0, .inr (0, [.ref xw, .ref xr, .ref xg, .int u.2.2.1, .int u.2.2.2.1, .int u.2.2.2.2, .int dnv])), (xw, .inl (c1, 4096, .inl u.1)), (xr, .inl (c2, 4, .inl rg)), (xg, .inl (c3, 32, .inl u.2.1))] t.heap ∧ va_K (dC, dI) vwCl [(c1, .int), (c2, .int), (c3, .int)] t ∧ va_D (va_A [(x0, .inr (0, [.ref xw, .ref xr, .ref xg, .int pcv, .int trv, .int vav, .int dnv])), (xw, .inl (c1, 4096, .inl wd)), (xr, .inl (c2, 4, .inl rg)), (xg, .inl (c3, 32, .inl rs))] sz) [(x0, .inr (0, [.ref xw, .ref xr, .ref xg, .int u.2.2.1, .int u.2.2.2.1, .int u.2.2.2.2, .int dnv])), (xw, .inl (c1, 4096, .inl u.1)), (xr, .inl (c2, 4, .inl rg)), (xg, .inl (c3, 32, .inl u.2.1))]) (va_A [(x0, .inr (0, [.ref xw, .ref xr, .ref xg, .int pcv, .int trv, .int vav, .int dnv])), (xw, .inl (c1, 4096, .inl wd)), (xr, .inl (c2, 4, .inl rg)), (xg, .inl (c3, 32, .inl rs))] sz)) 0 0 (va_A [(x0, .inr (0, [.ref xw, .ref xr, .ref xg, .int pcv, .int trv, .int vav, .int dnv])), (xw, .inl (c1, 4096, .inl wd)), (xr, .inl (c2, 4, .inl rg)), (xg, .inl (c3, 32, .inl rs))] sz) := by
  refine Met.ofW (cc := cX0_linkAndGo) (maxL := 3) (ret := (some .boolean)) (by decide) rfl ?_
  intro p e s m args below meth c s₁ B hml hv
  obtain ⟨rfl, hsz, hP, hK, hD0⟩ := hv
  have hx := B.exec
  have hb := B.bytes
  have hr := B.returns
  have hts := atoms_spec (ws := wsX0_linkAndGo) B.pre
  have hown : s.vm.findClass RX0 = some m.cls := findClass_of_methodNamed B.named
  have hlocks := B.notSynchronized
  subst hsz
  have hD := hD0.self (sz := s.heap.size)
  generalize hAe : va_A [(x0, .inr (0, [.ref xw, .ref xr, .ref xg, .int pcv, .int trv, .int vav, .int dnv])), (xw, .inl (c1, 4096, .inl wd)), (xr, .inl (c2, 4, .inl rg)), (xg, .inl (c3, 32, .inl rs))] s.heap.size = A at hD ⊢
  have hA : ∀ q : Nat, s.heap.size ≤ q → A q := fun q h => by rw [← hAe]; exact Or.inr h
  have hS : va_S A s.heap s.heap [] := va_S.rf
  have hP : va_P (dC, dI) vwCl [(x0, .inr (0, [.ref xw, .ref xr, .ref xg, .int pcv, .int trv, .int vav, .int dnv])), (xw, .inl (c1, 4096, .inl wd)), (xr, .inl (c2, 4, .inl rg)), (xg, .inl (c3, 32, .inl rs))] s.heap := hP
  have hl := lv_entry ([.ref x0, .int a1, .int a2]) (n := 3) (Nat.le_of_ble_eq_true rfl)
  rw [lg_entry_eq]
  generalize (lg_sl ([.ref x0, .int a1, .int a2]) ++ List.replicate (3 - (lg_sl ([.ref x0, .int a1, .int a2])).length) Slot.unset).toArray = ls at hl ⊢
  have hl : lv_has ls 3 [(0, .ref x0), (1, .int a1), (2, .int a2)] := hl
  refine lv_iload_n hx hb dX0_linkAndGo_0 rfl (lv_at hl 2 rfl) ?_
  refine lv_iconst (v := 4) hx hb dX0_linkAndGo_1 (by decide) ?_
  refine vp_callSi (W.runS (As := [.int a2, .int 4]) (rest := []) ⟨hx, hb, hml, hown, hts⟩ (c_isCrooked l a2 4) (cwS 2 hts (gS mL_X0_62 mS_X0_isCrooked mN_X0 mC_X0_isCrooked) rfl rfl rfl (by decide +kernel) ⟨Nat.le_of_ble_eq_true rfl, Nat.le_of_ble_eq_true rfl⟩) preEq rfl rfl hl.1 rfl (lv_room (Nat.le_of_ble_eq_true rfl)) dX0_linkAndGo_2 ⟨Nat.zero_le _, Nat.zero_le _⟩) (fun r_1 hw => ?_)
  obtain ⟨b_2, hw⟩ := hw
  subst hw
  refine lv_if_eq (tgt := 15) hx hb dX0_linkAndGo_5 (by decide) (fun c_3 => ?_) (fun c_3 => ?_)
  · refine lv_aload_n hx hb dX0_linkAndGo_15 rfl (lv_at hl 0 rfl) ?_
    refine lv_iload_n hx hb dX0_linkAndGo_16 rfl (lv_at hl 1 rfl) ?_
    refine vp_callSi (W.runS (As := [.int a1]) (rest := [.ref x0]) ⟨hx, hb, hml, hown, hts⟩ (c_partD l a1) (cwS 1 hts (gS mL_X0_154 mS_X0_partD mN_X0 mC_X0_partD) rfl rfl rfl (by decide +kernel) ⟨Nat.le_of_ble_eq_true rfl, Nat.le_of_ble_eq_true rfl⟩) preEq rfl rfl hl.1 rfl (lv_room (Nat.le_of_ble_eq_true rfl)) dX0_linkAndGo_17 ⟨Nat.zero_le _, Nat.zero_le _⟩) (fun r_4 hw => ?_)
    subst hw
    refine lv_aload_n hx hb dX0_linkAndGo_20 rfl (lv_at hl 0 rfl) ?_
    refine va_get (D := (dC, dI)) (ci := 0) (v := .int pcv) (C := RX0) (T := TX0) (N := 7) hx hb hts (gw_lay lay_X0) hown hK hP 0 rfl rfl 3 (by decide) (hts _ (gcons mF_X0_19)) (fun _ h9 => h9) rfl dX0_linkAndGo_21 ?_
    refine lv_iconst (v := 4) hx hb dX0_linkAndGo_24 (by decide) ?_
    refine lv_iadd hx hb dX0_linkAndGo_25 ?_
    have hFc := va_free (wc := [(x0, .inr (0, [.ref xw, .ref xr, .ref xg, .int pcv, .int trv, .int vav, .int dnv])), (xw, .inl (c1, 4096, .inl wd)), (xr, .inl (c2, 4, .inl rg)), (xg, .inl (c3, 32, .inl rs))]) hD hS hA [0, 1, 2, 3] rfl
    refine va_callv (va_runV (As := [.int (F_partD a1), .int (pcv + 4)]) (rest := []) ⟨hx, hb, hml, hown, hts⟩ (c_putRegister l dC dI x0 xw xr xg c1 c2 c3 s.heap.size wd rg rs pcv trv vav dnv (F_partD a1) (pcv + 4)) (cwV 2 hts (gV mL_X0_47 mI_X0_putRegister mE_X0_putRegister mN_X0 mC_X0_putRegister) rfl rfl rfl (by decide +kernel) ⟨Nat.le_of_ble_eq_true rfl, Nat.le_of_ble_eq_true rfl⟩) ⟨fun a U g mk q => by obtain ⟨q0, q1, qP, qK, qD⟩ := q; exact ⟨q0, q1, qP, va_K.moved (u := U) (U := U.calling g mk a) (Vm.Alike.refl U.vm) qK, qD⟩, va_recv hK hP (ci := 0) (q0 := 0) rfl rfl, fun U hU hW => ⟨rfl, by rw [hU], by rw [hU]; exact hP, va_K.moved hW.alike hK, hD.weaken (fun _ _ _ _ => trivial)⟩⟩ rfl rfl hl.1 rfl (lv_room (Nat.le_of_ble_eq_true rfl)) dX0_linkAndGo_26 ⟨Nat.zero_le _, Nat.zero_le _⟩) hS (fun q _ h => hFc q h) hFc (fun u t H1 locs ht hvm hw hB hz1 hk1 hS => ?_)
    subst hw
    obtain ⟨hP1, hK1, hD1⟩ := hB
    rw [ht] at hP1
    obtain ⟨hP, hD⟩ := va_join (wr := []) (w1 := [(x0, .inr (0, [.ref xw, .ref xr, .ref xg, .int pcv, .int trv, .int vav, .int dnv])), (xw, .inl (c1, 4096, .inl wd)), (xr, .inl (c2, 4, .inl rg)), (xg, .inl (c3, 32, .inl (F_putRegister rs (F_partD a1) (pcv + 4))))]) hP hD [0, 1, 2, 3] [] rfl rfl (by decide) (by decide) hk1 hFc hP1 hD1
    generalize H1 = H at hP hS ⊢
    have hP : va_P (dC, dI) vwCl [(x0, .inr (0, [.ref xw, .ref xr, .ref xg, .int pcv, .int trv, .int vav, .int dnv])), (xw, .inl (c1, 4096, .inl wd)), (xr, .inl (c2, 4, .inl rg)), (xg, .inl (c3, 32, .inl (F_putRegister rs (F_partD a1) (pcv + 4))))] H := hP
    have hD : va_D A [(x0, .inr (0, [.ref xw, .ref xr, .ref xg, .int pcv, .int trv, .int vav, .int dnv])), (xw, .inl (c1, 4096, .inl wd)), (xr, .inl (c2, 4, .inl rg)), (xg, .inl (c3, 32, .inl (F_putRegister rs (F_partD a1) (pcv + 4))))] := hD
    refine lv_aload_n hx hb dX0_linkAndGo_29 rfl (lv_at hl 0 rfl) ?_
    refine lv_iload_n hx hb dX0_linkAndGo_30 rfl (lv_at hl 2 rfl) ?_
    refine va_put (D := (dC, dI)) (ci := 0) (v := .int a2) (ty := .int) (C := RX0) (T := TX0) (N := 7) hx hb hts (gw_lay lay_X0) tyX0 tyX0_ok nmX0 hown hK hP hD hS 0 rfl rfl 3 (by decide) (hts _ (gcons mF_X0_19)) (fun _ h9 => h9) rfl (by decide +kernel) rfl rfl (Nat.le_of_ble_eq_true rfl) dX0_linkAndGo_31 (fun H locs hP hD hS => ?_)
    have hP : va_P (dC, dI) vwCl [(x0, .inr (0, [.ref xw, .ref xr, .ref xg, .int a2, .int trv, .int vav, .int dnv])), (xw, .inl (c1, 4096, .inl wd)), (xr, .inl (c2, 4, .inl rg)), (xg, .inl (c3, 32, .inl (F_putRegister rs (F_partD a1) (pcv + 4))))] H := hP
    have hD : va_D A [(x0, .inr (0, [.ref xw, .ref xr, .ref xg, .int a2, .int trv, .int vav, .int dnv])), (xw, .inl (c1, 4096, .inl wd)), (xr, .inl (c2, 4, .inl rg)), (xg, .inl (c3, 32, .inl (F_putRegister rs (F_partD a1) (pcv + 4))))] := hD
    refine lv_iconst (v := 1) hx hb dX0_linkAndGo_34 (by decide) ?_
    exact W.zret (v := 1) (ty := .boolean) hx hb hr rfl (fun t ht hW => ⟨⟨_, (wd, F_putRegister rs (F_partD a1) (pcv + 4), a2, trv, vav), rfl, ⟨rfl, (by unfold F_linkAndGo; rw [if_pos c_3])⟩, by rw [ht]; exact hP, va_K.moved hW.alike hK, hD⟩, hS.F ht⟩) hS.2.2 dX0_linkAndGo_35
  · refine lv_aload_n hx hb dX0_linkAndGo_8 rfl (lv_at hl 0 rfl) ?_
    refine lv_iconst (v := 0) hx hb dX0_linkAndGo_9 (by decide) ?_
    refine lv_iload_n hx hb dX0_linkAndGo_10 rfl (lv_at hl 2 rfl) ?_
    have hFc := va_free (wc := [(x0, .inr (0, [.ref xw, .ref xr, .ref xg, .int pcv, .int trv, .int vav, .int dnv])), (xw, .inl (c1, 4096, .inl wd)), (xr, .inl (c2, 4, .inl rg)), (xg, .inl (c3, 32, .inl rs))]) hD hS hA [0, 1, 2, 3] rfl
    refine va_calli (va_runV (As := [.int 0, .int a2]) (rest := []) ⟨hx, hb, hml, hown, hts⟩ (c_trapWith l dC dI x0 xw xr xg c1 c2 c3 s.heap.size wd rg rs pcv trv vav dnv 0 a2) (cwV 2 hts (gV mL_X0_66 mI_X0_trapWith mE_X0_trapWith mN_X0 mC_X0_trapWith) rfl rfl rfl (by decide +kernel) ⟨Nat.le_of_ble_eq_true rfl, Nat.le_of_ble_eq_true rfl⟩) ⟨fun a U g mk q => by obtain ⟨q0, q1, qP, qK, qD⟩ := q; exact ⟨q0, q1, qP, va_K.moved (u := U) (U := U.calling g mk a) (Vm.Alike.refl U.vm) qK, qD⟩, va_recv hK hP (ci := 0) (q0 := 0) rfl rfl, fun U hU hW => ⟨rfl, by rw [hU], by rw [hU]; exact hP, va_K.moved hW.alike hK, hD.weaken (fun _ _ _ _ => trivial)⟩⟩ rfl rfl hl.1 rfl (lv_room (Nat.le_of_ble_eq_true rfl)) dX0_linkAndGo_11 ⟨Nat.zero_le _, Nat.zero_le _⟩) hS (fun q _ h => hFc q h) hFc (fun r_6 u t H1 locs ht hvm hw hB hz1 hk1 hS => ?_)
    obtain ⟨b_7, hw⟩ := hw
    obtain ⟨wd_8, rs_9, pcv_10, trv_11, vav_12⟩ := u
    obtain ⟨hP1, hK1, hD1⟩ := hB
    rw [ht] at hP1
    obtain ⟨hP, hD⟩ := va_join (wr := []) (w1 := [(x0, .inr (0, [.ref xw, .ref xr, .ref xg, .int pcv_10, .int trv_11, .int vav_12, .int dnv])), (xw, .inl (c1, 4096, .inl wd_8)), (xr, .inl (c2, 4, .inl rg)), (xg, .inl (c3, 32, .inl rs_9))]) hP hD [0, 1, 2, 3] [] rfl rfl (by decide) (by decide) hk1 hFc hP1 hD1
    generalize H1 = H at hP hS ⊢
    have hP : va_P (dC, dI) vwCl [(x0, .inr (0, [.ref xw, .ref xr, .ref xg, .int pcv_10, .int trv_11, .int vav_12, .int dnv])), (xw, .inl (c1, 4096, .inl wd_8)), (xr, .inl (c2, 4, .inl rg)), (xg, .inl (c3, 32, .inl rs_9))] H := hP
    have hD : va_D A [(x0, .inr (0, [.ref xw, .ref xr, .ref xg, .int pcv_10, .int trv_11, .int vav_12, .int dnv])), (xw, .inl (c1, 4096, .inl wd_8)), (xr, .inl (c2, 4, .inl rg)), (xg, .inl (c3, 32, .inl rs_9))] := hD
    exact W.zret (v := r_6) (ty := .boolean) hx hb hr b_7 (fun t ht hW => ⟨⟨_, (wd_8, rs_9, pcv_10, trv_11, vav_12), rfl, ⟨b_7, (by unfold F_linkAndGo; rw [if_neg c_3]; exact hw)⟩, by rw [ht]; exact hP, va_K.moved hW.alike hK, hD⟩, hS.F ht⟩) hS.2.2 dX0_linkAndGo_14
def F_finish (wd : Nat → Int32) (rg : Nat → Int32) (rs : Nat → Int32) (pcv : Int32) (trv : Int32) (vav : Int32) (a1 : Int32) (a2 : Int32) : Int32 × (Nat → Int32) × (Nat → Int32) × Int32 × Int32 × Int32 :=
  (1, (wd, F_putRegister rs (F_partD a1) a2, pcv + 4, trv, vav))
set_option maxHeartbeats 4000000 in
set_option maxRecDepth 100000 in
theorem c_finish (l : Launch) (dC : Nat → ClassId) (dI : Nat → Nat → Nat) (x0 xw xr xg : Nat) (c1 c2 c3 : ClassId) (sz : Nat) (wd : Nat → Int32) (rg : Nat → Int32) (rs : Nat → Int32) (pcv : Int32) (trv : Int32) (vav : Int32) (dnv : Int32) (a1 : Int32) (a2 : Int32)  : Met l yX0_finish wsX0_finish ({ frames := 1, cells := 0, slots := 0, locals := 22 }) (va_Pc [.ref x0, .int a1, .int a2] (fun U => U.heap.size = sz ∧ va_P (dC, dI) vwCl [(x0, .inr (0, [.ref xw, .ref xr, .ref xg, .int pcv, .int trv, .int vav, .int dnv])), (xw, .inl (c1, 4096, .inl wd)), (xr, .inl (c2, 4, .inl rg)), (xg, .inl (c3, 32, .inl rs))] U.heap ∧ va_K (dC, dI) vwCl [(c1, .int), (c2, .int), (c3, .int)] U ∧ va_D (fun _ => True) [(x0, .inr (0, [.ref xw, .ref xr, .ref xg, .int pcv, .int trv, .int vav, .int dnv])), (xw, .inl (c1, 4096, .inl wd)), (xr, .inl (c2, 4, .inl rg)), (xg, .inl (c3, 32, .inl rs))])) (va_Qi (fun (r : Int32) (u : (Nat → Int32) × (Nat → Int32) × Int32 × Int32 × Int32) => narrow .boolean (.int r) = .int r ∧ (r, u) = F_finish wd rg rs pcv trv vav a1 a2) (fun (u : (Nat → Int32) × (Nat → Int32) × Int32 × Int32 × Int32) (t : State) => va_P (dC, dI) vwCl [(x0, .inr (0, [.ref xw, .ref xr, .ref xg, .int u.2.2.1, .int u.2.2.2.1, .int u.2.2.2.2, .int dnv])), (xw, .inl (c1, 4096, .inl u.1)), (xr, .inl (c2, 4, .inl rg)), (xg, .inl (c3, 32, .inl u.2.1))] t.heap ∧ va_K (dC, dI) vwCl [(c1, .int), (c2, .int), (c3, .int)] t ∧ va_D (va_A [(x0, .inr (0, [.ref xw, .ref xr, .ref xg, .int pcv, .int trv, .int vav, .int dnv])), (xw, .inl (c1, 4096, .inl wd)), (xr, .inl (c2, 4, .inl rg)), (xg, .inl (c3, 32, .inl rs))] sz) [(x0, .inr (0, [.ref xw, .ref xr, .ref xg, .int u.2.2.1, .int u.2.2.2.1, .int u.2.2.2.2, .int dnv])), (xw, .inl (c1, 4096, .inl u.1)), (xr, .inl (c2, 4, .inl rg)), (xg, .inl (c3, 32, .inl u.2.1))]) (va_A [(x0, .inr (0, [.ref xw, .ref xr, .ref xg, .int pcv, .int trv, .int vav, .int dnv])), (xw, .inl (c1, 4096, .inl wd)), (xr, .inl (c2, 4, .inl rg)), (xg, .inl (c3, 32, .inl rs))] sz)) 0 0 (va_A [(x0, .inr (0, [.ref xw, .ref xr, .ref xg, .int pcv, .int trv, .int vav, .int dnv])), (xw, .inl (c1, 4096, .inl wd)), (xr, .inl (c2, 4, .inl rg)), (xg, .inl (c3, 32, .inl rs))] sz) := by
  refine Met.ofW (cc := cX0_finish) (maxL := 3) (ret := (some .boolean)) (by decide) rfl ?_
  intro p e s m args below meth c s₁ B hml hv
  obtain ⟨rfl, hsz, hP, hK, hD0⟩ := hv
  have hx := B.exec
  have hb := B.bytes
  have hr := B.returns
  have hts := atoms_spec (ws := wsX0_finish) B.pre
  have hown : s.vm.findClass RX0 = some m.cls := findClass_of_methodNamed B.named
  have hlocks := B.notSynchronized
  subst hsz
  have hD := hD0.self (sz := s.heap.size)
  generalize hAe : va_A [(x0, .inr (0, [.ref xw, .ref xr, .ref xg, .int pcv, .int trv, .int vav, .int dnv])), (xw, .inl (c1, 4096, .inl wd)), (xr, .inl (c2, 4, .inl rg)), (xg, .inl (c3, 32, .inl rs))] s.heap.size = A at hD ⊢
  have hA : ∀ q : Nat, s.heap.size ≤ q → A q := fun q h => by rw [← hAe]; exact Or.inr h
  have hS : va_S A s.heap s.heap [] := va_S.rf
  have hP : va_P (dC, dI) vwCl [(x0, .inr (0, [.ref xw, .ref xr, .ref xg, .int pcv, .int trv, .int vav, .int dnv])), (xw, .inl (c1, 4096, .inl wd)), (xr, .inl (c2, 4, .inl rg)), (xg, .inl (c3, 32, .inl rs))] s.heap := hP
  have hl := lv_entry ([.ref x0, .int a1, .int a2]) (n := 3) (Nat.le_of_ble_eq_true rfl)
  rw [lg_entry_eq]
  generalize (lg_sl ([.ref x0, .int a1, .int a2]) ++ List.replicate (3 - (lg_sl ([.ref x0, .int a1, .int a2])).length) Slot.unset).toArray = ls at hl ⊢
  have hl : lv_has ls 3 [(0, .ref x0), (1, .int a1), (2, .int a2)] := hl
  refine lv_aload_n hx hb dX0_finish_0 rfl (lv_at hl 0 rfl) ?_
  refine lv_iload_n hx hb dX0_finish_1 rfl (lv_at hl 1 rfl) ?_
  refine vp_callSi (W.runS (As := [.int a1]) (rest := [.ref x0]) ⟨hx, hb, hml, hown, hts⟩ (c_partD l a1) (cwS 1 hts (gS mL_X0_154 mS_X0_partD mN_X0 mC_X0_partD) rfl rfl rfl (by decide +kernel) ⟨Nat.le_of_ble_eq_true rfl, Nat.le_of_ble_eq_true rfl⟩) preEq rfl rfl hl.1 rfl (lv_room (Nat.le_of_ble_eq_true rfl)) dX0_finish_2 ⟨Nat.zero_le _, Nat.zero_le _⟩) (fun r_1 hw => ?_)
  subst hw
  refine lv_iload_n hx hb dX0_finish_5 rfl (lv_at hl 2 rfl) ?_
  have hFc := va_free (wc := [(x0, .inr (0, [.ref xw, .ref xr, .ref xg, .int pcv, .int trv, .int vav, .int dnv])), (xw, .inl (c1, 4096, .inl wd)), (xr, .inl (c2, 4, .inl rg)), (xg, .inl (c3, 32, .inl rs))]) hD hS hA [0, 1, 2, 3] rfl
  refine va_callv (va_runV (As := [.int (F_partD a1), .int a2]) (rest := []) ⟨hx, hb, hml, hown, hts⟩ (c_putRegister l dC dI x0 xw xr xg c1 c2 c3 s.heap.size wd rg rs pcv trv vav dnv (F_partD a1) a2) (cwV 2 hts (gV mL_X0_47 mI_X0_putRegister mE_X0_putRegister mN_X0 mC_X0_putRegister) rfl rfl rfl (by decide +kernel) ⟨Nat.le_of_ble_eq_true rfl, Nat.le_of_ble_eq_true rfl⟩) ⟨fun a U g mk q => by obtain ⟨q0, q1, qP, qK, qD⟩ := q; exact ⟨q0, q1, qP, va_K.moved (u := U) (U := U.calling g mk a) (Vm.Alike.refl U.vm) qK, qD⟩, va_recv hK hP (ci := 0) (q0 := 0) rfl rfl, fun U hU hW => ⟨rfl, by rw [hU], by rw [hU]; exact hP, va_K.moved hW.alike hK, hD.weaken (fun _ _ _ _ => trivial)⟩⟩ rfl rfl hl.1 rfl (lv_room (Nat.le_of_ble_eq_true rfl)) dX0_finish_6 ⟨Nat.zero_le _, Nat.zero_le _⟩) hS (fun q _ h => hFc q h) hFc (fun u t H1 locs ht hvm hw hB hz1 hk1 hS => ?_)
  subst hw
  obtain ⟨hP1, hK1, hD1⟩ := hB
  rw [ht] at hP1
  obtain ⟨hP, hD⟩ := va_join (wr := []) (w1 := [(x0, .inr (0, [.ref xw, .ref xr, .ref xg, .int pcv, .int trv, .int vav, .int dnv])), (xw, .inl (c1, 4096, .inl wd)), (xr, .inl (c2, 4, .inl rg)), (xg, .inl (c3, 32, .inl (F_putRegister rs (F_partD a1) a2)))]) hP hD [0, 1, 2, 3] [] rfl rfl (by decide) (by decide) hk1 hFc hP1 hD1
  generalize H1 = H at hP hS ⊢
  have hP : va_P (dC, dI) vwCl [(x0, .inr (0, [.ref xw, .ref xr, .ref xg, .int pcv, .int trv, .int vav, .int dnv])), (xw, .inl (c1, 4096, .inl wd)), (xr, .inl (c2, 4, .inl rg)), (xg, .inl (c3, 32, .inl (F_putRegister rs (F_partD a1) a2)))] H := hP
  have hD : va_D A [(x0, .inr (0, [.ref xw, .ref xr, .ref xg, .int pcv, .int trv, .int vav, .int dnv])), (xw, .inl (c1, 4096, .inl wd)), (xr, .inl (c2, 4, .inl rg)), (xg, .inl (c3, 32, .inl (F_putRegister rs (F_partD a1) a2)))] := hD
  refine lv_aload_n hx hb dX0_finish_9 rfl (lv_at hl 0 rfl) ?_
  refine lv_dup hx hb dX0_finish_10 rfl ?_
  refine va_get (D := (dC, dI)) (ci := 0) (v := .int pcv) (C := RX0) (T := TX0) (N := 7) hx hb hts (gw_lay lay_X0) hown hK hP 0 rfl rfl 3 (by decide) (hts _ (gcons mF_X0_19)) (fun _ h9 => h9) rfl dX0_finish_11 ?_
  refine lv_iconst (v := 4) hx hb dX0_finish_14 (by decide) ?_
  refine lv_iadd hx hb dX0_finish_15 ?_
  refine va_put (D := (dC, dI)) (ci := 0) (v := .int (pcv + 4)) (ty := .int) (C := RX0) (T := TX0) (N := 7) hx hb hts (gw_lay lay_X0) tyX0 tyX0_ok nmX0 hown hK hP hD hS 0 rfl rfl 3 (by decide) (hts _ (gcons mF_X0_19)) (fun _ h9 => h9) rfl (by decide +kernel) rfl rfl (Nat.le_of_ble_eq_true rfl) dX0_finish_16 (fun H locs hP hD hS => ?_)
  have hP : va_P (dC, dI) vwCl [(x0, .inr (0, [.ref xw, .ref xr, .ref xg, .int (pcv + 4), .int trv, .int vav, .int dnv])), (xw, .inl (c1, 4096, .inl wd)), (xr, .inl (c2, 4, .inl rg)), (xg, .inl (c3, 32, .inl (F_putRegister rs (F_partD a1) a2)))] H := hP
  have hD : va_D A [(x0, .inr (0, [.ref xw, .ref xr, .ref xg, .int (pcv + 4), .int trv, .int vav, .int dnv])), (xw, .inl (c1, 4096, .inl wd)), (xr, .inl (c2, 4, .inl rg)), (xg, .inl (c3, 32, .inl (F_putRegister rs (F_partD a1) a2)))] := hD
  refine lv_iconst (v := 1) hx hb dX0_finish_19 (by decide) ?_
  exact W.zret (v := 1) (ty := .boolean) hx hb hr rfl (fun t ht hW => ⟨⟨_, (wd, F_putRegister rs (F_partD a1) a2, pcv + 4, trv, vav), rfl, ⟨rfl, (by unfold F_finish; rfl)⟩, by rw [ht]; exact hP, va_K.moved hW.alike hK, hD⟩, hS.F ht⟩) hS.2.2 dX0_finish_20
