def B_poke (me : Nat → Int32) (a1 : Int32) (a3 : Int64) (j : Nat) (acc : (Nat → Int32)) : (Nat → Int32) :=
  upd (acc) (a1 + (nI j)).toNatClampNeg (vp_nar .byte (((a3 >>> ((8 * (nI j)).toInt64 &&& 63)).toInt32).toInt8.toInt32))
def L_poke (me : Nat → Int32) (a1 : Int32) (a3 : Int64) : Nat → ((Nat → Int32))
  | 0 => me
  | j + 1 => B_poke me a1 a3 j (L_poke me a1 a3 j)
def F_m_poke (me : Nat → Int32) (a1 : Int32) (a2 : Int32) (a3 : Int64) : Int32 × Int32 × (Nat → Int32) :=
  if a2 < 1 then
    (0, (0, me))
  else
    if (8 : Int32) < a2 then
      (0, (0, me))
    else
      if a1 < 0 then
        (0, (0, me))
      else
        if a1 ≤ (16384 - a2) then
          (1, (0, (L_poke me a1 a3 (a2.toNatClampNeg))))
        else
          (0, (0, me))
set_option maxHeartbeats 4000000 in
set_option maxRecDepth 100000 in
theorem c_m_poke (l : Launch) (dC : Nat → ClassId) (dI : Nat → Nat → Nat) (y0 ym yr yg : Nat) (d1 d2 d3 : ClassId) (sz : Nat) (th : Int32) (me : Nat → Int32) (rg : Nat → Int32) (rs : Nat → Int32) (pcv : Int32) (trv : Int32) (vav : Int32) (dnv : Int32) (wv : Int32) (fa : Int32) (wi : Int32) (ne : Int32) (a1 : Int32) (a2 : Int32) (a3 : Int64)  : Met l yX1_poke wsX1_poke ({ frames := 0, cells := 0, slots := 0, locals := 0 }) (va_Pc [.ref y0, .int a1, .int a2, .long a3] (fun U => U.heap.size = sz ∧ va_P (dC, dI) vwCl [(y0, .inr (1, [.int th, .ref ym, .ref yr, .ref yg, .int pcv, .int trv, .int vav, .int dnv, .int wv, .int fa, .int wi, .int ne])), (ym, .inl (d1, 16384, .inl me)), (yr, .inl (d2, 4, .inl rg)), (yg, .inl (d3, 32, .inl rs))] U.heap ∧ va_K (dC, dI) vwCl [(d1, .byte), (d2, .int), (d3, .int)] U ∧ va_D (fun _ => True) [(y0, .inr (1, [.int th, .ref ym, .ref yr, .ref yg, .int pcv, .int trv, .int vav, .int dnv, .int wv, .int fa, .int wi, .int ne])), (ym, .inl (d1, 16384, .inl me)), (yr, .inl (d2, 4, .inl rg)), (yg, .inl (d3, 32, .inl rs))])) (va_Qi (fun (r : Int32) (u : Int32 × (Nat → Int32)) => narrow .boolean (.int r) = .int r ∧ (r, u) = F_m_poke me a1 a2 a3) (fun (u : Int32 × (Nat → Int32)) (t : State) => va_P (dC, dI) vwCl [(y0, .inr (1, [.int u.1, .ref ym, .ref yr, .ref yg, .int pcv, .int trv, .int vav, .int dnv, .int wv, .int fa, .int wi, .int ne])), (ym, .inl (d1, 16384, .inl u.2)), (yr, .inl (d2, 4, .inl rg)), (yg, .inl (d3, 32, .inl rs))] t.heap ∧ va_K (dC, dI) vwCl [(d1, .byte), (d2, .int), (d3, .int)] t ∧ va_D (va_A [(y0, .inr (1, [.int th, .ref ym, .ref yr, .ref yg, .int pcv, .int trv, .int vav, .int dnv, .int wv, .int fa, .int wi, .int ne])), (ym, .inl (d1, 16384, .inl me)), (yr, .inl (d2, 4, .inl rg)), (yg, .inl (d3, 32, .inl rs))] sz) [(y0, .inr (1, [.int u.1, .ref ym, .ref yr, .ref yg, .int pcv, .int trv, .int vav, .int dnv, .int wv, .int fa, .int wi, .int ne])), (ym, .inl (d1, 16384, .inl u.2)), (yr, .inl (d2, 4, .inl rg)), (yg, .inl (d3, 32, .inl rs))]) (va_A [(y0, .inr (1, [.int th, .ref ym, .ref yr, .ref yg, .int pcv, .int trv, .int vav, .int dnv, .int wv, .int fa, .int wi, .int ne])), (ym, .inl (d1, 16384, .inl me)), (yr, .inl (d2, 4, .inl rg)), (yg, .inl (d3, 32, .inl rs))] sz)) 0 0 (va_A [(y0, .inr (1, [.int th, .ref ym, .ref yr, .ref yg, .int pcv, .int trv, .int vav, .int dnv, .int wv, .int fa, .int wi, .int ne])), (ym, .inl (d1, 16384, .inl me)), (yr, .inl (d2, 4, .inl rg)), (yg, .inl (d3, 32, .inl rs))] sz) := by
  refine Met.ofW (cc := cX1_poke) (maxL := 6) (ret := (some .boolean)) (by decide) rfl ?_
  intro p e s m args below meth c s₁ B hml hv
  obtain ⟨rfl, hsz, hP, hK, hD0⟩ := hv
  have hx := B.exec
  have hb := B.bytes
  have hr := B.returns
  have hts := atoms_spec (ws := wsX1_poke) B.pre
  have hown : s.vm.findClass RX1 = some m.cls := findClass_of_methodNamed B.named
  have hlocks := B.notSynchronized
  subst hsz
  have hD := hD0.self (sz := s.heap.size)
  generalize hAe : va_A [(y0, .inr (1, [.int th, .ref ym, .ref yr, .ref yg, .int pcv, .int trv, .int vav, .int dnv, .int wv, .int fa, .int wi, .int ne])), (ym, .inl (d1, 16384, .inl me)), (yr, .inl (d2, 4, .inl rg)), (yg, .inl (d3, 32, .inl rs))] s.heap.size = A at hD ⊢
  have hA : ∀ q : Nat, s.heap.size ≤ q → A q := fun q h => by rw [← hAe]; exact Or.inr h
  have hS : va_S A s.heap s.heap [] := va_S.rf
  have hP : va_P (dC, dI) vwCl [(y0, .inr (1, [.int th, .ref ym, .ref yr, .ref yg, .int pcv, .int trv, .int vav, .int dnv, .int wv, .int fa, .int wi, .int ne])), (ym, .inl (d1, 16384, .inl me)), (yr, .inl (d2, 4, .inl rg)), (yg, .inl (d3, 32, .inl rs))] s.heap := hP
  have hl := lv_entry ([.ref y0, .int a1, .int a2, .long a3]) (n := 6) (Nat.le_of_ble_eq_true rfl)
  rw [lg_entry_eq]
  generalize (lg_sl ([.ref y0, .int a1, .int a2, .long a3]) ++ List.replicate (6 - (lg_sl ([.ref y0, .int a1, .int a2, .long a3])).length) Slot.unset).toArray = ls at hl ⊢
  have hl : lv_has ls 6 [(0, .ref y0), (1, .int a1), (2, .int a2), (3, .long a3)] := hl
  refine lv_aload_n hx hb dX1_poke_0 rfl (lv_at hl 0 rfl) ?_
  refine lv_iconst (v := 0) hx hb dX1_poke_1 (by decide) ?_
  refine va_put (D := (dC, dI)) (ci := 1) (v := .int 0) (ty := .int) (C := RX1) (T := TX1) (N := 12) hx hb hts (gw_lay lay_X1) tyX1 tyX1_ok nmX1 hown hK hP hD hS 0 rfl rfl 0 (by decide) (hts _ (gcons mF_X1_24)) (fun _ h9 => h9) rfl (by decide +kernel) rfl rfl (Nat.le_of_ble_eq_true rfl) dX1_poke_2 (fun H locs hP hD hS => ?_)
  have hP : va_P (dC, dI) vwCl [(y0, .inr (1, [.int 0, .ref ym, .ref yr, .ref yg, .int pcv, .int trv, .int vav, .int dnv, .int wv, .int fa, .int wi, .int ne])), (ym, .inl (d1, 16384, .inl me)), (yr, .inl (d2, 4, .inl rg)), (yg, .inl (d3, 32, .inl rs))] H := hP
  have hD : va_D A [(y0, .inr (1, [.int 0, .ref ym, .ref yr, .ref yg, .int pcv, .int trv, .int vav, .int dnv, .int wv, .int fa, .int wi, .int ne])), (ym, .inl (d1, 16384, .inl me)), (yr, .inl (d2, 4, .inl rg)), (yg, .inl (d3, 32, .inl rs))] := hD
  refine lv_iload_n hx hb dX1_poke_5 rfl (lv_at hl 2 rfl) ?_
  refine lv_iconst (v := 1) hx hb dX1_poke_6 (by decide) ?_
  refine lv_icmp_lt (tgt := 29) hx hb dX1_poke_7 (by decide) (fun c_1 => ?_) (fun c_1 => ?_)
  · refine lv_iconst (v := 0) hx hb dX1_poke_29 (by decide) ?_
    exact W.zret (v := 0) (ty := .boolean) hx hb hr rfl (fun t ht hW => ⟨⟨_, (0, me), rfl, ⟨rfl, (by unfold F_m_poke; first | (rw [if_pos c_1]; done) | (rw [if_pos c_1]; rfl))⟩, by rw [ht]; exact hP, va_K.moved hW.alike hK, hD⟩, hS.F ht⟩) hS.2.2 dX1_poke_30
  · refine lv_iload_n hx hb dX1_poke_10 rfl (lv_at hl 2 rfl) ?_
    refine lv_bipush (v := 8) hx hb dX1_poke_11 (by decide) ?_
    refine lv_icmp_gt (tgt := 29) hx hb dX1_poke_13 (by decide) (fun c_2 => ?_) (fun c_2 => ?_)
    · refine lv_iconst (v := 0) hx hb dX1_poke_29 (by decide) ?_
      exact W.zret (v := 0) (ty := .boolean) hx hb hr rfl (fun t ht hW => ⟨⟨_, (0, me), rfl, ⟨rfl, (by unfold F_m_poke; first | (rw [if_neg c_1, if_pos c_2]; done) | (rw [if_neg c_1, if_pos c_2]; rfl))⟩, by rw [ht]; exact hP, va_K.moved hW.alike hK, hD⟩, hS.F ht⟩) hS.2.2 dX1_poke_30
    · refine lv_iload_n hx hb dX1_poke_16 rfl (lv_at hl 1 rfl) ?_
      refine lv_if_lt (tgt := 29) hx hb dX1_poke_17 (by decide) (fun c_3 => ?_) (fun c_3 => ?_)
      · refine lv_iconst (v := 0) hx hb dX1_poke_29 (by decide) ?_
        exact W.zret (v := 0) (ty := .boolean) hx hb hr rfl (fun t ht hW => ⟨⟨_, (0, me), rfl, ⟨rfl, (by unfold F_m_poke; first | (rw [if_neg c_1, if_neg c_2, if_pos c_3]; done) | (rw [if_neg c_1, if_neg c_2, if_pos c_3]; rfl))⟩, by rw [ht]; exact hP, va_K.moved hW.alike hK, hD⟩, hS.F ht⟩) hS.2.2 dX1_poke_30
      · refine lv_iload_n hx hb dX1_poke_20 rfl (lv_at hl 1 rfl) ?_
        refine lv_sipush (v := 16384) hx hb dX1_poke_21 (by decide) ?_
        refine lv_iload_n hx hb dX1_poke_24 rfl (lv_at hl 2 rfl) ?_
        refine lv_isub hx hb dX1_poke_25 ?_
        refine lv_icmp_le (tgt := 31) hx hb dX1_poke_26 (by decide) (fun c_4 => ?_) (fun c_4 => ?_)
        · refine lv_iconst (v := 0) hx hb dX1_poke_31 (by decide) ?_
          refine lv_istore (lv' := [(5, .int 0), (0, .ref y0), (1, .int a1), (2, .int a2), (3, .long a3)]) hx hb dX1_poke_32 hl (by decide) rfl (fun ls hl => ?_)
          have hl := lv_sub hl [0, 1, 2, 3, 4] rfl
          refine lv_loop (n := a2.toNatClampNeg) (P := fun j H locs ls => va_P (dC, dI) vwCl [(y0, .inr (1, [.int 0, .ref ym, .ref yr, .ref yg, .int pcv, .int trv, .int vav, .int dnv, .int wv, .int fa, .int wi, .int ne])), (ym, .inl (d1, 16384, .inl ((L_poke me a1 a3 j)))), (yr, .inl (d2, 4, .inl rg)), (yg, .inl (d3, 32, .inl rs))] H ∧ va_D A [(y0, .inr (1, [.int 0, .ref ym, .ref yr, .ref yg, .int pcv, .int trv, .int vav, .int dnv, .int wv, .int fa, .int wi, .int ne])), (ym, .inl (d1, 16384, .inl ((L_poke me a1 a3 j)))), (yr, .inl (d2, 4, .inl rg)), (yg, .inl (d3, 32, .inl rs))] ∧ va_S A s.heap H locs ∧ lv_has ls 6 [(5, .int (nI j)), (0, .ref y0), (1, .int a1), (2, .int a2), (3, .long a3)]) (Wg := fun H locs ls => W p l e _ s m _ below meth c H locs 0 0 _ (F0 m 34 ls [])) ?_ (a2.toNatClampNeg) 0 H _ ls (by omega) (Nat.zero_le _) ⟨hP, hD, hS, hl⟩
          rintro j H locs ls hj ⟨hP, hD, hS, hl⟩ ih
          refine lv_iload hx hb dX1_poke_34 (lv_at hl 0 rfl) ?_
          refine lv_iload_n hx hb dX1_poke_36 rfl (lv_at hl 3 rfl) ?_
          refine lv_icmp_ge (tgt := 64) hx hb dX1_poke_37 (by decide) (fun c_5 => ?_) (fun c_5 => ?_)
          · have hjn : j = a2.toNatClampNeg := lp_end hj c_5
            subst hjn
            refine lv_iconst (v := 1) hx hb dX1_poke_64 (by decide) ?_
            exact W.zret (v := 1) (ty := .boolean) hx hb hr rfl (fun t ht hW => ⟨⟨_, (0, (L_poke me a1 a3 (a2.toNatClampNeg))), rfl, ⟨rfl, (by unfold F_m_poke; first | (rw [if_neg c_1, if_neg c_2, if_neg c_3, if_pos c_4]; done) | (rw [if_neg c_1, if_neg c_2, if_neg c_3, if_pos c_4]; rfl))⟩, by rw [ht]; exact hP, va_K.moved hW.alike hK, hD⟩, hS.F ht⟩) hS.2.2 dX1_poke_65
          · have hlt : j < a2.toNatClampNeg := lp_lt hj c_5
            refine lv_aload_n hx hb dX1_poke_40 rfl (lv_at hl 1 rfl) ?_
            refine va_get (D := (dC, dI)) (ci := 1) (v := .ref ym) (C := RX1) (T := TX1) (N := 12) hx hb hts (gw_lay lay_X1) hown hK hP 0 rfl rfl 1 (by decide) (hts _ (gcons mF_X1_7)) (fun _ h9 => h9) rfl dX1_poke_41 ?_
            refine lv_iload_n hx hb dX1_poke_44 rfl (lv_at hl 2 rfl) ?_
            refine lv_iload hx hb dX1_poke_45 (lv_at hl 0 rfl) ?_
            refine lv_iadd hx hb dX1_poke_47 ?_
            refine lv_lload_n hx hb dX1_poke_48 rfl (lv_at hl 4 rfl) ?_
            refine lv_bipush (v := 8) hx hb dX1_poke_49 (by decide) ?_
            refine lv_iload hx hb dX1_poke_51 (lv_at hl 0 rfl) ?_
            refine lv_imul hx hb dX1_poke_53 ?_
            refine lv_lshr (v := a3 >>> ((8 * (nI j)).toInt64 &&& 63)) hx hb dX1_poke_54 rfl ?_
            refine lv_l2i (v := (a3 >>> ((8 * (nI j)).toInt64 &&& 63)).toInt32) hx hb dX1_poke_55 rfl ?_
            refine lv_i2b (v := ((a3 >>> ((8 * (nI j)).toInt64 &&& 63)).toInt32).toInt8.toInt32) hx hb dX1_poke_56 rfl ?_
            refine va_bast hx hb hK hP hD hS 1 0 rfl rfl (in_mpoke c_1 c_2 c_3 c_4 hlt) dX1_poke_57 (fun H locs hP hD hS => ?_)
            have hP : va_P (dC, dI) vwCl [(y0, .inr (1, [.int 0, .ref ym, .ref yr, .ref yg, .int pcv, .int trv, .int vav, .int dnv, .int wv, .int fa, .int wi, .int ne])), (ym, .inl (d1, 16384, .inl (upd ((L_poke me a1 a3 j)) (a1 + (nI j)).toNatClampNeg (vp_nar .byte (((a3 >>> ((8 * (nI j)).toInt64 &&& 63)).toInt32).toInt8.toInt32))))), (yr, .inl (d2, 4, .inl rg)), (yg, .inl (d3, 32, .inl rs))] H := hP
            have hD : va_D A [(y0, .inr (1, [.int 0, .ref ym, .ref yr, .ref yg, .int pcv, .int trv, .int vav, .int dnv, .int wv, .int fa, .int wi, .int ne])), (ym, .inl (d1, 16384, .inl (upd ((L_poke me a1 a3 j)) (a1 + (nI j)).toNatClampNeg (vp_nar .byte (((a3 >>> ((8 * (nI j)).toInt64 &&& 63)).toInt32).toInt8.toInt32))))), (yr, .inl (d2, 4, .inl rg)), (yg, .inl (d3, 32, .inl rs))] := hD
            refine lv_iinc (v := (nI j) + 1) (lv' := [(5, .int ((nI j) + 1)), (0, .ref y0), (1, .int a1), (2, .int a2), (3, .long a3)]) hx hb dX1_poke_58 hl (k := 0) rfl rfl (by decide) rfl (fun ls hl => ?_)
            refine lv_goto (tgt := 34) hx hb dX1_poke_61 (by decide) ?_
            have hl := lv_sub hl [0, 1, 2, 3, 4] rfl
            have hacc : (L_poke me a1 a3 (j + 1)) = upd ((L_poke me a1 a3 j)) (a1 + (nI j)).toNatClampNeg (vp_nar .byte (((a3 >>> ((8 * (nI j)).toInt64 &&& 63)).toInt32).toInt8.toInt32)) := by show B_poke me a1 a3 j (L_poke me a1 a3 j) = _; unfold B_poke; rfl
            rw [nI_1] at hl
            exact ih H locs ls hlt ⟨by rw [hacc]; exact hP, by rw [hacc]; exact hD, hS, by first | exact hl | (rw [hacc]; exact hl)⟩
        · refine lv_iconst (v := 0) hx hb dX1_poke_29 (by decide) ?_
          exact W.zret (v := 0) (ty := .boolean) hx hb hr rfl (fun t ht hW => ⟨⟨_, (0, me), rfl, ⟨rfl, (by unfold F_m_poke; first | (rw [if_neg c_1, if_neg c_2, if_neg c_3, if_neg c_4]; done) | (rw [if_neg c_1, if_neg c_2, if_neg c_3, if_neg c_4]; rfl))⟩, by rw [ht]; exact hP, va_K.moved hW.alike hK, hD⟩, hS.F ht⟩) hS.2.2 dX1_poke_30
def F_m_peek (me : Nat → Int32) (a1 : Int32) : Int32 × Int32 :=
  if a1 < 0 then
    ((-1), 0)
  else
    if (16384 : Int32) ≤ a1 then
      ((-1), 0)
    else
      ((me a1.toNatClampNeg) &&& 255, 0)
set_option maxHeartbeats 4000000 in
set_option maxRecDepth 100000 in
theorem c_m_peek (l : Launch) (dC : Nat → ClassId) (dI : Nat → Nat → Nat) (y0 ym yr yg : Nat) (d1 d2 d3 : ClassId) (sz : Nat) (th : Int32) (me : Nat → Int32) (rg : Nat → Int32) (rs : Nat → Int32) (pcv : Int32) (trv : Int32) (vav : Int32) (dnv : Int32) (wv : Int32) (fa : Int32) (wi : Int32) (ne : Int32) (a1 : Int32)  : Met l yX1_peek wsX1_peek ({ frames := 0, cells := 0, slots := 0, locals := 0 }) (va_Pc [.ref y0, .int a1] (fun U => U.heap.size = sz ∧ va_P (dC, dI) vwCl [(y0, .inr (1, [.int th, .ref ym, .ref yr, .ref yg, .int pcv, .int trv, .int vav, .int dnv, .int wv, .int fa, .int wi, .int ne])), (ym, .inl (d1, 16384, .inl me)), (yr, .inl (d2, 4, .inl rg)), (yg, .inl (d3, 32, .inl rs))] U.heap ∧ va_K (dC, dI) vwCl [(d1, .byte), (d2, .int), (d3, .int)] U ∧ va_D (fun _ => True) [(y0, .inr (1, [.int th, .ref ym, .ref yr, .ref yg, .int pcv, .int trv, .int vav, .int dnv, .int wv, .int fa, .int wi, .int ne])), (ym, .inl (d1, 16384, .inl me)), (yr, .inl (d2, 4, .inl rg)), (yg, .inl (d3, 32, .inl rs))])) (va_Qi (fun (r : Int32) (u : Int32) => (r, u) = F_m_peek me a1) (fun (u : Int32) (t : State) => va_P (dC, dI) vwCl [(y0, .inr (1, [.int u, .ref ym, .ref yr, .ref yg, .int pcv, .int trv, .int vav, .int dnv, .int wv, .int fa, .int wi, .int ne])), (ym, .inl (d1, 16384, .inl me)), (yr, .inl (d2, 4, .inl rg)), (yg, .inl (d3, 32, .inl rs))] t.heap ∧ va_K (dC, dI) vwCl [(d1, .byte), (d2, .int), (d3, .int)] t ∧ va_D (va_A [(y0, .inr (1, [.int th, .ref ym, .ref yr, .ref yg, .int pcv, .int trv, .int vav, .int dnv, .int wv, .int fa, .int wi, .int ne])), (ym, .inl (d1, 16384, .inl me)), (yr, .inl (d2, 4, .inl rg)), (yg, .inl (d3, 32, .inl rs))] sz) [(y0, .inr (1, [.int u, .ref ym, .ref yr, .ref yg, .int pcv, .int trv, .int vav, .int dnv, .int wv, .int fa, .int wi, .int ne])), (ym, .inl (d1, 16384, .inl me)), (yr, .inl (d2, 4, .inl rg)), (yg, .inl (d3, 32, .inl rs))]) (va_A [(y0, .inr (1, [.int th, .ref ym, .ref yr, .ref yg, .int pcv, .int trv, .int vav, .int dnv, .int wv, .int fa, .int wi, .int ne])), (ym, .inl (d1, 16384, .inl me)), (yr, .inl (d2, 4, .inl rg)), (yg, .inl (d3, 32, .inl rs))] sz)) 0 0 (va_A [(y0, .inr (1, [.int th, .ref ym, .ref yr, .ref yg, .int pcv, .int trv, .int vav, .int dnv, .int wv, .int fa, .int wi, .int ne])), (ym, .inl (d1, 16384, .inl me)), (yr, .inl (d2, 4, .inl rg)), (yg, .inl (d3, 32, .inl rs))] sz) := by
  refine Met.ofW (cc := cX1_peek) (maxL := 2) (ret := (some .int)) (by decide) rfl ?_
  intro p e s m args below meth c s₁ B hml hv
  obtain ⟨rfl, hsz, hP, hK, hD0⟩ := hv
  have hx := B.exec
  have hb := B.bytes
  have hr := B.returns
  have hts := atoms_spec (ws := wsX1_peek) B.pre
  have hown : s.vm.findClass RX1 = some m.cls := findClass_of_methodNamed B.named
  have hlocks := B.notSynchronized
  subst hsz
  have hD := hD0.self (sz := s.heap.size)
  generalize hAe : va_A [(y0, .inr (1, [.int th, .ref ym, .ref yr, .ref yg, .int pcv, .int trv, .int vav, .int dnv, .int wv, .int fa, .int wi, .int ne])), (ym, .inl (d1, 16384, .inl me)), (yr, .inl (d2, 4, .inl rg)), (yg, .inl (d3, 32, .inl rs))] s.heap.size = A at hD ⊢
  have hA : ∀ q : Nat, s.heap.size ≤ q → A q := fun q h => by rw [← hAe]; exact Or.inr h
  have hS : va_S A s.heap s.heap [] := va_S.rf
  have hP : va_P (dC, dI) vwCl [(y0, .inr (1, [.int th, .ref ym, .ref yr, .ref yg, .int pcv, .int trv, .int vav, .int dnv, .int wv, .int fa, .int wi, .int ne])), (ym, .inl (d1, 16384, .inl me)), (yr, .inl (d2, 4, .inl rg)), (yg, .inl (d3, 32, .inl rs))] s.heap := hP
  have hl := lv_entry ([.ref y0, .int a1]) (n := 2) (Nat.le_of_ble_eq_true rfl)
  rw [lg_entry_eq]
  generalize (lg_sl ([.ref y0, .int a1]) ++ List.replicate (2 - (lg_sl ([.ref y0, .int a1])).length) Slot.unset).toArray = ls at hl ⊢
  have hl : lv_has ls 2 [(0, .ref y0), (1, .int a1)] := hl
  refine lv_aload_n hx hb dX1_peek_0 rfl (lv_at hl 0 rfl) ?_
  refine lv_iconst (v := 0) hx hb dX1_peek_1 (by decide) ?_
  refine va_put (D := (dC, dI)) (ci := 1) (v := .int 0) (ty := .int) (C := RX1) (T := TX1) (N := 12) hx hb hts (gw_lay lay_X1) tyX1 tyX1_ok nmX1 hown hK hP hD hS 0 rfl rfl 0 (by decide) (hts _ (gcons mF_X1_24)) (fun _ h9 => h9) rfl (by decide +kernel) rfl rfl (Nat.le_of_ble_eq_true rfl) dX1_peek_2 (fun H locs hP hD hS => ?_)
  have hP : va_P (dC, dI) vwCl [(y0, .inr (1, [.int 0, .ref ym, .ref yr, .ref yg, .int pcv, .int trv, .int vav, .int dnv, .int wv, .int fa, .int wi, .int ne])), (ym, .inl (d1, 16384, .inl me)), (yr, .inl (d2, 4, .inl rg)), (yg, .inl (d3, 32, .inl rs))] H := hP
  have hD : va_D A [(y0, .inr (1, [.int 0, .ref ym, .ref yr, .ref yg, .int pcv, .int trv, .int vav, .int dnv, .int wv, .int fa, .int wi, .int ne])), (ym, .inl (d1, 16384, .inl me)), (yr, .inl (d2, 4, .inl rg)), (yg, .inl (d3, 32, .inl rs))] := hD
  refine lv_iload_n hx hb dX1_peek_5 rfl (lv_at hl 1 rfl) ?_
  refine lv_if_lt (tgt := 29) hx hb dX1_peek_6 (by decide) (fun c_1 => ?_) (fun c_1 => ?_)
  · refine lv_iconst (v := (-1)) hx hb dX1_peek_29 (by decide) ?_
    exact W.iret (v := (-1)) hx hb hr (fun t ht hW => ⟨⟨_, 0, rfl, (by unfold F_m_peek; first | (rw [if_pos c_1]; done) | (rw [if_pos c_1]; rfl)), by rw [ht]; exact hP, va_K.moved hW.alike hK, hD⟩, hS.F ht⟩) hS.2.2 dX1_peek_30
  · refine lv_iload_n hx hb dX1_peek_9 rfl (lv_at hl 1 rfl) ?_
    refine lv_sipush (v := 16384) hx hb dX1_peek_10 (by decide) ?_
    refine lv_icmp_ge (tgt := 29) hx hb dX1_peek_13 (by decide) (fun c_2 => ?_) (fun c_2 => ?_)
    · refine lv_iconst (v := (-1)) hx hb dX1_peek_29 (by decide) ?_
      exact W.iret (v := (-1)) hx hb hr (fun t ht hW => ⟨⟨_, 0, rfl, (by unfold F_m_peek; first | (rw [if_neg c_1, if_pos c_2]; done) | (rw [if_neg c_1, if_pos c_2]; rfl)), by rw [ht]; exact hP, va_K.moved hW.alike hK, hD⟩, hS.F ht⟩) hS.2.2 dX1_peek_30
    · refine lv_aload_n hx hb dX1_peek_16 rfl (lv_at hl 0 rfl) ?_
      refine va_get (D := (dC, dI)) (ci := 1) (v := .ref ym) (C := RX1) (T := TX1) (N := 12) hx hb hts (gw_lay lay_X1) hown hK hP 0 rfl rfl 1 (by decide) (hts _ (gcons mF_X1_7)) (fun _ h9 => h9) rfl dX1_peek_17 ?_
      refine lv_iload_n hx hb dX1_peek_20 rfl (lv_at hl 1 rfl) ?_
      refine va_bald hx hb hK hP 1 0 rfl rfl (in_mpeek c_1 c_2) dX1_peek_21 ?_
      refine lv_sipush (v := 255) hx hb dX1_peek_22 (by decide) ?_
      refine lv_iand hx hb dX1_peek_25 ?_
      refine lv_goto (tgt := 30) hx hb dX1_peek_26 (by decide) ?_
      exact W.iret (v := (me a1.toNatClampNeg) &&& 255) hx hb hr (fun t ht hW => ⟨⟨_, 0, rfl, (by unfold F_m_peek; first | (rw [if_neg c_1, if_neg c_2]; done) | (rw [if_neg c_1, if_neg c_2]; rfl)), by rw [ht]; exact hP, va_K.moved hW.alike hK, hD⟩, hS.F ht⟩) hS.2.2 dX1_peek_30
def F_m_protect (rg : Nat → Int32) (a1 : Int32) (a2 : Int32) : Int32 × Int32 × (Nat → Int32) :=
  if a1 < 0 then
    (0, (0, rg))
  else
    if (3 : Int32) < a1 then
      (0, (0, rg))
    else
      if a2 < 0 then
        (0, (0, rg))
      else
        if a2 ≤ 7 then
          (1, (0, upd rg a1.toNatClampNeg a2))
        else
          (0, (0, rg))
set_option maxHeartbeats 4000000 in
set_option maxRecDepth 100000 in
theorem c_m_protect (l : Launch) (dC : Nat → ClassId) (dI : Nat → Nat → Nat) (y0 ym yr yg : Nat) (d1 d2 d3 : ClassId) (sz : Nat) (th : Int32) (me : Nat → Int32) (rg : Nat → Int32) (rs : Nat → Int32) (pcv : Int32) (trv : Int32) (vav : Int32) (dnv : Int32) (wv : Int32) (fa : Int32) (wi : Int32) (ne : Int32) (a1 : Int32) (a2 : Int32)  : Met l yX1_protect wsX1_protect ({ frames := 0, cells := 0, slots := 0, locals := 0 }) (va_Pc [.ref y0, .int a1, .int a2] (fun U => U.heap.size = sz ∧ va_P (dC, dI) vwCl [(y0, .inr (1, [.int th, .ref ym, .ref yr, .ref yg, .int pcv, .int trv, .int vav, .int dnv, .int wv, .int fa, .int wi, .int ne])), (ym, .inl (d1, 16384, .inl me)), (yr, .inl (d2, 4, .inl rg)), (yg, .inl (d3, 32, .inl rs))] U.heap ∧ va_K (dC, dI) vwCl [(d1, .byte), (d2, .int), (d3, .int)] U ∧ va_D (fun _ => True) [(y0, .inr (1, [.int th, .ref ym, .ref yr, .ref yg, .int pcv, .int trv, .int vav, .int dnv, .int wv, .int fa, .int wi, .int ne])), (ym, .inl (d1, 16384, .inl me)), (yr, .inl (d2, 4, .inl rg)), (yg, .inl (d3, 32, .inl rs))])) (va_Qi (fun (r : Int32) (u : Int32 × (Nat → Int32)) => narrow .boolean (.int r) = .int r ∧ (r, u) = F_m_protect rg a1 a2) (fun (u : Int32 × (Nat → Int32)) (t : State) => va_P (dC, dI) vwCl [(y0, .inr (1, [.int u.1, .ref ym, .ref yr, .ref yg, .int pcv, .int trv, .int vav, .int dnv, .int wv, .int fa, .int wi, .int ne])), (ym, .inl (d1, 16384, .inl me)), (yr, .inl (d2, 4, .inl u.2)), (yg, .inl (d3, 32, .inl rs))] t.heap ∧ va_K (dC, dI) vwCl [(d1, .byte), (d2, .int), (d3, .int)] t ∧ va_D (va_A [(y0, .inr (1, [.int th, .ref ym, .ref yr, .ref yg, .int pcv, .int trv, .int vav, .int dnv, .int wv, .int fa, .int wi, .int ne])), (ym, .inl (d1, 16384, .inl me)), (yr, .inl (d2, 4, .inl rg)), (yg, .inl (d3, 32, .inl rs))] sz) [(y0, .inr (1, [.int u.1, .ref ym, .ref yr, .ref yg, .int pcv, .int trv, .int vav, .int dnv, .int wv, .int fa, .int wi, .int ne])), (ym, .inl (d1, 16384, .inl me)), (yr, .inl (d2, 4, .inl u.2)), (yg, .inl (d3, 32, .inl rs))]) (va_A [(y0, .inr (1, [.int th, .ref ym, .ref yr, .ref yg, .int pcv, .int trv, .int vav, .int dnv, .int wv, .int fa, .int wi, .int ne])), (ym, .inl (d1, 16384, .inl me)), (yr, .inl (d2, 4, .inl rg)), (yg, .inl (d3, 32, .inl rs))] sz)) 0 0 (va_A [(y0, .inr (1, [.int th, .ref ym, .ref yr, .ref yg, .int pcv, .int trv, .int vav, .int dnv, .int wv, .int fa, .int wi, .int ne])), (ym, .inl (d1, 16384, .inl me)), (yr, .inl (d2, 4, .inl rg)), (yg, .inl (d3, 32, .inl rs))] sz) := by
  refine Met.ofW (cc := cX1_protect) (maxL := 3) (ret := (some .boolean)) (by decide) rfl ?_
  intro p e s m args below meth c s₁ B hml hv
  obtain ⟨rfl, hsz, hP, hK, hD0⟩ := hv
  have hx := B.exec
  have hb := B.bytes
  have hr := B.returns
  have hts := atoms_spec (ws := wsX1_protect) B.pre
  have hown : s.vm.findClass RX1 = some m.cls := findClass_of_methodNamed B.named
  have hlocks := B.notSynchronized
  subst hsz
  have hD := hD0.self (sz := s.heap.size)
  generalize hAe : va_A [(y0, .inr (1, [.int th, .ref ym, .ref yr, .ref yg, .int pcv, .int trv, .int vav, .int dnv, .int wv, .int fa, .int wi, .int ne])), (ym, .inl (d1, 16384, .inl me)), (yr, .inl (d2, 4, .inl rg)), (yg, .inl (d3, 32, .inl rs))] s.heap.size = A at hD ⊢
  have hA : ∀ q : Nat, s.heap.size ≤ q → A q := fun q h => by rw [← hAe]; exact Or.inr h
  have hS : va_S A s.heap s.heap [] := va_S.rf
  have hP : va_P (dC, dI) vwCl [(y0, .inr (1, [.int th, .ref ym, .ref yr, .ref yg, .int pcv, .int trv, .int vav, .int dnv, .int wv, .int fa, .int wi, .int ne])), (ym, .inl (d1, 16384, .inl me)), (yr, .inl (d2, 4, .inl rg)), (yg, .inl (d3, 32, .inl rs))] s.heap := hP
  have hl := lv_entry ([.ref y0, .int a1, .int a2]) (n := 3) (Nat.le_of_ble_eq_true rfl)
  rw [lg_entry_eq]
  generalize (lg_sl ([.ref y0, .int a1, .int a2]) ++ List.replicate (3 - (lg_sl ([.ref y0, .int a1, .int a2])).length) Slot.unset).toArray = ls at hl ⊢
  have hl : lv_has ls 3 [(0, .ref y0), (1, .int a1), (2, .int a2)] := hl
  refine lv_aload_n hx hb dX1_protect_0 rfl (lv_at hl 0 rfl) ?_
  refine lv_iconst (v := 0) hx hb dX1_protect_1 (by decide) ?_
  refine va_put (D := (dC, dI)) (ci := 1) (v := .int 0) (ty := .int) (C := RX1) (T := TX1) (N := 12) hx hb hts (gw_lay lay_X1) tyX1 tyX1_ok nmX1 hown hK hP hD hS 0 rfl rfl 0 (by decide) (hts _ (gcons mF_X1_24)) (fun _ h9 => h9) rfl (by decide +kernel) rfl rfl (Nat.le_of_ble_eq_true rfl) dX1_protect_2 (fun H locs hP hD hS => ?_)
  have hP : va_P (dC, dI) vwCl [(y0, .inr (1, [.int 0, .ref ym, .ref yr, .ref yg, .int pcv, .int trv, .int vav, .int dnv, .int wv, .int fa, .int wi, .int ne])), (ym, .inl (d1, 16384, .inl me)), (yr, .inl (d2, 4, .inl rg)), (yg, .inl (d3, 32, .inl rs))] H := hP
  have hD : va_D A [(y0, .inr (1, [.int 0, .ref ym, .ref yr, .ref yg, .int pcv, .int trv, .int vav, .int dnv, .int wv, .int fa, .int wi, .int ne])), (ym, .inl (d1, 16384, .inl me)), (yr, .inl (d2, 4, .inl rg)), (yg, .inl (d3, 32, .inl rs))] := hD
  refine lv_iload_n hx hb dX1_protect_5 rfl (lv_at hl 1 rfl) ?_
  refine lv_if_lt (tgt := 24) hx hb dX1_protect_6 (by decide) (fun c_1 => ?_) (fun c_1 => ?_)
  · refine lv_iconst (v := 0) hx hb dX1_protect_24 (by decide) ?_
    exact W.zret (v := 0) (ty := .boolean) hx hb hr rfl (fun t ht hW => ⟨⟨_, (0, rg), rfl, ⟨rfl, (by unfold F_m_protect; first | (rw [if_pos c_1]; done) | (rw [if_pos c_1]; rfl))⟩, by rw [ht]; exact hP, va_K.moved hW.alike hK, hD⟩, hS.F ht⟩) hS.2.2 dX1_protect_25
  · refine lv_iload_n hx hb dX1_protect_9 rfl (lv_at hl 1 rfl) ?_
    refine lv_iconst (v := 3) hx hb dX1_protect_10 (by decide) ?_
    refine lv_icmp_gt (tgt := 24) hx hb dX1_protect_11 (by decide) (fun c_2 => ?_) (fun c_2 => ?_)
    · refine lv_iconst (v := 0) hx hb dX1_protect_24 (by decide) ?_
      exact W.zret (v := 0) (ty := .boolean) hx hb hr rfl (fun t ht hW => ⟨⟨_, (0, rg), rfl, ⟨rfl, (by unfold F_m_protect; first | (rw [if_neg c_1, if_pos c_2]; done) | (rw [if_neg c_1, if_pos c_2]; rfl))⟩, by rw [ht]; exact hP, va_K.moved hW.alike hK, hD⟩, hS.F ht⟩) hS.2.2 dX1_protect_25
    · refine lv_iload_n hx hb dX1_protect_14 rfl (lv_at hl 2 rfl) ?_
      refine lv_if_lt (tgt := 24) hx hb dX1_protect_15 (by decide) (fun c_3 => ?_) (fun c_3 => ?_)
      · refine lv_iconst (v := 0) hx hb dX1_protect_24 (by decide) ?_
        exact W.zret (v := 0) (ty := .boolean) hx hb hr rfl (fun t ht hW => ⟨⟨_, (0, rg), rfl, ⟨rfl, (by unfold F_m_protect; first | (rw [if_neg c_1, if_neg c_2, if_pos c_3]; done) | (rw [if_neg c_1, if_neg c_2, if_pos c_3]; rfl))⟩, by rw [ht]; exact hP, va_K.moved hW.alike hK, hD⟩, hS.F ht⟩) hS.2.2 dX1_protect_25
      · refine lv_iload_n hx hb dX1_protect_18 rfl (lv_at hl 2 rfl) ?_
        refine lv_bipush (v := 7) hx hb dX1_protect_19 (by decide) ?_
        refine lv_icmp_le (tgt := 26) hx hb dX1_protect_21 (by decide) (fun c_4 => ?_) (fun c_4 => ?_)
        · refine lv_aload_n hx hb dX1_protect_26 rfl (lv_at hl 0 rfl) ?_
          refine va_get (D := (dC, dI)) (ci := 1) (v := .ref yr) (C := RX1) (T := TX1) (N := 12) hx hb hts (gw_lay lay_X1) hown hK hP 0 rfl rfl 2 (by decide) (hts _ (gcons mF_X1_13)) (fun _ h9 => h9) rfl dX1_protect_27 ?_
          refine lv_iload_n hx hb dX1_protect_30 rfl (lv_at hl 1 rfl) ?_
          refine lv_iload_n hx hb dX1_protect_31 rfl (lv_at hl 2 rfl) ?_
          refine va_iast hx hb hK hP hD hS 2 1 rfl rfl (in_mpage c_1 c_2) dX1_protect_32 (fun H locs hP hD hS => ?_)
          have hP : va_P (dC, dI) vwCl [(y0, .inr (1, [.int 0, .ref ym, .ref yr, .ref yg, .int pcv, .int trv, .int vav, .int dnv, .int wv, .int fa, .int wi, .int ne])), (ym, .inl (d1, 16384, .inl me)), (yr, .inl (d2, 4, .inl (upd rg a1.toNatClampNeg a2))), (yg, .inl (d3, 32, .inl rs))] H := hP
          have hD : va_D A [(y0, .inr (1, [.int 0, .ref ym, .ref yr, .ref yg, .int pcv, .int trv, .int vav, .int dnv, .int wv, .int fa, .int wi, .int ne])), (ym, .inl (d1, 16384, .inl me)), (yr, .inl (d2, 4, .inl (upd rg a1.toNatClampNeg a2))), (yg, .inl (d3, 32, .inl rs))] := hD
          refine lv_iconst (v := 1) hx hb dX1_protect_33 (by decide) ?_
          exact W.zret (v := 1) (ty := .boolean) hx hb hr rfl (fun t ht hW => ⟨⟨_, (0, upd rg a1.toNatClampNeg a2), rfl, ⟨rfl, (by unfold F_m_protect; first | (rw [if_neg c_1, if_neg c_2, if_neg c_3, if_pos c_4]; done) | (rw [if_neg c_1, if_neg c_2, if_neg c_3, if_pos c_4]; rfl))⟩, by rw [ht]; exact hP, va_K.moved hW.alike hK, hD⟩, hS.F ht⟩) hS.2.2 dX1_protect_34
        · refine lv_iconst (v := 0) hx hb dX1_protect_24 (by decide) ?_
          exact W.zret (v := 0) (ty := .boolean) hx hb hr rfl (fun t ht hW => ⟨⟨_, (0, rg), rfl, ⟨rfl, (by unfold F_m_protect; first | (rw [if_neg c_1, if_neg c_2, if_neg c_3, if_neg c_4]; done) | (rw [if_neg c_1, if_neg c_2, if_neg c_3, if_neg c_4]; rfl))⟩, by rw [ht]; exact hP, va_K.moved hW.alike hK, hD⟩, hS.F ht⟩) hS.2.2 dX1_protect_25
def F_m_set (rs : Nat → Int32) (a1 : Int32) (a2 : Int32) : Int32 × Int32 × (Nat → Int32) :=
  if a1 < 0 then
    (0, (0, rs))
  else
    if a1 ≤ 31 then
      if a1 = 0 then
        (1, (0, upd rs a1.toNatClampNeg 0))
      else
        (1, (0, upd rs a1.toNatClampNeg a2))
    else
      (0, (0, rs))
set_option maxHeartbeats 4000000 in
set_option maxRecDepth 100000 in
theorem c_m_set (l : Launch) (dC : Nat → ClassId) (dI : Nat → Nat → Nat) (y0 ym yr yg : Nat) (d1 d2 d3 : ClassId) (sz : Nat) (th : Int32) (me : Nat → Int32) (rg : Nat → Int32) (rs : Nat → Int32) (pcv : Int32) (trv : Int32) (vav : Int32) (dnv : Int32) (wv : Int32) (fa : Int32) (wi : Int32) (ne : Int32) (a1 : Int32) (a2 : Int32)  : Met l yX1_set wsX1_set ({ frames := 0, cells := 0, slots := 0, locals := 0 }) (va_Pc [.ref y0, .int a1, .int a2] (fun U => U.heap.size = sz ∧ va_P (dC, dI) vwCl [(y0, .inr (1, [.int th, .ref ym, .ref yr, .ref yg, .int pcv, .int trv, .int vav, .int dnv, .int wv, .int fa, .int wi, .int ne])), (ym, .inl (d1, 16384, .inl me)), (yr, .inl (d2, 4, .inl rg)), (yg, .inl (d3, 32, .inl rs))] U.heap ∧ va_K (dC, dI) vwCl [(d1, .byte), (d2, .int), (d3, .int)] U ∧ va_D (fun _ => True) [(y0, .inr (1, [.int th, .ref ym, .ref yr, .ref yg, .int pcv, .int trv, .int vav, .int dnv, .int wv, .int fa, .int wi, .int ne])), (ym, .inl (d1, 16384, .inl me)), (yr, .inl (d2, 4, .inl rg)), (yg, .inl (d3, 32, .inl rs))])) (va_Qi (fun (r : Int32) (u : Int32 × (Nat → Int32)) => narrow .boolean (.int r) = .int r ∧ (r, u) = F_m_set rs a1 a2) (fun (u : Int32 × (Nat → Int32)) (t : State) => va_P (dC, dI) vwCl [(y0, .inr (1, [.int u.1, .ref ym, .ref yr, .ref yg, .int pcv, .int trv, .int vav, .int dnv, .int wv, .int fa, .int wi, .int ne])), (ym, .inl (d1, 16384, .inl me)), (yr, .inl (d2, 4, .inl rg)), (yg, .inl (d3, 32, .inl u.2))] t.heap ∧ va_K (dC, dI) vwCl [(d1, .byte), (d2, .int), (d3, .int)] t ∧ va_D (va_A [(y0, .inr (1, [.int th, .ref ym, .ref yr, .ref yg, .int pcv, .int trv, .int vav, .int dnv, .int wv, .int fa, .int wi, .int ne])), (ym, .inl (d1, 16384, .inl me)), (yr, .inl (d2, 4, .inl rg)), (yg, .inl (d3, 32, .inl rs))] sz) [(y0, .inr (1, [.int u.1, .ref ym, .ref yr, .ref yg, .int pcv, .int trv, .int vav, .int dnv, .int wv, .int fa, .int wi, .int ne])), (ym, .inl (d1, 16384, .inl me)), (yr, .inl (d2, 4, .inl rg)), (yg, .inl (d3, 32, .inl u.2))]) (va_A [(y0, .inr (1, [.int th, .ref ym, .ref yr, .ref yg, .int pcv, .int trv, .int vav, .int dnv, .int wv, .int fa, .int wi, .int ne])), (ym, .inl (d1, 16384, .inl me)), (yr, .inl (d2, 4, .inl rg)), (yg, .inl (d3, 32, .inl rs))] sz)) 0 0 (va_A [(y0, .inr (1, [.int th, .ref ym, .ref yr, .ref yg, .int pcv, .int trv, .int vav, .int dnv, .int wv, .int fa, .int wi, .int ne])), (ym, .inl (d1, 16384, .inl me)), (yr, .inl (d2, 4, .inl rg)), (yg, .inl (d3, 32, .inl rs))] sz) := by
  refine Met.ofW (cc := cX1_set) (maxL := 3) (ret := (some .boolean)) (by decide) rfl ?_
  intro p e s m args below meth c s₁ B hml hv
  obtain ⟨rfl, hsz, hP, hK, hD0⟩ := hv
  have hx := B.exec
  have hb := B.bytes
  have hr := B.returns
  have hts := atoms_spec (ws := wsX1_set) B.pre
  have hown : s.vm.findClass RX1 = some m.cls := findClass_of_methodNamed B.named
  have hlocks := B.notSynchronized
  subst hsz
  have hD := hD0.self (sz := s.heap.size)
  generalize hAe : va_A [(y0, .inr (1, [.int th, .ref ym, .ref yr, .ref yg, .int pcv, .int trv, .int vav, .int dnv, .int wv, .int fa, .int wi, .int ne])), (ym, .inl (d1, 16384, .inl me)), (yr, .inl (d2, 4, .inl rg)), (yg, .inl (d3, 32, .inl rs))] s.heap.size = A at hD ⊢
  have hA : ∀ q : Nat, s.heap.size ≤ q → A q := fun q h => by rw [← hAe]; exact Or.inr h
  have hS : va_S A s.heap s.heap [] := va_S.rf
  have hP : va_P (dC, dI) vwCl [(y0, .inr (1, [.int th, .ref ym, .ref yr, .ref yg, .int pcv, .int trv, .int vav, .int dnv, .int wv, .int fa, .int wi, .int ne])), (ym, .inl (d1, 16384, .inl me)), (yr, .inl (d2, 4, .inl rg)), (yg, .inl (d3, 32, .inl rs))] s.heap := hP
  have hl := lv_entry ([.ref y0, .int a1, .int a2]) (n := 3) (Nat.le_of_ble_eq_true rfl)
  rw [lg_entry_eq]
  generalize (lg_sl ([.ref y0, .int a1, .int a2]) ++ List.replicate (3 - (lg_sl ([.ref y0, .int a1, .int a2])).length) Slot.unset).toArray = ls at hl ⊢
  have hl : lv_has ls 3 [(0, .ref y0), (1, .int a1), (2, .int a2)] := hl
  refine lv_aload_n hx hb dX1_set_0 rfl (lv_at hl 0 rfl) ?_
  refine lv_iconst (v := 0) hx hb dX1_set_1 (by decide) ?_
  refine va_put (D := (dC, dI)) (ci := 1) (v := .int 0) (ty := .int) (C := RX1) (T := TX1) (N := 12) hx hb hts (gw_lay lay_X1) tyX1 tyX1_ok nmX1 hown hK hP hD hS 0 rfl rfl 0 (by decide) (hts _ (gcons mF_X1_24)) (fun _ h9 => h9) rfl (by decide +kernel) rfl rfl (Nat.le_of_ble_eq_true rfl) dX1_set_2 (fun H locs hP hD hS => ?_)
  have hP : va_P (dC, dI) vwCl [(y0, .inr (1, [.int 0, .ref ym, .ref yr, .ref yg, .int pcv, .int trv, .int vav, .int dnv, .int wv, .int fa, .int wi, .int ne])), (ym, .inl (d1, 16384, .inl me)), (yr, .inl (d2, 4, .inl rg)), (yg, .inl (d3, 32, .inl rs))] H := hP
  have hD : va_D A [(y0, .inr (1, [.int 0, .ref ym, .ref yr, .ref yg, .int pcv, .int trv, .int vav, .int dnv, .int wv, .int fa, .int wi, .int ne])), (ym, .inl (d1, 16384, .inl me)), (yr, .inl (d2, 4, .inl rg)), (yg, .inl (d3, 32, .inl rs))] := hD
  refine lv_iload_n hx hb dX1_set_5 rfl (lv_at hl 1 rfl) ?_
  refine lv_if_lt (tgt := 15) hx hb dX1_set_6 (by decide) (fun c_1 => ?_) (fun c_1 => ?_)
  · refine lv_iconst (v := 0) hx hb dX1_set_15 (by decide) ?_
    exact W.zret (v := 0) (ty := .boolean) hx hb hr rfl (fun t ht hW => ⟨⟨_, (0, rs), rfl, ⟨rfl, (by unfold F_m_set; first | (rw [if_pos c_1]; done) | (rw [if_pos c_1]; rfl))⟩, by rw [ht]; exact hP, va_K.moved hW.alike hK, hD⟩, hS.F ht⟩) hS.2.2 dX1_set_16
  · refine lv_iload_n hx hb dX1_set_9 rfl (lv_at hl 1 rfl) ?_
    refine lv_bipush (v := 31) hx hb dX1_set_10 (by decide) ?_
    refine lv_icmp_le (tgt := 17) hx hb dX1_set_12 (by decide) (fun c_2 => ?_) (fun c_2 => ?_)
    · refine lv_aload_n hx hb dX1_set_17 rfl (lv_at hl 0 rfl) ?_
      refine va_get (D := (dC, dI)) (ci := 1) (v := .ref yg) (C := RX1) (T := TX1) (N := 12) hx hb hts (gw_lay lay_X1) hown hK hP 0 rfl rfl 3 (by decide) (hts _ (gcons mF_X1_17)) (fun _ h9 => h9) rfl dX1_set_18 ?_
      refine lv_iload_n hx hb dX1_set_21 rfl (lv_at hl 1 rfl) ?_
      refine lv_iload_n hx hb dX1_set_22 rfl (lv_at hl 1 rfl) ?_
      refine lv_if_ne (tgt := 30) hx hb dX1_set_23 (by decide) (fun c_3 => ?_) (fun c_3 => ?_)
      · refine lv_iload_n hx hb dX1_set_30 rfl (lv_at hl 2 rfl) ?_
        refine va_iast hx hb hK hP hD hS 3 2 rfl rfl (in_mreg c_1 c_2) dX1_set_31 (fun H locs hP hD hS => ?_)
        have hP : va_P (dC, dI) vwCl [(y0, .inr (1, [.int 0, .ref ym, .ref yr, .ref yg, .int pcv, .int trv, .int vav, .int dnv, .int wv, .int fa, .int wi, .int ne])), (ym, .inl (d1, 16384, .inl me)), (yr, .inl (d2, 4, .inl rg)), (yg, .inl (d3, 32, .inl (upd rs a1.toNatClampNeg a2)))] H := hP
        have hD : va_D A [(y0, .inr (1, [.int 0, .ref ym, .ref yr, .ref yg, .int pcv, .int trv, .int vav, .int dnv, .int wv, .int fa, .int wi, .int ne])), (ym, .inl (d1, 16384, .inl me)), (yr, .inl (d2, 4, .inl rg)), (yg, .inl (d3, 32, .inl (upd rs a1.toNatClampNeg a2)))] := hD
        refine lv_iconst (v := 1) hx hb dX1_set_32 (by decide) ?_
        exact W.zret (v := 1) (ty := .boolean) hx hb hr rfl (fun t ht hW => ⟨⟨_, (0, upd rs a1.toNatClampNeg a2), rfl, ⟨rfl, (by unfold F_m_set; first | (rw [if_neg c_1, if_pos c_2, if_neg c_3]; done) | (rw [if_neg c_1, if_pos c_2, if_neg c_3]; rfl))⟩, by rw [ht]; exact hP, va_K.moved hW.alike hK, hD⟩, hS.F ht⟩) hS.2.2 dX1_set_33
      · refine lv_iconst (v := 0) hx hb dX1_set_26 (by decide) ?_
        refine lv_goto (tgt := 31) hx hb dX1_set_27 (by decide) ?_
        refine va_iast hx hb hK hP hD hS 3 2 rfl rfl (in_mreg c_1 c_2) dX1_set_31 (fun H locs hP hD hS => ?_)
        have hP : va_P (dC, dI) vwCl [(y0, .inr (1, [.int 0, .ref ym, .ref yr, .ref yg, .int pcv, .int trv, .int vav, .int dnv, .int wv, .int fa, .int wi, .int ne])), (ym, .inl (d1, 16384, .inl me)), (yr, .inl (d2, 4, .inl rg)), (yg, .inl (d3, 32, .inl (upd rs a1.toNatClampNeg 0)))] H := hP
        have hD : va_D A [(y0, .inr (1, [.int 0, .ref ym, .ref yr, .ref yg, .int pcv, .int trv, .int vav, .int dnv, .int wv, .int fa, .int wi, .int ne])), (ym, .inl (d1, 16384, .inl me)), (yr, .inl (d2, 4, .inl rg)), (yg, .inl (d3, 32, .inl (upd rs a1.toNatClampNeg 0)))] := hD
        refine lv_iconst (v := 1) hx hb dX1_set_32 (by decide) ?_
        exact W.zret (v := 1) (ty := .boolean) hx hb hr rfl (fun t ht hW => ⟨⟨_, (0, upd rs a1.toNatClampNeg 0), rfl, ⟨rfl, (by unfold F_m_set; first | (rw [if_neg c_1, if_pos c_2, if_pos c_3]; done) | (rw [if_neg c_1, if_pos c_2, if_pos c_3]; rfl))⟩, by rw [ht]; exact hP, va_K.moved hW.alike hK, hD⟩, hS.F ht⟩) hS.2.2 dX1_set_33
    · refine lv_iconst (v := 0) hx hb dX1_set_15 (by decide) ?_
      exact W.zret (v := 0) (ty := .boolean) hx hb hr rfl (fun t ht hW => ⟨⟨_, (0, rs), rfl, ⟨rfl, (by unfold F_m_set; first | (rw [if_neg c_1, if_neg c_2]; done) | (rw [if_neg c_1, if_neg c_2]; rfl))⟩, by rw [ht]; exact hP, va_K.moved hW.alike hK, hD⟩, hS.F ht⟩) hS.2.2 dX1_set_16
def F_m_register (rs : Nat → Int32) (a1 : Int32) : Int32 × Int32 :=
  if a1 < 0 then
    (0, 0)
  else
    if (32 : Int32) ≤ a1 then
      (0, 0)
    else
      (rs a1.toNatClampNeg, 0)
set_option maxHeartbeats 4000000 in
set_option maxRecDepth 100000 in
theorem c_m_register (l : Launch) (dC : Nat → ClassId) (dI : Nat → Nat → Nat) (y0 ym yr yg : Nat) (d1 d2 d3 : ClassId) (sz : Nat) (th : Int32) (me : Nat → Int32) (rg : Nat → Int32) (rs : Nat → Int32) (pcv : Int32) (trv : Int32) (vav : Int32) (dnv : Int32) (wv : Int32) (fa : Int32) (wi : Int32) (ne : Int32) (a1 : Int32)  : Met l yX1_register wsX1_register ({ frames := 0, cells := 0, slots := 0, locals := 0 }) (va_Pc [.ref y0, .int a1] (fun U => U.heap.size = sz ∧ va_P (dC, dI) vwCl [(y0, .inr (1, [.int th, .ref ym, .ref yr, .ref yg, .int pcv, .int trv, .int vav, .int dnv, .int wv, .int fa, .int wi, .int ne])), (ym, .inl (d1, 16384, .inl me)), (yr, .inl (d2, 4, .inl rg)), (yg, .inl (d3, 32, .inl rs))] U.heap ∧ va_K (dC, dI) vwCl [(d1, .byte), (d2, .int), (d3, .int)] U ∧ va_D (fun _ => True) [(y0, .inr (1, [.int th, .ref ym, .ref yr, .ref yg, .int pcv, .int trv, .int vav, .int dnv, .int wv, .int fa, .int wi, .int ne])), (ym, .inl (d1, 16384, .inl me)), (yr, .inl (d2, 4, .inl rg)), (yg, .inl (d3, 32, .inl rs))])) (va_Qi (fun (r : Int32) (u : Int32) => (r, u) = F_m_register rs a1) (fun (u : Int32) (t : State) => va_P (dC, dI) vwCl [(y0, .inr (1, [.int u, .ref ym, .ref yr, .ref yg, .int pcv, .int trv, .int vav, .int dnv, .int wv, .int fa, .int wi, .int ne])), (ym, .inl (d1, 16384, .inl me)), (yr, .inl (d2, 4, .inl rg)), (yg, .inl (d3, 32, .inl rs))] t.heap ∧ va_K (dC, dI) vwCl [(d1, .byte), (d2, .int), (d3, .int)] t ∧ va_D (va_A [(y0, .inr (1, [.int th, .ref ym, .ref yr, .ref yg, .int pcv, .int trv, .int vav, .int dnv, .int wv, .int fa, .int wi, .int ne])), (ym, .inl (d1, 16384, .inl me)), (yr, .inl (d2, 4, .inl rg)), (yg, .inl (d3, 32, .inl rs))] sz) [(y0, .inr (1, [.int u, .ref ym, .ref yr, .ref yg, .int pcv, .int trv, .int vav, .int dnv, .int wv, .int fa, .int wi, .int ne])), (ym, .inl (d1, 16384, .inl me)), (yr, .inl (d2, 4, .inl rg)), (yg, .inl (d3, 32, .inl rs))]) (va_A [(y0, .inr (1, [.int th, .ref ym, .ref yr, .ref yg, .int pcv, .int trv, .int vav, .int dnv, .int wv, .int fa, .int wi, .int ne])), (ym, .inl (d1, 16384, .inl me)), (yr, .inl (d2, 4, .inl rg)), (yg, .inl (d3, 32, .inl rs))] sz)) 0 0 (va_A [(y0, .inr (1, [.int th, .ref ym, .ref yr, .ref yg, .int pcv, .int trv, .int vav, .int dnv, .int wv, .int fa, .int wi, .int ne])), (ym, .inl (d1, 16384, .inl me)), (yr, .inl (d2, 4, .inl rg)), (yg, .inl (d3, 32, .inl rs))] sz) := by
  refine Met.ofW (cc := cX1_register) (maxL := 2) (ret := (some .int)) (by decide) rfl ?_
  intro p e s m args below meth c s₁ B hml hv
  obtain ⟨rfl, hsz, hP, hK, hD0⟩ := hv
  have hx := B.exec
  have hb := B.bytes
  have hr := B.returns
  have hts := atoms_spec (ws := wsX1_register) B.pre
  have hown : s.vm.findClass RX1 = some m.cls := findClass_of_methodNamed B.named
  have hlocks := B.notSynchronized
  subst hsz
  have hD := hD0.self (sz := s.heap.size)
  generalize hAe : va_A [(y0, .inr (1, [.int th, .ref ym, .ref yr, .ref yg, .int pcv, .int trv, .int vav, .int dnv, .int wv, .int fa, .int wi, .int ne])), (ym, .inl (d1, 16384, .inl me)), (yr, .inl (d2, 4, .inl rg)), (yg, .inl (d3, 32, .inl rs))] s.heap.size = A at hD ⊢
  have hA : ∀ q : Nat, s.heap.size ≤ q → A q := fun q h => by rw [← hAe]; exact Or.inr h
  have hS : va_S A s.heap s.heap [] := va_S.rf
  have hP : va_P (dC, dI) vwCl [(y0, .inr (1, [.int th, .ref ym, .ref yr, .ref yg, .int pcv, .int trv, .int vav, .int dnv, .int wv, .int fa, .int wi, .int ne])), (ym, .inl (d1, 16384, .inl me)), (yr, .inl (d2, 4, .inl rg)), (yg, .inl (d3, 32, .inl rs))] s.heap := hP
  have hl := lv_entry ([.ref y0, .int a1]) (n := 2) (Nat.le_of_ble_eq_true rfl)
  rw [lg_entry_eq]
  generalize (lg_sl ([.ref y0, .int a1]) ++ List.replicate (2 - (lg_sl ([.ref y0, .int a1])).length) Slot.unset).toArray = ls at hl ⊢
  have hl : lv_has ls 2 [(0, .ref y0), (1, .int a1)] := hl
  refine lv_aload_n hx hb dX1_register_0 rfl (lv_at hl 0 rfl) ?_
  refine lv_iconst (v := 0) hx hb dX1_register_1 (by decide) ?_
  refine va_put (D := (dC, dI)) (ci := 1) (v := .int 0) (ty := .int) (C := RX1) (T := TX1) (N := 12) hx hb hts (gw_lay lay_X1) tyX1 tyX1_ok nmX1 hown hK hP hD hS 0 rfl rfl 0 (by decide) (hts _ (gcons mF_X1_24)) (fun _ h9 => h9) rfl (by decide +kernel) rfl rfl (Nat.le_of_ble_eq_true rfl) dX1_register_2 (fun H locs hP hD hS => ?_)
  have hP : va_P (dC, dI) vwCl [(y0, .inr (1, [.int 0, .ref ym, .ref yr, .ref yg, .int pcv, .int trv, .int vav, .int dnv, .int wv, .int fa, .int wi, .int ne])), (ym, .inl (d1, 16384, .inl me)), (yr, .inl (d2, 4, .inl rg)), (yg, .inl (d3, 32, .inl rs))] H := hP
  have hD : va_D A [(y0, .inr (1, [.int 0, .ref ym, .ref yr, .ref yg, .int pcv, .int trv, .int vav, .int dnv, .int wv, .int fa, .int wi, .int ne])), (ym, .inl (d1, 16384, .inl me)), (yr, .inl (d2, 4, .inl rg)), (yg, .inl (d3, 32, .inl rs))] := hD
  refine lv_iload_n hx hb dX1_register_5 rfl (lv_at hl 1 rfl) ?_
  refine lv_if_lt (tgt := 24) hx hb dX1_register_6 (by decide) (fun c_1 => ?_) (fun c_1 => ?_)
  · refine lv_iconst (v := 0) hx hb dX1_register_24 (by decide) ?_
    exact W.iret (v := 0) hx hb hr (fun t ht hW => ⟨⟨_, 0, rfl, (by unfold F_m_register; first | (rw [if_pos c_1]; done) | (rw [if_pos c_1]; rfl)), by rw [ht]; exact hP, va_K.moved hW.alike hK, hD⟩, hS.F ht⟩) hS.2.2 dX1_register_25
  · refine lv_iload_n hx hb dX1_register_9 rfl (lv_at hl 1 rfl) ?_
    refine lv_bipush (v := 32) hx hb dX1_register_10 (by decide) ?_
    refine lv_icmp_ge (tgt := 24) hx hb dX1_register_12 (by decide) (fun c_2 => ?_) (fun c_2 => ?_)
    · refine lv_iconst (v := 0) hx hb dX1_register_24 (by decide) ?_
      exact W.iret (v := 0) hx hb hr (fun t ht hW => ⟨⟨_, 0, rfl, (by unfold F_m_register; first | (rw [if_neg c_1, if_pos c_2]; done) | (rw [if_neg c_1, if_pos c_2]; rfl)), by rw [ht]; exact hP, va_K.moved hW.alike hK, hD⟩, hS.F ht⟩) hS.2.2 dX1_register_25
    · refine lv_aload_n hx hb dX1_register_15 rfl (lv_at hl 0 rfl) ?_
      refine va_get (D := (dC, dI)) (ci := 1) (v := .ref yg) (C := RX1) (T := TX1) (N := 12) hx hb hts (gw_lay lay_X1) hown hK hP 0 rfl rfl 3 (by decide) (hts _ (gcons mF_X1_17)) (fun _ h9 => h9) rfl dX1_register_16 ?_
      refine lv_iload_n hx hb dX1_register_19 rfl (lv_at hl 1 rfl) ?_
      refine va_iald hx hb hK hP 3 2 rfl rfl (in_mreg2 c_1 c_2) dX1_register_20 ?_
      refine lv_goto (tgt := 25) hx hb dX1_register_21 (by decide) ?_
      exact W.iret (v := rs a1.toNatClampNeg) hx hb hr (fun t ht hW => ⟨⟨_, 0, rfl, (by unfold F_m_register; first | (rw [if_neg c_1, if_neg c_2]; done) | (rw [if_neg c_1, if_neg c_2]; rfl)), by rw [ht]; exact hP, va_K.moved hW.alike hK, hD⟩, hS.F ht⟩) hS.2.2 dX1_register_25
def F_m_jump  (a1 : Int32) : Int32 × Int32 :=
  (0, a1)
set_option maxHeartbeats 4000000 in
set_option maxRecDepth 100000 in
theorem c_m_jump (l : Launch) (dC : Nat → ClassId) (dI : Nat → Nat → Nat) (y0 ym yr yg : Nat) (d1 d2 d3 : ClassId) (sz : Nat) (th : Int32) (me : Nat → Int32) (rg : Nat → Int32) (rs : Nat → Int32) (pcv : Int32) (trv : Int32) (vav : Int32) (dnv : Int32) (wv : Int32) (fa : Int32) (wi : Int32) (ne : Int32) (a1 : Int32)  : Met l yX1_jump wsX1_jump ({ frames := 0, cells := 0, slots := 0, locals := 0 }) (va_Pc [.ref y0, .int a1] (fun U => U.heap.size = sz ∧ va_P (dC, dI) vwCl [(y0, .inr (1, [.int th, .ref ym, .ref yr, .ref yg, .int pcv, .int trv, .int vav, .int dnv, .int wv, .int fa, .int wi, .int ne])), (ym, .inl (d1, 16384, .inl me)), (yr, .inl (d2, 4, .inl rg)), (yg, .inl (d3, 32, .inl rs))] U.heap ∧ va_K (dC, dI) vwCl [(d1, .byte), (d2, .int), (d3, .int)] U ∧ va_D (fun _ => True) [(y0, .inr (1, [.int th, .ref ym, .ref yr, .ref yg, .int pcv, .int trv, .int vav, .int dnv, .int wv, .int fa, .int wi, .int ne])), (ym, .inl (d1, 16384, .inl me)), (yr, .inl (d2, 4, .inl rg)), (yg, .inl (d3, 32, .inl rs))])) (va_Qv (fun u : Int32 × Int32 => u = F_m_jump a1) (fun (u : Int32 × Int32) (t : State) => va_P (dC, dI) vwCl [(y0, .inr (1, [.int u.1, .ref ym, .ref yr, .ref yg, .int u.2, .int trv, .int vav, .int dnv, .int wv, .int fa, .int wi, .int ne])), (ym, .inl (d1, 16384, .inl me)), (yr, .inl (d2, 4, .inl rg)), (yg, .inl (d3, 32, .inl rs))] t.heap ∧ va_K (dC, dI) vwCl [(d1, .byte), (d2, .int), (d3, .int)] t ∧ va_D (va_A [(y0, .inr (1, [.int th, .ref ym, .ref yr, .ref yg, .int pcv, .int trv, .int vav, .int dnv, .int wv, .int fa, .int wi, .int ne])), (ym, .inl (d1, 16384, .inl me)), (yr, .inl (d2, 4, .inl rg)), (yg, .inl (d3, 32, .inl rs))] sz) [(y0, .inr (1, [.int u.1, .ref ym, .ref yr, .ref yg, .int u.2, .int trv, .int vav, .int dnv, .int wv, .int fa, .int wi, .int ne])), (ym, .inl (d1, 16384, .inl me)), (yr, .inl (d2, 4, .inl rg)), (yg, .inl (d3, 32, .inl rs))]) (va_A [(y0, .inr (1, [.int th, .ref ym, .ref yr, .ref yg, .int pcv, .int trv, .int vav, .int dnv, .int wv, .int fa, .int wi, .int ne])), (ym, .inl (d1, 16384, .inl me)), (yr, .inl (d2, 4, .inl rg)), (yg, .inl (d3, 32, .inl rs))] sz)) 0 0 (va_A [(y0, .inr (1, [.int th, .ref ym, .ref yr, .ref yg, .int pcv, .int trv, .int vav, .int dnv, .int wv, .int fa, .int wi, .int ne])), (ym, .inl (d1, 16384, .inl me)), (yr, .inl (d2, 4, .inl rg)), (yg, .inl (d3, 32, .inl rs))] sz) := by
  refine Met.ofW (cc := cX1_jump) (maxL := 2) (ret := none) (by decide) rfl ?_
  intro p e s m args below meth c s₁ B hml hv
  obtain ⟨rfl, hsz, hP, hK, hD0⟩ := hv
  have hx := B.exec
  have hb := B.bytes
  have hr := B.returns
  have hts := atoms_spec (ws := wsX1_jump) B.pre
  have hown : s.vm.findClass RX1 = some m.cls := findClass_of_methodNamed B.named
  have hlocks := B.notSynchronized
  subst hsz
  have hD := hD0.self (sz := s.heap.size)
  generalize hAe : va_A [(y0, .inr (1, [.int th, .ref ym, .ref yr, .ref yg, .int pcv, .int trv, .int vav, .int dnv, .int wv, .int fa, .int wi, .int ne])), (ym, .inl (d1, 16384, .inl me)), (yr, .inl (d2, 4, .inl rg)), (yg, .inl (d3, 32, .inl rs))] s.heap.size = A at hD ⊢
  have hA : ∀ q : Nat, s.heap.size ≤ q → A q := fun q h => by rw [← hAe]; exact Or.inr h
  have hS : va_S A s.heap s.heap [] := va_S.rf
  have hP : va_P (dC, dI) vwCl [(y0, .inr (1, [.int th, .ref ym, .ref yr, .ref yg, .int pcv, .int trv, .int vav, .int dnv, .int wv, .int fa, .int wi, .int ne])), (ym, .inl (d1, 16384, .inl me)), (yr, .inl (d2, 4, .inl rg)), (yg, .inl (d3, 32, .inl rs))] s.heap := hP
  have hl := lv_entry ([.ref y0, .int a1]) (n := 2) (Nat.le_of_ble_eq_true rfl)
  rw [lg_entry_eq]
  generalize (lg_sl ([.ref y0, .int a1]) ++ List.replicate (2 - (lg_sl ([.ref y0, .int a1])).length) Slot.unset).toArray = ls at hl ⊢
  have hl : lv_has ls 2 [(0, .ref y0), (1, .int a1)] := hl
  refine lv_aload_n hx hb dX1_jump_0 rfl (lv_at hl 0 rfl) ?_
  refine lv_iconst (v := 0) hx hb dX1_jump_1 (by decide) ?_
  refine va_put (D := (dC, dI)) (ci := 1) (v := .int 0) (ty := .int) (C := RX1) (T := TX1) (N := 12) hx hb hts (gw_lay lay_X1) tyX1 tyX1_ok nmX1 hown hK hP hD hS 0 rfl rfl 0 (by decide) (hts _ (gcons mF_X1_24)) (fun _ h9 => h9) rfl (by decide +kernel) rfl rfl (Nat.le_of_ble_eq_true rfl) dX1_jump_2 (fun H locs hP hD hS => ?_)
  have hP : va_P (dC, dI) vwCl [(y0, .inr (1, [.int 0, .ref ym, .ref yr, .ref yg, .int pcv, .int trv, .int vav, .int dnv, .int wv, .int fa, .int wi, .int ne])), (ym, .inl (d1, 16384, .inl me)), (yr, .inl (d2, 4, .inl rg)), (yg, .inl (d3, 32, .inl rs))] H := hP
  have hD : va_D A [(y0, .inr (1, [.int 0, .ref ym, .ref yr, .ref yg, .int pcv, .int trv, .int vav, .int dnv, .int wv, .int fa, .int wi, .int ne])), (ym, .inl (d1, 16384, .inl me)), (yr, .inl (d2, 4, .inl rg)), (yg, .inl (d3, 32, .inl rs))] := hD
  refine lv_aload_n hx hb dX1_jump_5 rfl (lv_at hl 0 rfl) ?_
  refine lv_iload_n hx hb dX1_jump_6 rfl (lv_at hl 1 rfl) ?_
  refine va_put (D := (dC, dI)) (ci := 1) (v := .int a1) (ty := .int) (C := RX1) (T := TX1) (N := 12) hx hb hts (gw_lay lay_X1) tyX1 tyX1_ok nmX1 hown hK hP hD hS 0 rfl rfl 4 (by decide) (hts _ (gcons mF_X1_27)) (fun _ h9 => h9) rfl (by decide +kernel) rfl rfl (Nat.le_of_ble_eq_true rfl) dX1_jump_7 (fun H locs hP hD hS => ?_)
  have hP : va_P (dC, dI) vwCl [(y0, .inr (1, [.int 0, .ref ym, .ref yr, .ref yg, .int a1, .int trv, .int vav, .int dnv, .int wv, .int fa, .int wi, .int ne])), (ym, .inl (d1, 16384, .inl me)), (yr, .inl (d2, 4, .inl rg)), (yg, .inl (d3, 32, .inl rs))] H := hP
  have hD : va_D A [(y0, .inr (1, [.int 0, .ref ym, .ref yr, .ref yg, .int a1, .int trv, .int vav, .int dnv, .int wv, .int fa, .int wi, .int ne])), (ym, .inl (d1, 16384, .inl me)), (yr, .inl (d2, 4, .inl rg)), (yg, .inl (d3, 32, .inl rs))] := hD
  exact W.vret hx hb hr (fun t ht hW => ⟨⟨(0, a1), rfl, (by unfold F_m_jump; rfl), by rw [ht]; exact hP, va_K.moved hW.alike hK, hD⟩, hS.F ht⟩) hS.2.2 dX1_jump_10
def F_m_get_pc (pcv : Int32)  : Int32 × Int32 :=
  (pcv, 0)
set_option maxHeartbeats 4000000 in
set_option maxRecDepth 100000 in
theorem c_m_get_pc (l : Launch) (dC : Nat → ClassId) (dI : Nat → Nat → Nat) (y0 ym yr yg : Nat) (d1 d2 d3 : ClassId) (sz : Nat) (th : Int32) (me : Nat → Int32) (rg : Nat → Int32) (rs : Nat → Int32) (pcv : Int32) (trv : Int32) (vav : Int32) (dnv : Int32) (wv : Int32) (fa : Int32) (wi : Int32) (ne : Int32)   : Met l yX1_pc wsX1_pc ({ frames := 0, cells := 0, slots := 0, locals := 0 }) (va_Pc [.ref y0] (fun U => U.heap.size = sz ∧ va_P (dC, dI) vwCl [(y0, .inr (1, [.int th, .ref ym, .ref yr, .ref yg, .int pcv, .int trv, .int vav, .int dnv, .int wv, .int fa, .int wi, .int ne])), (ym, .inl (d1, 16384, .inl me)), (yr, .inl (d2, 4, .inl rg)), (yg, .inl (d3, 32, .inl rs))] U.heap ∧ va_K (dC, dI) vwCl [(d1, .byte), (d2, .int), (d3, .int)] U ∧ va_D (fun _ => True) [(y0, .inr (1, [.int th, .ref ym, .ref yr, .ref yg, .int pcv, .int trv, .int vav, .int dnv, .int wv, .int fa, .int wi, .int ne])), (ym, .inl (d1, 16384, .inl me)), (yr, .inl (d2, 4, .inl rg)), (yg, .inl (d3, 32, .inl rs))])) (va_Qi (fun (r : Int32) (u : Int32) => (r, u) = F_m_get_pc pcv) (fun (u : Int32) (t : State) => va_P (dC, dI) vwCl [(y0, .inr (1, [.int u, .ref ym, .ref yr, .ref yg, .int pcv, .int trv, .int vav, .int dnv, .int wv, .int fa, .int wi, .int ne])), (ym, .inl (d1, 16384, .inl me)), (yr, .inl (d2, 4, .inl rg)), (yg, .inl (d3, 32, .inl rs))] t.heap ∧ va_K (dC, dI) vwCl [(d1, .byte), (d2, .int), (d3, .int)] t ∧ va_D (va_A [(y0, .inr (1, [.int th, .ref ym, .ref yr, .ref yg, .int pcv, .int trv, .int vav, .int dnv, .int wv, .int fa, .int wi, .int ne])), (ym, .inl (d1, 16384, .inl me)), (yr, .inl (d2, 4, .inl rg)), (yg, .inl (d3, 32, .inl rs))] sz) [(y0, .inr (1, [.int u, .ref ym, .ref yr, .ref yg, .int pcv, .int trv, .int vav, .int dnv, .int wv, .int fa, .int wi, .int ne])), (ym, .inl (d1, 16384, .inl me)), (yr, .inl (d2, 4, .inl rg)), (yg, .inl (d3, 32, .inl rs))]) (va_A [(y0, .inr (1, [.int th, .ref ym, .ref yr, .ref yg, .int pcv, .int trv, .int vav, .int dnv, .int wv, .int fa, .int wi, .int ne])), (ym, .inl (d1, 16384, .inl me)), (yr, .inl (d2, 4, .inl rg)), (yg, .inl (d3, 32, .inl rs))] sz)) 0 0 (va_A [(y0, .inr (1, [.int th, .ref ym, .ref yr, .ref yg, .int pcv, .int trv, .int vav, .int dnv, .int wv, .int fa, .int wi, .int ne])), (ym, .inl (d1, 16384, .inl me)), (yr, .inl (d2, 4, .inl rg)), (yg, .inl (d3, 32, .inl rs))] sz) := by
  refine Met.ofW (cc := cX1_pc) (maxL := 1) (ret := (some .int)) (by decide) rfl ?_
  intro p e s m args below meth c s₁ B hml hv
  obtain ⟨rfl, hsz, hP, hK, hD0⟩ := hv
  have hx := B.exec
  have hb := B.bytes
  have hr := B.returns
  have hts := atoms_spec (ws := wsX1_pc) B.pre
  have hown : s.vm.findClass RX1 = some m.cls := findClass_of_methodNamed B.named
  have hlocks := B.notSynchronized
  subst hsz
  have hD := hD0.self (sz := s.heap.size)
  generalize hAe : va_A [(y0, .inr (1, [.int th, .ref ym, .ref yr, .ref yg, .int pcv, .int trv, .int vav, .int dnv, .int wv, .int fa, .int wi, .int ne])), (ym, .inl (d1, 16384, .inl me)), (yr, .inl (d2, 4, .inl rg)), (yg, .inl (d3, 32, .inl rs))] s.heap.size = A at hD ⊢
  have hA : ∀ q : Nat, s.heap.size ≤ q → A q := fun q h => by rw [← hAe]; exact Or.inr h
  have hS : va_S A s.heap s.heap [] := va_S.rf
  have hP : va_P (dC, dI) vwCl [(y0, .inr (1, [.int th, .ref ym, .ref yr, .ref yg, .int pcv, .int trv, .int vav, .int dnv, .int wv, .int fa, .int wi, .int ne])), (ym, .inl (d1, 16384, .inl me)), (yr, .inl (d2, 4, .inl rg)), (yg, .inl (d3, 32, .inl rs))] s.heap := hP
  have hl := lv_entry ([.ref y0]) (n := 1) (Nat.le_of_ble_eq_true rfl)
  rw [lg_entry_eq]
  generalize (lg_sl ([.ref y0]) ++ List.replicate (1 - (lg_sl ([.ref y0])).length) Slot.unset).toArray = ls at hl ⊢
  have hl : lv_has ls 1 [(0, .ref y0)] := hl
  refine lv_aload_n hx hb dX1_pc_0 rfl (lv_at hl 0 rfl) ?_
  refine lv_iconst (v := 0) hx hb dX1_pc_1 (by decide) ?_
  refine va_put (D := (dC, dI)) (ci := 1) (v := .int 0) (ty := .int) (C := RX1) (T := TX1) (N := 12) hx hb hts (gw_lay lay_X1) tyX1 tyX1_ok nmX1 hown hK hP hD hS 0 rfl rfl 0 (by decide) (hts _ (gcons mF_X1_24)) (fun _ h9 => h9) rfl (by decide +kernel) rfl rfl (Nat.le_of_ble_eq_true rfl) dX1_pc_2 (fun H locs hP hD hS => ?_)
  have hP : va_P (dC, dI) vwCl [(y0, .inr (1, [.int 0, .ref ym, .ref yr, .ref yg, .int pcv, .int trv, .int vav, .int dnv, .int wv, .int fa, .int wi, .int ne])), (ym, .inl (d1, 16384, .inl me)), (yr, .inl (d2, 4, .inl rg)), (yg, .inl (d3, 32, .inl rs))] H := hP
  have hD : va_D A [(y0, .inr (1, [.int 0, .ref ym, .ref yr, .ref yg, .int pcv, .int trv, .int vav, .int dnv, .int wv, .int fa, .int wi, .int ne])), (ym, .inl (d1, 16384, .inl me)), (yr, .inl (d2, 4, .inl rg)), (yg, .inl (d3, 32, .inl rs))] := hD
  refine lv_aload_n hx hb dX1_pc_5 rfl (lv_at hl 0 rfl) ?_
  refine va_get (D := (dC, dI)) (ci := 1) (v := .int pcv) (C := RX1) (T := TX1) (N := 12) hx hb hts (gw_lay lay_X1) hown hK hP 0 rfl rfl 4 (by decide) (hts _ (gcons mF_X1_27)) (fun _ h9 => h9) rfl dX1_pc_6 ?_
  exact W.iret (v := pcv) hx hb hr (fun t ht hW => ⟨⟨_, 0, rfl, (by unfold F_m_get_pc; rfl), by rw [ht]; exact hP, va_K.moved hW.alike hK, hD⟩, hS.F ht⟩) hS.2.2 dX1_pc_9
def F_m_get_trap (trv : Int32)  : Int32 × Int32 :=
  (trv, 0)
set_option maxHeartbeats 4000000 in
set_option maxRecDepth 100000 in
theorem c_m_get_trap (l : Launch) (dC : Nat → ClassId) (dI : Nat → Nat → Nat) (y0 ym yr yg : Nat) (d1 d2 d3 : ClassId) (sz : Nat) (th : Int32) (me : Nat → Int32) (rg : Nat → Int32) (rs : Nat → Int32) (pcv : Int32) (trv : Int32) (vav : Int32) (dnv : Int32) (wv : Int32) (fa : Int32) (wi : Int32) (ne : Int32)   : Met l yX1_trap wsX1_trap ({ frames := 0, cells := 0, slots := 0, locals := 0 }) (va_Pc [.ref y0] (fun U => U.heap.size = sz ∧ va_P (dC, dI) vwCl [(y0, .inr (1, [.int th, .ref ym, .ref yr, .ref yg, .int pcv, .int trv, .int vav, .int dnv, .int wv, .int fa, .int wi, .int ne])), (ym, .inl (d1, 16384, .inl me)), (yr, .inl (d2, 4, .inl rg)), (yg, .inl (d3, 32, .inl rs))] U.heap ∧ va_K (dC, dI) vwCl [(d1, .byte), (d2, .int), (d3, .int)] U ∧ va_D (fun _ => True) [(y0, .inr (1, [.int th, .ref ym, .ref yr, .ref yg, .int pcv, .int trv, .int vav, .int dnv, .int wv, .int fa, .int wi, .int ne])), (ym, .inl (d1, 16384, .inl me)), (yr, .inl (d2, 4, .inl rg)), (yg, .inl (d3, 32, .inl rs))])) (va_Qi (fun (r : Int32) (u : Int32) => (r, u) = F_m_get_trap trv) (fun (u : Int32) (t : State) => va_P (dC, dI) vwCl [(y0, .inr (1, [.int u, .ref ym, .ref yr, .ref yg, .int pcv, .int trv, .int vav, .int dnv, .int wv, .int fa, .int wi, .int ne])), (ym, .inl (d1, 16384, .inl me)), (yr, .inl (d2, 4, .inl rg)), (yg, .inl (d3, 32, .inl rs))] t.heap ∧ va_K (dC, dI) vwCl [(d1, .byte), (d2, .int), (d3, .int)] t ∧ va_D (va_A [(y0, .inr (1, [.int th, .ref ym, .ref yr, .ref yg, .int pcv, .int trv, .int vav, .int dnv, .int wv, .int fa, .int wi, .int ne])), (ym, .inl (d1, 16384, .inl me)), (yr, .inl (d2, 4, .inl rg)), (yg, .inl (d3, 32, .inl rs))] sz) [(y0, .inr (1, [.int u, .ref ym, .ref yr, .ref yg, .int pcv, .int trv, .int vav, .int dnv, .int wv, .int fa, .int wi, .int ne])), (ym, .inl (d1, 16384, .inl me)), (yr, .inl (d2, 4, .inl rg)), (yg, .inl (d3, 32, .inl rs))]) (va_A [(y0, .inr (1, [.int th, .ref ym, .ref yr, .ref yg, .int pcv, .int trv, .int vav, .int dnv, .int wv, .int fa, .int wi, .int ne])), (ym, .inl (d1, 16384, .inl me)), (yr, .inl (d2, 4, .inl rg)), (yg, .inl (d3, 32, .inl rs))] sz)) 0 0 (va_A [(y0, .inr (1, [.int th, .ref ym, .ref yr, .ref yg, .int pcv, .int trv, .int vav, .int dnv, .int wv, .int fa, .int wi, .int ne])), (ym, .inl (d1, 16384, .inl me)), (yr, .inl (d2, 4, .inl rg)), (yg, .inl (d3, 32, .inl rs))] sz) := by
  refine Met.ofW (cc := cX1_trap) (maxL := 1) (ret := (some .int)) (by decide) rfl ?_
  intro p e s m args below meth c s₁ B hml hv
  obtain ⟨rfl, hsz, hP, hK, hD0⟩ := hv
  have hx := B.exec
  have hb := B.bytes
  have hr := B.returns
  have hts := atoms_spec (ws := wsX1_trap) B.pre
  have hown : s.vm.findClass RX1 = some m.cls := findClass_of_methodNamed B.named
  have hlocks := B.notSynchronized
  subst hsz
  have hD := hD0.self (sz := s.heap.size)
  generalize hAe : va_A [(y0, .inr (1, [.int th, .ref ym, .ref yr, .ref yg, .int pcv, .int trv, .int vav, .int dnv, .int wv, .int fa, .int wi, .int ne])), (ym, .inl (d1, 16384, .inl me)), (yr, .inl (d2, 4, .inl rg)), (yg, .inl (d3, 32, .inl rs))] s.heap.size = A at hD ⊢
  have hA : ∀ q : Nat, s.heap.size ≤ q → A q := fun q h => by rw [← hAe]; exact Or.inr h
  have hS : va_S A s.heap s.heap [] := va_S.rf
  have hP : va_P (dC, dI) vwCl [(y0, .inr (1, [.int th, .ref ym, .ref yr, .ref yg, .int pcv, .int trv, .int vav, .int dnv, .int wv, .int fa, .int wi, .int ne])), (ym, .inl (d1, 16384, .inl me)), (yr, .inl (d2, 4, .inl rg)), (yg, .inl (d3, 32, .inl rs))] s.heap := hP
  have hl := lv_entry ([.ref y0]) (n := 1) (Nat.le_of_ble_eq_true rfl)
  rw [lg_entry_eq]
  generalize (lg_sl ([.ref y0]) ++ List.replicate (1 - (lg_sl ([.ref y0])).length) Slot.unset).toArray = ls at hl ⊢
  have hl : lv_has ls 1 [(0, .ref y0)] := hl
  refine lv_aload_n hx hb dX1_trap_0 rfl (lv_at hl 0 rfl) ?_
  refine lv_iconst (v := 0) hx hb dX1_trap_1 (by decide) ?_
  refine va_put (D := (dC, dI)) (ci := 1) (v := .int 0) (ty := .int) (C := RX1) (T := TX1) (N := 12) hx hb hts (gw_lay lay_X1) tyX1 tyX1_ok nmX1 hown hK hP hD hS 0 rfl rfl 0 (by decide) (hts _ (gcons mF_X1_24)) (fun _ h9 => h9) rfl (by decide +kernel) rfl rfl (Nat.le_of_ble_eq_true rfl) dX1_trap_2 (fun H locs hP hD hS => ?_)
  have hP : va_P (dC, dI) vwCl [(y0, .inr (1, [.int 0, .ref ym, .ref yr, .ref yg, .int pcv, .int trv, .int vav, .int dnv, .int wv, .int fa, .int wi, .int ne])), (ym, .inl (d1, 16384, .inl me)), (yr, .inl (d2, 4, .inl rg)), (yg, .inl (d3, 32, .inl rs))] H := hP
  have hD : va_D A [(y0, .inr (1, [.int 0, .ref ym, .ref yr, .ref yg, .int pcv, .int trv, .int vav, .int dnv, .int wv, .int fa, .int wi, .int ne])), (ym, .inl (d1, 16384, .inl me)), (yr, .inl (d2, 4, .inl rg)), (yg, .inl (d3, 32, .inl rs))] := hD
  refine lv_aload_n hx hb dX1_trap_5 rfl (lv_at hl 0 rfl) ?_
  refine va_get (D := (dC, dI)) (ci := 1) (v := .int trv) (C := RX1) (T := TX1) (N := 12) hx hb hts (gw_lay lay_X1) hown hK hP 0 rfl rfl 5 (by decide) (hts _ (gcons mF_X1_20)) (fun _ h9 => h9) rfl dX1_trap_6 ?_
  exact W.iret (v := trv) hx hb hr (fun t ht hW => ⟨⟨_, 0, rfl, (by unfold F_m_get_trap; rfl), by rw [ht]; exact hP, va_K.moved hW.alike hK, hD⟩, hS.F ht⟩) hS.2.2 dX1_trap_9
def F_m_get_value (vav : Int32)  : Int32 × Int32 :=
  (vav, 0)
set_option maxHeartbeats 4000000 in
set_option maxRecDepth 100000 in
theorem c_m_get_value (l : Launch) (dC : Nat → ClassId) (dI : Nat → Nat → Nat) (y0 ym yr yg : Nat) (d1 d2 d3 : ClassId) (sz : Nat) (th : Int32) (me : Nat → Int32) (rg : Nat → Int32) (rs : Nat → Int32) (pcv : Int32) (trv : Int32) (vav : Int32) (dnv : Int32) (wv : Int32) (fa : Int32) (wi : Int32) (ne : Int32)   : Met l yX1_value wsX1_value ({ frames := 0, cells := 0, slots := 0, locals := 0 }) (va_Pc [.ref y0] (fun U => U.heap.size = sz ∧ va_P (dC, dI) vwCl [(y0, .inr (1, [.int th, .ref ym, .ref yr, .ref yg, .int pcv, .int trv, .int vav, .int dnv, .int wv, .int fa, .int wi, .int ne])), (ym, .inl (d1, 16384, .inl me)), (yr, .inl (d2, 4, .inl rg)), (yg, .inl (d3, 32, .inl rs))] U.heap ∧ va_K (dC, dI) vwCl [(d1, .byte), (d2, .int), (d3, .int)] U ∧ va_D (fun _ => True) [(y0, .inr (1, [.int th, .ref ym, .ref yr, .ref yg, .int pcv, .int trv, .int vav, .int dnv, .int wv, .int fa, .int wi, .int ne])), (ym, .inl (d1, 16384, .inl me)), (yr, .inl (d2, 4, .inl rg)), (yg, .inl (d3, 32, .inl rs))])) (va_Qi (fun (r : Int32) (u : Int32) => (r, u) = F_m_get_value vav) (fun (u : Int32) (t : State) => va_P (dC, dI) vwCl [(y0, .inr (1, [.int u, .ref ym, .ref yr, .ref yg, .int pcv, .int trv, .int vav, .int dnv, .int wv, .int fa, .int wi, .int ne])), (ym, .inl (d1, 16384, .inl me)), (yr, .inl (d2, 4, .inl rg)), (yg, .inl (d3, 32, .inl rs))] t.heap ∧ va_K (dC, dI) vwCl [(d1, .byte), (d2, .int), (d3, .int)] t ∧ va_D (va_A [(y0, .inr (1, [.int th, .ref ym, .ref yr, .ref yg, .int pcv, .int trv, .int vav, .int dnv, .int wv, .int fa, .int wi, .int ne])), (ym, .inl (d1, 16384, .inl me)), (yr, .inl (d2, 4, .inl rg)), (yg, .inl (d3, 32, .inl rs))] sz) [(y0, .inr (1, [.int u, .ref ym, .ref yr, .ref yg, .int pcv, .int trv, .int vav, .int dnv, .int wv, .int fa, .int wi, .int ne])), (ym, .inl (d1, 16384, .inl me)), (yr, .inl (d2, 4, .inl rg)), (yg, .inl (d3, 32, .inl rs))]) (va_A [(y0, .inr (1, [.int th, .ref ym, .ref yr, .ref yg, .int pcv, .int trv, .int vav, .int dnv, .int wv, .int fa, .int wi, .int ne])), (ym, .inl (d1, 16384, .inl me)), (yr, .inl (d2, 4, .inl rg)), (yg, .inl (d3, 32, .inl rs))] sz)) 0 0 (va_A [(y0, .inr (1, [.int th, .ref ym, .ref yr, .ref yg, .int pcv, .int trv, .int vav, .int dnv, .int wv, .int fa, .int wi, .int ne])), (ym, .inl (d1, 16384, .inl me)), (yr, .inl (d2, 4, .inl rg)), (yg, .inl (d3, 32, .inl rs))] sz) := by
  refine Met.ofW (cc := cX1_value) (maxL := 1) (ret := (some .int)) (by decide) rfl ?_
  intro p e s m args below meth c s₁ B hml hv
  obtain ⟨rfl, hsz, hP, hK, hD0⟩ := hv
  have hx := B.exec
  have hb := B.bytes
  have hr := B.returns
  have hts := atoms_spec (ws := wsX1_value) B.pre
  have hown : s.vm.findClass RX1 = some m.cls := findClass_of_methodNamed B.named
  have hlocks := B.notSynchronized
  subst hsz
  have hD := hD0.self (sz := s.heap.size)
  generalize hAe : va_A [(y0, .inr (1, [.int th, .ref ym, .ref yr, .ref yg, .int pcv, .int trv, .int vav, .int dnv, .int wv, .int fa, .int wi, .int ne])), (ym, .inl (d1, 16384, .inl me)), (yr, .inl (d2, 4, .inl rg)), (yg, .inl (d3, 32, .inl rs))] s.heap.size = A at hD ⊢
  have hA : ∀ q : Nat, s.heap.size ≤ q → A q := fun q h => by rw [← hAe]; exact Or.inr h
  have hS : va_S A s.heap s.heap [] := va_S.rf
  have hP : va_P (dC, dI) vwCl [(y0, .inr (1, [.int th, .ref ym, .ref yr, .ref yg, .int pcv, .int trv, .int vav, .int dnv, .int wv, .int fa, .int wi, .int ne])), (ym, .inl (d1, 16384, .inl me)), (yr, .inl (d2, 4, .inl rg)), (yg, .inl (d3, 32, .inl rs))] s.heap := hP
  have hl := lv_entry ([.ref y0]) (n := 1) (Nat.le_of_ble_eq_true rfl)
  rw [lg_entry_eq]
  generalize (lg_sl ([.ref y0]) ++ List.replicate (1 - (lg_sl ([.ref y0])).length) Slot.unset).toArray = ls at hl ⊢
  have hl : lv_has ls 1 [(0, .ref y0)] := hl
  refine lv_aload_n hx hb dX1_value_0 rfl (lv_at hl 0 rfl) ?_
  refine lv_iconst (v := 0) hx hb dX1_value_1 (by decide) ?_
  refine va_put (D := (dC, dI)) (ci := 1) (v := .int 0) (ty := .int) (C := RX1) (T := TX1) (N := 12) hx hb hts (gw_lay lay_X1) tyX1 tyX1_ok nmX1 hown hK hP hD hS 0 rfl rfl 0 (by decide) (hts _ (gcons mF_X1_24)) (fun _ h9 => h9) rfl (by decide +kernel) rfl rfl (Nat.le_of_ble_eq_true rfl) dX1_value_2 (fun H locs hP hD hS => ?_)
  have hP : va_P (dC, dI) vwCl [(y0, .inr (1, [.int 0, .ref ym, .ref yr, .ref yg, .int pcv, .int trv, .int vav, .int dnv, .int wv, .int fa, .int wi, .int ne])), (ym, .inl (d1, 16384, .inl me)), (yr, .inl (d2, 4, .inl rg)), (yg, .inl (d3, 32, .inl rs))] H := hP
  have hD : va_D A [(y0, .inr (1, [.int 0, .ref ym, .ref yr, .ref yg, .int pcv, .int trv, .int vav, .int dnv, .int wv, .int fa, .int wi, .int ne])), (ym, .inl (d1, 16384, .inl me)), (yr, .inl (d2, 4, .inl rg)), (yg, .inl (d3, 32, .inl rs))] := hD
  refine lv_aload_n hx hb dX1_value_5 rfl (lv_at hl 0 rfl) ?_
  refine va_get (D := (dC, dI)) (ci := 1) (v := .int vav) (C := RX1) (T := TX1) (N := 12) hx hb hts (gw_lay lay_X1) hown hK hP 0 rfl rfl 6 (by decide) (hts _ (gcons mF_X1_136)) (fun _ h9 => h9) rfl dX1_value_6 ?_
  exact W.iret (v := vav) hx hb hr (fun t ht hW => ⟨⟨_, 0, rfl, (by unfold F_m_get_value; rfl), by rw [ht]; exact hP, va_K.moved hW.alike hK, hD⟩, hS.F ht⟩) hS.2.2 dX1_value_9
def F_m_get_done (dnv : Int32)  : Int32 × Int32 :=
  (dnv, 0)
set_option maxHeartbeats 4000000 in
set_option maxRecDepth 100000 in
theorem c_m_get_done (l : Launch) (dC : Nat → ClassId) (dI : Nat → Nat → Nat) (y0 ym yr yg : Nat) (d1 d2 d3 : ClassId) (sz : Nat) (th : Int32) (me : Nat → Int32) (rg : Nat → Int32) (rs : Nat → Int32) (pcv : Int32) (trv : Int32) (vav : Int32) (dnv : Int32) (wv : Int32) (fa : Int32) (wi : Int32) (ne : Int32)   : Met l yX1_done wsX1_done ({ frames := 0, cells := 0, slots := 0, locals := 0 }) (va_Pc [.ref y0] (fun U => U.heap.size = sz ∧ va_P (dC, dI) vwCl [(y0, .inr (1, [.int th, .ref ym, .ref yr, .ref yg, .int pcv, .int trv, .int vav, .int dnv, .int wv, .int fa, .int wi, .int ne])), (ym, .inl (d1, 16384, .inl me)), (yr, .inl (d2, 4, .inl rg)), (yg, .inl (d3, 32, .inl rs))] U.heap ∧ va_K (dC, dI) vwCl [(d1, .byte), (d2, .int), (d3, .int)] U ∧ va_D (fun _ => True) [(y0, .inr (1, [.int th, .ref ym, .ref yr, .ref yg, .int pcv, .int trv, .int vav, .int dnv, .int wv, .int fa, .int wi, .int ne])), (ym, .inl (d1, 16384, .inl me)), (yr, .inl (d2, 4, .inl rg)), (yg, .inl (d3, 32, .inl rs))])) (va_Qi (fun (r : Int32) (u : Int32) => (r, u) = F_m_get_done dnv) (fun (u : Int32) (t : State) => va_P (dC, dI) vwCl [(y0, .inr (1, [.int u, .ref ym, .ref yr, .ref yg, .int pcv, .int trv, .int vav, .int dnv, .int wv, .int fa, .int wi, .int ne])), (ym, .inl (d1, 16384, .inl me)), (yr, .inl (d2, 4, .inl rg)), (yg, .inl (d3, 32, .inl rs))] t.heap ∧ va_K (dC, dI) vwCl [(d1, .byte), (d2, .int), (d3, .int)] t ∧ va_D (va_A [(y0, .inr (1, [.int th, .ref ym, .ref yr, .ref yg, .int pcv, .int trv, .int vav, .int dnv, .int wv, .int fa, .int wi, .int ne])), (ym, .inl (d1, 16384, .inl me)), (yr, .inl (d2, 4, .inl rg)), (yg, .inl (d3, 32, .inl rs))] sz) [(y0, .inr (1, [.int u, .ref ym, .ref yr, .ref yg, .int pcv, .int trv, .int vav, .int dnv, .int wv, .int fa, .int wi, .int ne])), (ym, .inl (d1, 16384, .inl me)), (yr, .inl (d2, 4, .inl rg)), (yg, .inl (d3, 32, .inl rs))]) (va_A [(y0, .inr (1, [.int th, .ref ym, .ref yr, .ref yg, .int pcv, .int trv, .int vav, .int dnv, .int wv, .int fa, .int wi, .int ne])), (ym, .inl (d1, 16384, .inl me)), (yr, .inl (d2, 4, .inl rg)), (yg, .inl (d3, 32, .inl rs))] sz)) 0 0 (va_A [(y0, .inr (1, [.int th, .ref ym, .ref yr, .ref yg, .int pcv, .int trv, .int vav, .int dnv, .int wv, .int fa, .int wi, .int ne])), (ym, .inl (d1, 16384, .inl me)), (yr, .inl (d2, 4, .inl rg)), (yg, .inl (d3, 32, .inl rs))] sz) := by
  refine Met.ofW (cc := cX1_done) (maxL := 1) (ret := (some .int)) (by decide) rfl ?_
  intro p e s m args below meth c s₁ B hml hv
  obtain ⟨rfl, hsz, hP, hK, hD0⟩ := hv
  have hx := B.exec
  have hb := B.bytes
  have hr := B.returns
  have hts := atoms_spec (ws := wsX1_done) B.pre
  have hown : s.vm.findClass RX1 = some m.cls := findClass_of_methodNamed B.named
  have hlocks := B.notSynchronized
  subst hsz
  have hD := hD0.self (sz := s.heap.size)
  generalize hAe : va_A [(y0, .inr (1, [.int th, .ref ym, .ref yr, .ref yg, .int pcv, .int trv, .int vav, .int dnv, .int wv, .int fa, .int wi, .int ne])), (ym, .inl (d1, 16384, .inl me)), (yr, .inl (d2, 4, .inl rg)), (yg, .inl (d3, 32, .inl rs))] s.heap.size = A at hD ⊢
  have hA : ∀ q : Nat, s.heap.size ≤ q → A q := fun q h => by rw [← hAe]; exact Or.inr h
  have hS : va_S A s.heap s.heap [] := va_S.rf
  have hP : va_P (dC, dI) vwCl [(y0, .inr (1, [.int th, .ref ym, .ref yr, .ref yg, .int pcv, .int trv, .int vav, .int dnv, .int wv, .int fa, .int wi, .int ne])), (ym, .inl (d1, 16384, .inl me)), (yr, .inl (d2, 4, .inl rg)), (yg, .inl (d3, 32, .inl rs))] s.heap := hP
  have hl := lv_entry ([.ref y0]) (n := 1) (Nat.le_of_ble_eq_true rfl)
  rw [lg_entry_eq]
  generalize (lg_sl ([.ref y0]) ++ List.replicate (1 - (lg_sl ([.ref y0])).length) Slot.unset).toArray = ls at hl ⊢
  have hl : lv_has ls 1 [(0, .ref y0)] := hl
  refine lv_aload_n hx hb dX1_done_0 rfl (lv_at hl 0 rfl) ?_
  refine lv_iconst (v := 0) hx hb dX1_done_1 (by decide) ?_
  refine va_put (D := (dC, dI)) (ci := 1) (v := .int 0) (ty := .int) (C := RX1) (T := TX1) (N := 12) hx hb hts (gw_lay lay_X1) tyX1 tyX1_ok nmX1 hown hK hP hD hS 0 rfl rfl 0 (by decide) (hts _ (gcons mF_X1_24)) (fun _ h9 => h9) rfl (by decide +kernel) rfl rfl (Nat.le_of_ble_eq_true rfl) dX1_done_2 (fun H locs hP hD hS => ?_)
  have hP : va_P (dC, dI) vwCl [(y0, .inr (1, [.int 0, .ref ym, .ref yr, .ref yg, .int pcv, .int trv, .int vav, .int dnv, .int wv, .int fa, .int wi, .int ne])), (ym, .inl (d1, 16384, .inl me)), (yr, .inl (d2, 4, .inl rg)), (yg, .inl (d3, 32, .inl rs))] H := hP
  have hD : va_D A [(y0, .inr (1, [.int 0, .ref ym, .ref yr, .ref yg, .int pcv, .int trv, .int vav, .int dnv, .int wv, .int fa, .int wi, .int ne])), (ym, .inl (d1, 16384, .inl me)), (yr, .inl (d2, 4, .inl rg)), (yg, .inl (d3, 32, .inl rs))] := hD
  refine lv_aload_n hx hb dX1_done_5 rfl (lv_at hl 0 rfl) ?_
  refine va_get (D := (dC, dI)) (ci := 1) (v := .int dnv) (C := RX1) (T := TX1) (N := 12) hx hb hts (gw_lay lay_X1) hown hK hP 0 rfl rfl 7 (by decide) (hts _ (gcons mF_X1_133)) (fun _ h9 => h9) rfl dX1_done_6 ?_
  exact W.iret (v := dnv) hx hb hr (fun t ht hW => ⟨⟨_, 0, rfl, (by unfold F_m_get_done; rfl), by rw [ht]; exact hP, va_K.moved hW.alike hK, hD⟩, hS.F ht⟩) hS.2.2 dX1_done_9
