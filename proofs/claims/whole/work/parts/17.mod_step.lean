def F_m_goTo (me : Nat → Int32) (rg : Nat → Int32) (rs : Nat → Int32) (pcv : Int32) (wv : Int32) (fa : Int32) (wi : Int32) (ne : Int32) (a1 : Int32) (a2 : Int32) : (Nat → Int32) × (Nat → Int32) × Int32 × Int32 × Int32 :=
  if (a1 &&& 3) = 0 then
    if a2 = 0 then
      (me, rs, fa, wi, a1)
    else
      (me, F_m_put wv rs (pcv + 4), fa, wi, a1)
  else
    (me, rs, (F_m_fail 0 a1).1, (F_m_fail 0 a1).2, ne)
set_option maxHeartbeats 4000000 in
set_option maxRecDepth 100000 in
theorem c_m_goTo (l : Launch) (dC : Nat → ClassId) (dI : Nat → Nat → Nat) (y0 ym yr yg : Nat) (d1 d2 d3 : ClassId) (sz : Nat) (th : Int32) (me : Nat → Int32) (rg : Nat → Int32) (rs : Nat → Int32) (pcv : Int32) (trv : Int32) (vav : Int32) (dnv : Int32) (wv : Int32) (fa : Int32) (wi : Int32) (ne : Int32) (a1 : Int32) (a2 : Int32)  : Met l yX1_goTo wsX1_goTo ({ frames := 2, cells := 0, slots := 0, locals := 46 }) (va_Pc [.ref y0, .int a1, .int a2] (fun U => U.heap.size = sz ∧ va_P (dC, dI) vwCl [(y0, .inr (1, [.int th, .ref ym, .ref yr, .ref yg, .int pcv, .int trv, .int vav, .int dnv, .int wv, .int fa, .int wi, .int ne])), (ym, .inl (d1, 16384, .inl me)), (yr, .inl (d2, 4, .inl rg)), (yg, .inl (d3, 32, .inl rs))] U.heap ∧ va_K (dC, dI) vwCl [(d1, .byte), (d2, .int), (d3, .int)] U ∧ va_D (fun _ => True) [(y0, .inr (1, [.int th, .ref ym, .ref yr, .ref yg, .int pcv, .int trv, .int vav, .int dnv, .int wv, .int fa, .int wi, .int ne])), (ym, .inl (d1, 16384, .inl me)), (yr, .inl (d2, 4, .inl rg)), (yg, .inl (d3, 32, .inl rs))])) (va_Qv (fun u : (Nat → Int32) × (Nat → Int32) × Int32 × Int32 × Int32 => u = F_m_goTo me rg rs pcv wv fa wi ne a1 a2) (fun (u : (Nat → Int32) × (Nat → Int32) × Int32 × Int32 × Int32) (t : State) => va_P (dC, dI) vwCl [(y0, .inr (1, [.int th, .ref ym, .ref yr, .ref yg, .int pcv, .int trv, .int vav, .int dnv, .int wv, .int u.2.2.1, .int u.2.2.2.1, .int u.2.2.2.2])), (ym, .inl (d1, 16384, .inl u.1)), (yr, .inl (d2, 4, .inl rg)), (yg, .inl (d3, 32, .inl u.2.1))] t.heap ∧ va_K (dC, dI) vwCl [(d1, .byte), (d2, .int), (d3, .int)] t ∧ va_D (va_A [(y0, .inr (1, [.int th, .ref ym, .ref yr, .ref yg, .int pcv, .int trv, .int vav, .int dnv, .int wv, .int fa, .int wi, .int ne])), (ym, .inl (d1, 16384, .inl me)), (yr, .inl (d2, 4, .inl rg)), (yg, .inl (d3, 32, .inl rs))] sz) [(y0, .inr (1, [.int th, .ref ym, .ref yr, .ref yg, .int pcv, .int trv, .int vav, .int dnv, .int wv, .int u.2.2.1, .int u.2.2.2.1, .int u.2.2.2.2])), (ym, .inl (d1, 16384, .inl u.1)), (yr, .inl (d2, 4, .inl rg)), (yg, .inl (d3, 32, .inl u.2.1))]) (va_A [(y0, .inr (1, [.int th, .ref ym, .ref yr, .ref yg, .int pcv, .int trv, .int vav, .int dnv, .int wv, .int fa, .int wi, .int ne])), (ym, .inl (d1, 16384, .inl me)), (yr, .inl (d2, 4, .inl rg)), (yg, .inl (d3, 32, .inl rs))] sz)) 0 0 (va_A [(y0, .inr (1, [.int th, .ref ym, .ref yr, .ref yg, .int pcv, .int trv, .int vav, .int dnv, .int wv, .int fa, .int wi, .int ne])), (ym, .inl (d1, 16384, .inl me)), (yr, .inl (d2, 4, .inl rg)), (yg, .inl (d3, 32, .inl rs))] sz) := by
  refine Met.ofW (cc := cX1_goTo) (maxL := 3) (ret := none) (by decide) rfl ?_
  intro p e s m args below meth c s₁ B hml hv
  obtain ⟨rfl, hsz, hP, hK, hD0⟩ := hv
  have hx := B.exec
  have hb := B.bytes
  have hr := B.returns
  have hts := atoms_spec (ws := wsX1_goTo) B.pre
  have hown : s.vm.findClass RX1 = some m.cls := findClass_of_methodNamed B.named
  have hlocks := B.notSynchronized
  subst hsz
  have hD := hD0.self (sz := s.heap.size)
  generalize hAe : va_A [(y0, .inr (1, [.int th, .ref ym, .ref yr, .ref yg, .int pcv, .int trv, .int vav, .int dnv, .int wv, .int fa, .int wi, .int ne])), (ym, .inl (d1, 16384, .inl me)), (yr, .inl (d2, 4, .inl rg)), (yg, .inl (d3, 32, .inl rs))] s.heap.size = A at hD ⊢
  have hA : ∀ q : Nat, s.heap.size ≤ q → A q := fun q h => by rw [← hAe]; exact Or.inr h
  have hS : va_S A s.heap s.heap [] := va_S.rf
  have hP : va_P (dC, dI) vwCl [(y0, .inr (1, [.int th, .ref ym, .ref yr, .ref yg, .int pcv, .int trv, .int vav, .int dnv, .int wv, .int fa, .int wi, .int ne])), (ym, .inl (d1, 16384, .inl me)), (yr, .inl (d2, 4, .inl rg)), (yg, .inl (d3, 32, .inl rs))] s.heap := hP
  have hl := lv_entry ([.ref y0, .int a1, .int a2]) (n := 3) (Nat.le_of_ble_eq_true rfl)
  rw [lg_entry_eq]
  generalize (lg_sl ([.ref y0, .int a1, .int a2]) ++ List.replicate (3 - (lg_sl ([.ref y0, .int a1, .int a2])).length) Slot.unset).toArray = ls at hl ⊢
  have hl : lv_has ls 3 [(0, .ref y0), (1, .int a1), (2, .int a2)] := hl
  refine lv_iload_n hx hb dX1_goTo_0 rfl (lv_at hl 1 rfl) ?_
  refine lv_iconst (v := 3) hx hb dX1_goTo_1 (by decide) ?_
  refine lv_iand hx hb dX1_goTo_2 ?_
  refine lv_if_eq (tgt := 13) hx hb dX1_goTo_3 (by decide) (fun c_1 => ?_) (fun c_1 => ?_)
  · refine lv_aload_n hx hb dX1_goTo_13 rfl (lv_at hl 0 rfl) ?_
    refine lv_iload_n hx hb dX1_goTo_14 rfl (lv_at hl 1 rfl) ?_
    refine va_put (D := (dC, dI)) (ci := 1) (v := .int a1) (ty := .int) (C := RX1) (T := TX1) (N := 12) hx hb hts (gw_lay lay_X1) tyX1 tyX1_ok nmX1 hown hK hP hD hS 0 rfl rfl 11 (by decide) (hts _ (gcons mF_X1_64)) (fun _ h9 => h9) rfl (by decide +kernel) rfl rfl (Nat.le_of_ble_eq_true rfl) dX1_goTo_15 (fun H locs hP hD hS => ?_)
    have hP : va_P (dC, dI) vwCl [(y0, .inr (1, [.int th, .ref ym, .ref yr, .ref yg, .int pcv, .int trv, .int vav, .int dnv, .int wv, .int fa, .int wi, .int a1])), (ym, .inl (d1, 16384, .inl me)), (yr, .inl (d2, 4, .inl rg)), (yg, .inl (d3, 32, .inl rs))] H := hP
    have hD : va_D A [(y0, .inr (1, [.int th, .ref ym, .ref yr, .ref yg, .int pcv, .int trv, .int vav, .int dnv, .int wv, .int fa, .int wi, .int a1])), (ym, .inl (d1, 16384, .inl me)), (yr, .inl (d2, 4, .inl rg)), (yg, .inl (d3, 32, .inl rs))] := hD
    refine lv_iload_n hx hb dX1_goTo_18 rfl (lv_at hl 2 rfl) ?_
    refine lv_if_eq (tgt := 32) hx hb dX1_goTo_19 (by decide) (fun c_2 => ?_) (fun c_2 => ?_)
    · exact W.vret hx hb hr (fun t ht hW => ⟨⟨(me, rs, fa, wi, a1), rfl, (by unfold F_m_goTo; first | (rw [if_pos c_1, if_pos c_2]; done) | (rw [if_pos c_1, if_pos c_2]; rfl)), by rw [ht]; exact hP, va_K.moved hW.alike hK, hD⟩, hS.F ht⟩) hS.2.2 dX1_goTo_32
    · refine lv_aload_n hx hb dX1_goTo_22 rfl (lv_at hl 0 rfl) ?_
      refine lv_aload_n hx hb dX1_goTo_23 rfl (lv_at hl 0 rfl) ?_
      refine va_get (D := (dC, dI)) (ci := 1) (v := .int pcv) (C := RX1) (T := TX1) (N := 12) hx hb hts (gw_lay lay_X1) hown hK hP 0 rfl rfl 4 (by decide) (hts _ (gcons mF_X1_27)) (fun _ h9 => h9) rfl dX1_goTo_24 ?_
      refine lv_iconst (v := 4) hx hb dX1_goTo_27 (by decide) ?_
      refine lv_iadd hx hb dX1_goTo_28 ?_
      have hFc := va_free (wc := [(y0, .inr (1, [.int th, .ref ym, .ref yr, .ref yg, .int pcv, .int trv, .int vav, .int dnv, .int wv, .int fa, .int wi, .int a1])), (ym, .inl (d1, 16384, .inl me)), (yr, .inl (d2, 4, .inl rg)), (yg, .inl (d3, 32, .inl rs))]) hD hS hA [0, 1, 2, 3] rfl
      refine va_callv (va_runV (As := [.int (pcv + 4)]) (rest := []) ⟨hx, hb, hml, hown, hts⟩ (c_m_put l dC dI y0 ym yr yg d1 d2 d3 H.size th me rg rs pcv trv vav dnv wv fa wi a1 (pcv + 4)) (cwV 1 hts (gV mL_X1_67 mI_X1_put mE_X1_put mN_X1 mC_X1_put) rfl rfl rfl (by decide +kernel) ⟨Nat.le_of_ble_eq_true rfl, Nat.le_of_ble_eq_true rfl⟩) ⟨fun a U g mk q => by obtain ⟨q0, q1, qP, qK, qD⟩ := q; exact ⟨q0, q1, qP, va_K.moved (u := U) (U := U.calling g mk a) (Vm.Alike.refl U.vm) qK, qD⟩, va_recv hK hP (ci := 1) (q0 := 0) rfl rfl, fun U hU hW => ⟨rfl, by rw [hU], by rw [hU]; exact hP, va_K.moved hW.alike hK, hD.weaken (fun _ _ _ _ => trivial)⟩⟩ rfl rfl hl.1 rfl (lv_room (Nat.le_of_ble_eq_true rfl)) dX1_goTo_29 ⟨Nat.zero_le _, Nat.zero_le _⟩) hS (fun q _ h => hFc q h) hFc (fun u t H1 locs ht hvm hw hB hz1 hk1 hS => ?_)
      rw [hw] at hB
      obtain ⟨hP1, hK1, hD1⟩ := hB
      rw [ht] at hP1
      obtain ⟨hP, hD⟩ := va_join (wr := []) (w1 := [(y0, .inr (1, [.int th, .ref ym, .ref yr, .ref yg, .int pcv, .int trv, .int vav, .int dnv, .int wv, .int fa, .int wi, .int a1])), (ym, .inl (d1, 16384, .inl me)), (yr, .inl (d2, 4, .inl rg)), (yg, .inl (d3, 32, .inl (F_m_put wv rs (pcv + 4))))]) hP hD [0, 1, 2, 3] [] rfl rfl (by decide) (by decide) hk1 hFc hP1 hD1
      generalize H1 = H at hP hS ⊢
      have hP : va_P (dC, dI) vwCl [(y0, .inr (1, [.int th, .ref ym, .ref yr, .ref yg, .int pcv, .int trv, .int vav, .int dnv, .int wv, .int fa, .int wi, .int a1])), (ym, .inl (d1, 16384, .inl me)), (yr, .inl (d2, 4, .inl rg)), (yg, .inl (d3, 32, .inl (F_m_put wv rs (pcv + 4))))] H := hP
      have hD : va_D A [(y0, .inr (1, [.int th, .ref ym, .ref yr, .ref yg, .int pcv, .int trv, .int vav, .int dnv, .int wv, .int fa, .int wi, .int a1])), (ym, .inl (d1, 16384, .inl me)), (yr, .inl (d2, 4, .inl rg)), (yg, .inl (d3, 32, .inl (F_m_put wv rs (pcv + 4))))] := hD
      exact W.vret hx hb hr (fun t ht hW => ⟨⟨(me, F_m_put wv rs (pcv + 4), fa, wi, a1), rfl, (by unfold F_m_goTo; first | (rw [if_pos c_1, if_neg c_2]; done) | (rw [if_pos c_1, if_neg c_2]; rfl)), by rw [ht]; exact hP, va_K.moved hW.alike hK, hD⟩, hS.F ht⟩) hS.2.2 dX1_goTo_32
  · refine lv_aload_n hx hb dX1_goTo_6 rfl (lv_at hl 0 rfl) ?_
    refine lv_iconst (v := 0) hx hb dX1_goTo_7 (by decide) ?_
    refine lv_iload_n hx hb dX1_goTo_8 rfl (lv_at hl 1 rfl) ?_
    have hFc := va_free (wc := [(y0, .inr (1, [.int th, .ref ym, .ref yr, .ref yg, .int pcv, .int trv, .int vav, .int dnv, .int wv, .int fa, .int wi, .int ne])), (ym, .inl (d1, 16384, .inl me)), (yr, .inl (d2, 4, .inl rg)), (yg, .inl (d3, 32, .inl rs))]) hD hS hA [0, 1, 2, 3] rfl
    refine va_callv (va_runV (As := [.int 0, .int a1]) (rest := []) ⟨hx, hb, hml, hown, hts⟩ (c_m_fail l dC dI y0 ym yr yg d1 d2 d3 s.heap.size th me rg rs pcv trv vav dnv wv fa wi ne 0 a1) (cwV 2 hts (gV mL_X1_60 mI_X1_fail mE_X1_fail mN_X1 mC_X1_fail) rfl rfl rfl (by decide +kernel) ⟨Nat.le_of_ble_eq_true rfl, Nat.le_of_ble_eq_true rfl⟩) ⟨fun a U g mk q => by obtain ⟨q0, q1, qP, qK, qD⟩ := q; exact ⟨q0, q1, qP, va_K.moved (u := U) (U := U.calling g mk a) (Vm.Alike.refl U.vm) qK, qD⟩, va_recv hK hP (ci := 1) (q0 := 0) rfl rfl, fun U hU hW => ⟨rfl, by rw [hU], by rw [hU]; exact hP, va_K.moved hW.alike hK, hD.weaken (fun _ _ _ _ => trivial)⟩⟩ rfl rfl hl.1 rfl (lv_room (Nat.le_of_ble_eq_true rfl)) dX1_goTo_9 ⟨Nat.zero_le _, Nat.zero_le _⟩) hS (fun q _ h => hFc q h) hFc (fun u t H1 locs ht hvm hw hB hz1 hk1 hS => ?_)
    rw [hw] at hB
    obtain ⟨hP1, hK1, hD1⟩ := hB
    rw [ht] at hP1
    obtain ⟨hP, hD⟩ := va_join (wr := []) (w1 := [(y0, .inr (1, [.int th, .ref ym, .ref yr, .ref yg, .int pcv, .int trv, .int vav, .int dnv, .int wv, .int ((F_m_fail 0 a1).1), .int ((F_m_fail 0 a1).2), .int ne])), (ym, .inl (d1, 16384, .inl me)), (yr, .inl (d2, 4, .inl rg)), (yg, .inl (d3, 32, .inl rs))]) hP hD [0, 1, 2, 3] [] rfl rfl (by decide) (by decide) hk1 hFc hP1 hD1
    generalize H1 = H at hP hS ⊢
    have hP : va_P (dC, dI) vwCl [(y0, .inr (1, [.int th, .ref ym, .ref yr, .ref yg, .int pcv, .int trv, .int vav, .int dnv, .int wv, .int ((F_m_fail 0 a1).1), .int ((F_m_fail 0 a1).2), .int ne])), (ym, .inl (d1, 16384, .inl me)), (yr, .inl (d2, 4, .inl rg)), (yg, .inl (d3, 32, .inl rs))] H := hP
    have hD : va_D A [(y0, .inr (1, [.int th, .ref ym, .ref yr, .ref yg, .int pcv, .int trv, .int vav, .int dnv, .int wv, .int ((F_m_fail 0 a1).1), .int ((F_m_fail 0 a1).2), .int ne])), (ym, .inl (d1, 16384, .inl me)), (yr, .inl (d2, 4, .inl rg)), (yg, .inl (d3, 32, .inl rs))] := hD
    exact W.vret hx hb hr (fun t ht hW => ⟨⟨(me, rs, (F_m_fail 0 a1).1, (F_m_fail 0 a1).2, ne), rfl, (by unfold F_m_goTo; first | (rw [if_neg c_1]; done) | (rw [if_neg c_1]; rfl)), by rw [ht]; exact hP, va_K.moved hW.alike hK, hD⟩, hS.F ht⟩) hS.2.2 dX1_goTo_12
def F_m_branch (me : Nat → Int32) (rg : Nat → Int32) (rs : Nat → Int32) (pcv : Int32) (wv : Int32) (fa : Int32) (wi : Int32) (ne : Int32) (a1 : Int32) (a2 : Int32) (a3 : Int32) : (Nat → Int32) × (Nat → Int32) × Int32 × Int32 × Int32 :=
  if a1 = 2 then
    (me, rs, (F_m_strange wv).1, (F_m_strange wv).2, ne)
  else
    if a1 = 3 then
      (me, rs, (F_m_strange wv).1, (F_m_strange wv).2, ne)
    else
      if (2 : Int32) ≤ a1 then
        if (6 : Int32) ≤ a1 then
          if (a1 - a1 / 2 * 2) = 0 then
            if (F_m_under a2 a3) = 1 then
              ((F_m_goTo me rg rs pcv wv fa wi ne (pcv + (F_m_b wv)) 0).1, (F_m_goTo me rg rs pcv wv fa wi ne (pcv + (F_m_b wv)) 0).2.1, (F_m_goTo me rg rs pcv wv fa wi ne (pcv + (F_m_b wv)) 0).2.2.1, (F_m_goTo me rg rs pcv wv fa wi ne (pcv + (F_m_b wv)) 0).2.2.2.1, (F_m_goTo me rg rs pcv wv fa wi ne (pcv + (F_m_b wv)) 0).2.2.2.2)
            else
              (me, rs, fa, wi, ne)
          else
            if (F_m_under a2 a3) = 0 then
              ((F_m_goTo me rg rs pcv wv fa wi ne (pcv + (F_m_b wv)) 0).1, (F_m_goTo me rg rs pcv wv fa wi ne (pcv + (F_m_b wv)) 0).2.1, (F_m_goTo me rg rs pcv wv fa wi ne (pcv + (F_m_b wv)) 0).2.2.1, (F_m_goTo me rg rs pcv wv fa wi ne (pcv + (F_m_b wv)) 0).2.2.2.1, (F_m_goTo me rg rs pcv wv fa wi ne (pcv + (F_m_b wv)) 0).2.2.2.2)
            else
              (me, rs, fa, wi, ne)
        else
          if a3 ≤ a2 then
            if (a1 - a1 / 2 * 2) = 0 then
              (me, rs, fa, wi, ne)
            else
              ((F_m_goTo me rg rs pcv wv fa wi ne (pcv + (F_m_b wv)) 0).1, (F_m_goTo me rg rs pcv wv fa wi ne (pcv + (F_m_b wv)) 0).2.1, (F_m_goTo me rg rs pcv wv fa wi ne (pcv + (F_m_b wv)) 0).2.2.1, (F_m_goTo me rg rs pcv wv fa wi ne (pcv + (F_m_b wv)) 0).2.2.2.1, (F_m_goTo me rg rs pcv wv fa wi ne (pcv + (F_m_b wv)) 0).2.2.2.2)
          else
            if (a1 - a1 / 2 * 2) = 0 then
              ((F_m_goTo me rg rs pcv wv fa wi ne (pcv + (F_m_b wv)) 0).1, (F_m_goTo me rg rs pcv wv fa wi ne (pcv + (F_m_b wv)) 0).2.1, (F_m_goTo me rg rs pcv wv fa wi ne (pcv + (F_m_b wv)) 0).2.2.1, (F_m_goTo me rg rs pcv wv fa wi ne (pcv + (F_m_b wv)) 0).2.2.2.1, (F_m_goTo me rg rs pcv wv fa wi ne (pcv + (F_m_b wv)) 0).2.2.2.2)
            else
              (me, rs, fa, wi, ne)
      else
        if a2 = a3 then
          if (a1 - a1 / 2 * 2) = 0 then
            ((F_m_goTo me rg rs pcv wv fa wi ne (pcv + (F_m_b wv)) 0).1, (F_m_goTo me rg rs pcv wv fa wi ne (pcv + (F_m_b wv)) 0).2.1, (F_m_goTo me rg rs pcv wv fa wi ne (pcv + (F_m_b wv)) 0).2.2.1, (F_m_goTo me rg rs pcv wv fa wi ne (pcv + (F_m_b wv)) 0).2.2.2.1, (F_m_goTo me rg rs pcv wv fa wi ne (pcv + (F_m_b wv)) 0).2.2.2.2)
          else
            (me, rs, fa, wi, ne)
        else
          if (a1 - a1 / 2 * 2) = 0 then
            (me, rs, fa, wi, ne)
          else
            ((F_m_goTo me rg rs pcv wv fa wi ne (pcv + (F_m_b wv)) 0).1, (F_m_goTo me rg rs pcv wv fa wi ne (pcv + (F_m_b wv)) 0).2.1, (F_m_goTo me rg rs pcv wv fa wi ne (pcv + (F_m_b wv)) 0).2.2.1, (F_m_goTo me rg rs pcv wv fa wi ne (pcv + (F_m_b wv)) 0).2.2.2.1, (F_m_goTo me rg rs pcv wv fa wi ne (pcv + (F_m_b wv)) 0).2.2.2.2)
set_option maxHeartbeats 4000000 in
set_option maxRecDepth 100000 in
theorem c_m_branch (l : Launch) (dC : Nat → ClassId) (dI : Nat → Nat → Nat) (y0 ym yr yg : Nat) (d1 d2 d3 : ClassId) (sz : Nat) (th : Int32) (me : Nat → Int32) (rg : Nat → Int32) (rs : Nat → Int32) (pcv : Int32) (trv : Int32) (vav : Int32) (dnv : Int32) (wv : Int32) (fa : Int32) (wi : Int32) (ne : Int32) (a1 : Int32) (a2 : Int32) (a3 : Int32)  : Met l yX1_branch wsX1_branch ({ frames := 3, cells := 0, slots := 0, locals := 68 }) (va_Pc [.ref y0, .int a1, .int a2, .int a3] (fun U => U.heap.size = sz ∧ va_P (dC, dI) vwCl [(y0, .inr (1, [.int th, .ref ym, .ref yr, .ref yg, .int pcv, .int trv, .int vav, .int dnv, .int wv, .int fa, .int wi, .int ne])), (ym, .inl (d1, 16384, .inl me)), (yr, .inl (d2, 4, .inl rg)), (yg, .inl (d3, 32, .inl rs))] U.heap ∧ va_K (dC, dI) vwCl [(d1, .byte), (d2, .int), (d3, .int)] U ∧ va_D (fun _ => True) [(y0, .inr (1, [.int th, .ref ym, .ref yr, .ref yg, .int pcv, .int trv, .int vav, .int dnv, .int wv, .int fa, .int wi, .int ne])), (ym, .inl (d1, 16384, .inl me)), (yr, .inl (d2, 4, .inl rg)), (yg, .inl (d3, 32, .inl rs))])) (va_Qv (fun u : (Nat → Int32) × (Nat → Int32) × Int32 × Int32 × Int32 => u = F_m_branch me rg rs pcv wv fa wi ne a1 a2 a3) (fun (u : (Nat → Int32) × (Nat → Int32) × Int32 × Int32 × Int32) (t : State) => va_P (dC, dI) vwCl [(y0, .inr (1, [.int th, .ref ym, .ref yr, .ref yg, .int pcv, .int trv, .int vav, .int dnv, .int wv, .int u.2.2.1, .int u.2.2.2.1, .int u.2.2.2.2])), (ym, .inl (d1, 16384, .inl u.1)), (yr, .inl (d2, 4, .inl rg)), (yg, .inl (d3, 32, .inl u.2.1))] t.heap ∧ va_K (dC, dI) vwCl [(d1, .byte), (d2, .int), (d3, .int)] t ∧ va_D (va_A [(y0, .inr (1, [.int th, .ref ym, .ref yr, .ref yg, .int pcv, .int trv, .int vav, .int dnv, .int wv, .int fa, .int wi, .int ne])), (ym, .inl (d1, 16384, .inl me)), (yr, .inl (d2, 4, .inl rg)), (yg, .inl (d3, 32, .inl rs))] sz) [(y0, .inr (1, [.int th, .ref ym, .ref yr, .ref yg, .int pcv, .int trv, .int vav, .int dnv, .int wv, .int u.2.2.1, .int u.2.2.2.1, .int u.2.2.2.2])), (ym, .inl (d1, 16384, .inl u.1)), (yr, .inl (d2, 4, .inl rg)), (yg, .inl (d3, 32, .inl u.2.1))]) (va_A [(y0, .inr (1, [.int th, .ref ym, .ref yr, .ref yg, .int pcv, .int trv, .int vav, .int dnv, .int wv, .int fa, .int wi, .int ne])), (ym, .inl (d1, 16384, .inl me)), (yr, .inl (d2, 4, .inl rg)), (yg, .inl (d3, 32, .inl rs))] sz)) 0 0 (va_A [(y0, .inr (1, [.int th, .ref ym, .ref yr, .ref yg, .int pcv, .int trv, .int vav, .int dnv, .int wv, .int fa, .int wi, .int ne])), (ym, .inl (d1, 16384, .inl me)), (yr, .inl (d2, 4, .inl rg)), (yg, .inl (d3, 32, .inl rs))] sz) := by
  refine Met.ofW (cc := cX1_branch) (maxL := 5) (ret := none) (by decide) rfl ?_
  intro p e s m args below meth c s₁ B hml hv
  obtain ⟨rfl, hsz, hP, hK, hD0⟩ := hv
  have hx := B.exec
  have hb := B.bytes
  have hr := B.returns
  have hts := atoms_spec (ws := wsX1_branch) B.pre
  have hown : s.vm.findClass RX1 = some m.cls := findClass_of_methodNamed B.named
  have hlocks := B.notSynchronized
  subst hsz
  have hD := hD0.self (sz := s.heap.size)
  generalize hAe : va_A [(y0, .inr (1, [.int th, .ref ym, .ref yr, .ref yg, .int pcv, .int trv, .int vav, .int dnv, .int wv, .int fa, .int wi, .int ne])), (ym, .inl (d1, 16384, .inl me)), (yr, .inl (d2, 4, .inl rg)), (yg, .inl (d3, 32, .inl rs))] s.heap.size = A at hD ⊢
  have hA : ∀ q : Nat, s.heap.size ≤ q → A q := fun q h => by rw [← hAe]; exact Or.inr h
  have hS : va_S A s.heap s.heap [] := va_S.rf
  have hP : va_P (dC, dI) vwCl [(y0, .inr (1, [.int th, .ref ym, .ref yr, .ref yg, .int pcv, .int trv, .int vav, .int dnv, .int wv, .int fa, .int wi, .int ne])), (ym, .inl (d1, 16384, .inl me)), (yr, .inl (d2, 4, .inl rg)), (yg, .inl (d3, 32, .inl rs))] s.heap := hP
  have hl := lv_entry ([.ref y0, .int a1, .int a2, .int a3]) (n := 5) (Nat.le_of_ble_eq_true rfl)
  rw [lg_entry_eq]
  generalize (lg_sl ([.ref y0, .int a1, .int a2, .int a3]) ++ List.replicate (5 - (lg_sl ([.ref y0, .int a1, .int a2, .int a3])).length) Slot.unset).toArray = ls at hl ⊢
  have hl : lv_has ls 5 [(0, .ref y0), (1, .int a1), (2, .int a2), (3, .int a3)] := hl
  refine lv_iload_n hx hb dX1_branch_0 rfl (lv_at hl 1 rfl) ?_
  refine lv_iconst (v := 2) hx hb dX1_branch_1 (by decide) ?_
  refine lv_icmp_eq (tgt := 10) hx hb dX1_branch_2 (by decide) (fun c_1 => ?_) (fun c_1 => ?_)
  · refine lv_aload_n hx hb dX1_branch_10 rfl (lv_at hl 0 rfl) ?_
    have hFc := va_free (wc := [(y0, .inr (1, [.int th, .ref ym, .ref yr, .ref yg, .int pcv, .int trv, .int vav, .int dnv, .int wv, .int fa, .int wi, .int ne])), (ym, .inl (d1, 16384, .inl me)), (yr, .inl (d2, 4, .inl rg)), (yg, .inl (d3, 32, .inl rs))]) hD hS hA [0, 1, 2, 3] rfl
    refine va_callv (va_runV (As := []) (rest := []) ⟨hx, hb, hml, hown, hts⟩ (c_m_strange l dC dI y0 ym yr yg d1 d2 d3 s.heap.size th me rg rs pcv trv vav dnv wv fa wi ne) (cwV 0 hts (gV mL_X1_71 mI_X1_strange mE_X1_strange mN_X1 mC_X1_strange) rfl rfl rfl (by decide +kernel) ⟨Nat.le_of_ble_eq_true rfl, Nat.le_of_ble_eq_true rfl⟩) ⟨fun a U g mk q => by obtain ⟨q0, q1, qP, qK, qD⟩ := q; exact ⟨q0, q1, qP, va_K.moved (u := U) (U := U.calling g mk a) (Vm.Alike.refl U.vm) qK, qD⟩, va_recv hK hP (ci := 1) (q0 := 0) rfl rfl, fun U hU hW => ⟨rfl, by rw [hU], by rw [hU]; exact hP, va_K.moved hW.alike hK, hD.weaken (fun _ _ _ _ => trivial)⟩⟩ rfl rfl hl.1 rfl (lv_room (Nat.le_of_ble_eq_true rfl)) dX1_branch_11 ⟨Nat.zero_le _, Nat.zero_le _⟩) hS (fun q _ h => hFc q h) hFc (fun u t H1 locs ht hvm hw hB hz1 hk1 hS => ?_)
    rw [hw] at hB
    obtain ⟨hP1, hK1, hD1⟩ := hB
    rw [ht] at hP1
    obtain ⟨hP, hD⟩ := va_join (wr := []) (w1 := [(y0, .inr (1, [.int th, .ref ym, .ref yr, .ref yg, .int pcv, .int trv, .int vav, .int dnv, .int wv, .int ((F_m_strange wv).1), .int ((F_m_strange wv).2), .int ne])), (ym, .inl (d1, 16384, .inl me)), (yr, .inl (d2, 4, .inl rg)), (yg, .inl (d3, 32, .inl rs))]) hP hD [0, 1, 2, 3] [] rfl rfl (by decide) (by decide) hk1 hFc hP1 hD1
    generalize H1 = H at hP hS ⊢
    have hP : va_P (dC, dI) vwCl [(y0, .inr (1, [.int th, .ref ym, .ref yr, .ref yg, .int pcv, .int trv, .int vav, .int dnv, .int wv, .int ((F_m_strange wv).1), .int ((F_m_strange wv).2), .int ne])), (ym, .inl (d1, 16384, .inl me)), (yr, .inl (d2, 4, .inl rg)), (yg, .inl (d3, 32, .inl rs))] H := hP
    have hD : va_D A [(y0, .inr (1, [.int th, .ref ym, .ref yr, .ref yg, .int pcv, .int trv, .int vav, .int dnv, .int wv, .int ((F_m_strange wv).1), .int ((F_m_strange wv).2), .int ne])), (ym, .inl (d1, 16384, .inl me)), (yr, .inl (d2, 4, .inl rg)), (yg, .inl (d3, 32, .inl rs))] := hD
    exact W.vret hx hb hr (fun t ht hW => ⟨⟨(me, rs, (F_m_strange wv).1, (F_m_strange wv).2, ne), rfl, (by unfold F_m_branch; first | (rw [if_pos c_1]; done) | (rw [if_pos c_1]; rfl)), by rw [ht]; exact hP, va_K.moved hW.alike hK, hD⟩, hS.F ht⟩) hS.2.2 dX1_branch_14
  · refine lv_iload_n hx hb dX1_branch_5 rfl (lv_at hl 1 rfl) ?_
    refine lv_iconst (v := 3) hx hb dX1_branch_6 (by decide) ?_
    refine lv_icmp_ne (tgt := 15) hx hb dX1_branch_7 (by decide) (fun c_5 => ?_) (fun c_5 => ?_)
    · refine lv_iload_n hx hb dX1_branch_15 rfl (lv_at hl 1 rfl) ?_
      refine lv_iconst (v := 2) hx hb dX1_branch_16 (by decide) ?_
      refine lv_icmp_ge (tgt := 33) hx hb dX1_branch_17 (by decide) (fun c_6 => ?_) (fun c_6 => ?_)
      · refine lv_iload_n hx hb dX1_branch_33 rfl (lv_at hl 1 rfl) ?_
        refine lv_bipush (v := 6) hx hb dX1_branch_34 (by decide) ?_
        refine lv_icmp_ge (tgt := 52) hx hb dX1_branch_36 (by decide) (fun c_7 => ?_) (fun c_7 => ?_)
        · refine lv_iload_n hx hb dX1_branch_52 rfl (lv_at hl 2 rfl) ?_
          refine lv_iload_n hx hb dX1_branch_53 rfl (lv_at hl 3 rfl) ?_
          refine vp_callSi (W.runS (As := [.int a2, .int a3]) (rest := []) ⟨hx, hb, hml, hown, hts⟩ (c_m_under l a2 a3) (cwS 2 hts (gS mL_X1_40 mS_X1_under mN_X1 mC_X1_under) rfl rfl rfl (by decide +kernel) ⟨Nat.le_of_ble_eq_true rfl, Nat.le_of_ble_eq_true rfl⟩) preEq rfl rfl hl.1 rfl (lv_room (Nat.le_of_ble_eq_true rfl)) dX1_branch_54 ⟨Nat.zero_le _, Nat.zero_le _⟩) (fun r_8 hw => ?_)
          obtain ⟨b_9, hw⟩ := hw
          rw [hw] at b_9 ⊢
          clear hw
          refine lv_istore (lv' := [(4, .int (F_m_under a2 a3)), (0, .ref y0), (1, .int a1), (2, .int a2), (3, .int a3)]) hx hb dX1_branch_57 hl (by decide) rfl (fun ls hl => ?_)
          refine lv_iload hx hb dX1_branch_59 (lv_at hl 0 rfl) ?_
          refine lv_iload_n hx hb dX1_branch_61 rfl (lv_at hl 2 rfl) ?_
          refine lv_iconst (v := 2) hx hb dX1_branch_62 (by decide) ?_
          refine lv_irem hx hb dX1_branch_63 (by decide) ?_
          refine lv_if_ne (tgt := 71) hx hb dX1_branch_64 (by decide) (fun c_10 => ?_) (fun c_10 => ?_)
          · refine lv_iconst (v := 0) hx hb dX1_branch_71 (by decide) ?_
            refine lv_icmp_ne (tgt := 89) hx hb dX1_branch_72 (by decide) (fun c_11 => ?_) (fun c_11 => ?_)
            · exact W.vret hx hb hr (fun t ht hW => ⟨⟨(me, rs, fa, wi, ne), rfl, (by unfold F_m_branch; first | (rw [if_neg c_1, if_neg c_5, if_pos c_6, if_pos c_7, if_neg c_10, if_neg c_11]; done) | (rw [if_neg c_1, if_neg c_5, if_pos c_6, if_pos c_7, if_neg c_10, if_neg c_11]; rfl)), by rw [ht]; exact hP, va_K.moved hW.alike hK, hD⟩, hS.F ht⟩) hS.2.2 dX1_branch_89
            · refine lv_aload_n hx hb dX1_branch_75 rfl (lv_at hl 1 rfl) ?_
              refine lv_aload_n hx hb dX1_branch_76 rfl (lv_at hl 1 rfl) ?_
              refine va_get (D := (dC, dI)) (ci := 1) (v := .int pcv) (C := RX1) (T := TX1) (N := 12) hx hb hts (gw_lay lay_X1) hown hK hP 0 rfl rfl 4 (by decide) (hts _ (gcons mF_X1_27)) (fun _ h9 => h9) rfl dX1_branch_77 ?_
              refine lv_aload_n hx hb dX1_branch_80 rfl (lv_at hl 1 rfl) ?_
              refine vp_callSi (W.runV (As := []) (rest := [.int pcv, .ref y0]) ⟨hx, hb, hml, hown, hts⟩ (c_m_b l dC dI y0 ym yr yg d1 d2 d3 th me rg rs pcv trv vav dnv wv fa wi ne) (cwV 0 hts (gV mL_X1_74 mI_X1_b mE_X1_b mN_X1 mC_X1_b) rfl rfl rfl (by decide +kernel) ⟨Nat.le_of_ble_eq_true rfl, Nat.le_of_ble_eq_true rfl⟩) ⟨fun a U g mk q => by obtain ⟨q0, qP, qK⟩ := q; exact ⟨q0, qP, va_K.moved (u := U) (U := U.calling g mk a) (Vm.Alike.refl U.vm) qK⟩, va_recv hK hP (ci := 1) (q0 := 0) rfl rfl, fun U hU hW => ⟨rfl, by rw [hU]; exact hP, va_K.moved hW.alike hK⟩⟩ rfl rfl hl.1 rfl (lv_room (Nat.le_of_ble_eq_true rfl)) dX1_branch_81 ⟨Nat.zero_le _, Nat.zero_le _⟩) (fun r_12 hw => ?_)
              rw [hw]
              clear hw r_12
              refine lv_iadd hx hb dX1_branch_84 ?_
              refine lv_iconst (v := 0) hx hb dX1_branch_85 (by decide) ?_
              have hFc := va_free (wc := [(y0, .inr (1, [.int th, .ref ym, .ref yr, .ref yg, .int pcv, .int trv, .int vav, .int dnv, .int wv, .int fa, .int wi, .int ne])), (ym, .inl (d1, 16384, .inl me)), (yr, .inl (d2, 4, .inl rg)), (yg, .inl (d3, 32, .inl rs))]) hD hS hA [0, 1, 2, 3] rfl
              refine va_callv (va_runV (As := [.int (pcv + (F_m_b wv)), .int 0]) (rest := []) ⟨hx, hb, hml, hown, hts⟩ (c_m_goTo l dC dI y0 ym yr yg d1 d2 d3 s.heap.size th me rg rs pcv trv vav dnv wv fa wi ne (pcv + (F_m_b wv)) 0) (cwV 2 hts (gV mL_X1_78 mI_X1_goTo mE_X1_goTo mN_X1 mC_X1_goTo) rfl rfl rfl (by decide +kernel) ⟨Nat.le_of_ble_eq_true rfl, Nat.le_of_ble_eq_true rfl⟩) ⟨fun a U g mk q => by obtain ⟨q0, q1, qP, qK, qD⟩ := q; exact ⟨q0, q1, qP, va_K.moved (u := U) (U := U.calling g mk a) (Vm.Alike.refl U.vm) qK, qD⟩, va_recv hK hP (ci := 1) (q0 := 0) rfl rfl, fun U hU hW => ⟨rfl, by rw [hU], by rw [hU]; exact hP, va_K.moved hW.alike hK, hD.weaken (fun _ _ _ _ => trivial)⟩⟩ rfl rfl hl.1 rfl (lv_room (Nat.le_of_ble_eq_true rfl)) dX1_branch_86 ⟨Nat.zero_le _, Nat.zero_le _⟩) hS (fun q _ h => hFc q h) hFc (fun u t H1 locs ht hvm hw hB hz1 hk1 hS => ?_)
              rw [hw] at hB
              obtain ⟨hP1, hK1, hD1⟩ := hB
              rw [ht] at hP1
              obtain ⟨hP, hD⟩ := va_join (wr := []) (w1 := [(y0, .inr (1, [.int th, .ref ym, .ref yr, .ref yg, .int pcv, .int trv, .int vav, .int dnv, .int wv, .int ((F_m_goTo me rg rs pcv wv fa wi ne (pcv + (F_m_b wv)) 0).2.2.1), .int ((F_m_goTo me rg rs pcv wv fa wi ne (pcv + (F_m_b wv)) 0).2.2.2.1), .int ((F_m_goTo me rg rs pcv wv fa wi ne (pcv + (F_m_b wv)) 0).2.2.2.2)])), (ym, .inl (d1, 16384, .inl ((F_m_goTo me rg rs pcv wv fa wi ne (pcv + (F_m_b wv)) 0).1))), (yr, .inl (d2, 4, .inl rg)), (yg, .inl (d3, 32, .inl ((F_m_goTo me rg rs pcv wv fa wi ne (pcv + (F_m_b wv)) 0).2.1)))]) hP hD [0, 1, 2, 3] [] rfl rfl (by decide) (by decide) hk1 hFc hP1 hD1
              generalize H1 = H at hP hS ⊢
              have hP : va_P (dC, dI) vwCl [(y0, .inr (1, [.int th, .ref ym, .ref yr, .ref yg, .int pcv, .int trv, .int vav, .int dnv, .int wv, .int ((F_m_goTo me rg rs pcv wv fa wi ne (pcv + (F_m_b wv)) 0).2.2.1), .int ((F_m_goTo me rg rs pcv wv fa wi ne (pcv + (F_m_b wv)) 0).2.2.2.1), .int ((F_m_goTo me rg rs pcv wv fa wi ne (pcv + (F_m_b wv)) 0).2.2.2.2)])), (ym, .inl (d1, 16384, .inl ((F_m_goTo me rg rs pcv wv fa wi ne (pcv + (F_m_b wv)) 0).1))), (yr, .inl (d2, 4, .inl rg)), (yg, .inl (d3, 32, .inl ((F_m_goTo me rg rs pcv wv fa wi ne (pcv + (F_m_b wv)) 0).2.1)))] H := hP
              have hD : va_D A [(y0, .inr (1, [.int th, .ref ym, .ref yr, .ref yg, .int pcv, .int trv, .int vav, .int dnv, .int wv, .int ((F_m_goTo me rg rs pcv wv fa wi ne (pcv + (F_m_b wv)) 0).2.2.1), .int ((F_m_goTo me rg rs pcv wv fa wi ne (pcv + (F_m_b wv)) 0).2.2.2.1), .int ((F_m_goTo me rg rs pcv wv fa wi ne (pcv + (F_m_b wv)) 0).2.2.2.2)])), (ym, .inl (d1, 16384, .inl ((F_m_goTo me rg rs pcv wv fa wi ne (pcv + (F_m_b wv)) 0).1))), (yr, .inl (d2, 4, .inl rg)), (yg, .inl (d3, 32, .inl ((F_m_goTo me rg rs pcv wv fa wi ne (pcv + (F_m_b wv)) 0).2.1)))] := hD
              exact W.vret hx hb hr (fun t ht hW => ⟨⟨((F_m_goTo me rg rs pcv wv fa wi ne (pcv + (F_m_b wv)) 0).1, (F_m_goTo me rg rs pcv wv fa wi ne (pcv + (F_m_b wv)) 0).2.1, (F_m_goTo me rg rs pcv wv fa wi ne (pcv + (F_m_b wv)) 0).2.2.1, (F_m_goTo me rg rs pcv wv fa wi ne (pcv + (F_m_b wv)) 0).2.2.2.1, (F_m_goTo me rg rs pcv wv fa wi ne (pcv + (F_m_b wv)) 0).2.2.2.2), rfl, (by unfold F_m_branch; first | (rw [if_neg c_1, if_neg c_5, if_pos c_6, if_pos c_7, if_neg c_10, if_pos c_11]; done) | (rw [if_neg c_1, if_neg c_5, if_pos c_6, if_pos c_7, if_neg c_10, if_pos c_11]; rfl)), by rw [ht]; exact hP, va_K.moved hW.alike hK, hD⟩, hS.F ht⟩) hS.2.2 dX1_branch_89
          · refine lv_iconst (v := 1) hx hb dX1_branch_67 (by decide) ?_
            refine lv_goto (tgt := 72) hx hb dX1_branch_68 (by decide) ?_
            refine lv_icmp_ne (tgt := 89) hx hb dX1_branch_72 (by decide) (fun c_19 => ?_) (fun c_19 => ?_)
            · exact W.vret hx hb hr (fun t ht hW => ⟨⟨(me, rs, fa, wi, ne), rfl, (by unfold F_m_branch; first | (rw [if_neg c_1, if_neg c_5, if_pos c_6, if_pos c_7, if_pos c_10, if_neg c_19]; done) | (rw [if_neg c_1, if_neg c_5, if_pos c_6, if_pos c_7, if_pos c_10, if_neg c_19]; rfl)), by rw [ht]; exact hP, va_K.moved hW.alike hK, hD⟩, hS.F ht⟩) hS.2.2 dX1_branch_89
            · refine lv_aload_n hx hb dX1_branch_75 rfl (lv_at hl 1 rfl) ?_
              refine lv_aload_n hx hb dX1_branch_76 rfl (lv_at hl 1 rfl) ?_
              refine va_get (D := (dC, dI)) (ci := 1) (v := .int pcv) (C := RX1) (T := TX1) (N := 12) hx hb hts (gw_lay lay_X1) hown hK hP 0 rfl rfl 4 (by decide) (hts _ (gcons mF_X1_27)) (fun _ h9 => h9) rfl dX1_branch_77 ?_
              refine lv_aload_n hx hb dX1_branch_80 rfl (lv_at hl 1 rfl) ?_
              refine vp_callSi (W.runV (As := []) (rest := [.int pcv, .ref y0]) ⟨hx, hb, hml, hown, hts⟩ (c_m_b l dC dI y0 ym yr yg d1 d2 d3 th me rg rs pcv trv vav dnv wv fa wi ne) (cwV 0 hts (gV mL_X1_74 mI_X1_b mE_X1_b mN_X1 mC_X1_b) rfl rfl rfl (by decide +kernel) ⟨Nat.le_of_ble_eq_true rfl, Nat.le_of_ble_eq_true rfl⟩) ⟨fun a U g mk q => by obtain ⟨q0, qP, qK⟩ := q; exact ⟨q0, qP, va_K.moved (u := U) (U := U.calling g mk a) (Vm.Alike.refl U.vm) qK⟩, va_recv hK hP (ci := 1) (q0 := 0) rfl rfl, fun U hU hW => ⟨rfl, by rw [hU]; exact hP, va_K.moved hW.alike hK⟩⟩ rfl rfl hl.1 rfl (lv_room (Nat.le_of_ble_eq_true rfl)) dX1_branch_81 ⟨Nat.zero_le _, Nat.zero_le _⟩) (fun r_20 hw => ?_)
              rw [hw]
              clear hw r_20
              refine lv_iadd hx hb dX1_branch_84 ?_
              refine lv_iconst (v := 0) hx hb dX1_branch_85 (by decide) ?_
              have hFc := va_free (wc := [(y0, .inr (1, [.int th, .ref ym, .ref yr, .ref yg, .int pcv, .int trv, .int vav, .int dnv, .int wv, .int fa, .int wi, .int ne])), (ym, .inl (d1, 16384, .inl me)), (yr, .inl (d2, 4, .inl rg)), (yg, .inl (d3, 32, .inl rs))]) hD hS hA [0, 1, 2, 3] rfl
              refine va_callv (va_runV (As := [.int (pcv + (F_m_b wv)), .int 0]) (rest := []) ⟨hx, hb, hml, hown, hts⟩ (c_m_goTo l dC dI y0 ym yr yg d1 d2 d3 s.heap.size th me rg rs pcv trv vav dnv wv fa wi ne (pcv + (F_m_b wv)) 0) (cwV 2 hts (gV mL_X1_78 mI_X1_goTo mE_X1_goTo mN_X1 mC_X1_goTo) rfl rfl rfl (by decide +kernel) ⟨Nat.le_of_ble_eq_true rfl, Nat.le_of_ble_eq_true rfl⟩) ⟨fun a U g mk q => by obtain ⟨q0, q1, qP, qK, qD⟩ := q; exact ⟨q0, q1, qP, va_K.moved (u := U) (U := U.calling g mk a) (Vm.Alike.refl U.vm) qK, qD⟩, va_recv hK hP (ci := 1) (q0 := 0) rfl rfl, fun U hU hW => ⟨rfl, by rw [hU], by rw [hU]; exact hP, va_K.moved hW.alike hK, hD.weaken (fun _ _ _ _ => trivial)⟩⟩ rfl rfl hl.1 rfl (lv_room (Nat.le_of_ble_eq_true rfl)) dX1_branch_86 ⟨Nat.zero_le _, Nat.zero_le _⟩) hS (fun q _ h => hFc q h) hFc (fun u t H1 locs ht hvm hw hB hz1 hk1 hS => ?_)
              rw [hw] at hB
              obtain ⟨hP1, hK1, hD1⟩ := hB
              rw [ht] at hP1
              obtain ⟨hP, hD⟩ := va_join (wr := []) (w1 := [(y0, .inr (1, [.int th, .ref ym, .ref yr, .ref yg, .int pcv, .int trv, .int vav, .int dnv, .int wv, .int ((F_m_goTo me rg rs pcv wv fa wi ne (pcv + (F_m_b wv)) 0).2.2.1), .int ((F_m_goTo me rg rs pcv wv fa wi ne (pcv + (F_m_b wv)) 0).2.2.2.1), .int ((F_m_goTo me rg rs pcv wv fa wi ne (pcv + (F_m_b wv)) 0).2.2.2.2)])), (ym, .inl (d1, 16384, .inl ((F_m_goTo me rg rs pcv wv fa wi ne (pcv + (F_m_b wv)) 0).1))), (yr, .inl (d2, 4, .inl rg)), (yg, .inl (d3, 32, .inl ((F_m_goTo me rg rs pcv wv fa wi ne (pcv + (F_m_b wv)) 0).2.1)))]) hP hD [0, 1, 2, 3] [] rfl rfl (by decide) (by decide) hk1 hFc hP1 hD1
              generalize H1 = H at hP hS ⊢
              have hP : va_P (dC, dI) vwCl [(y0, .inr (1, [.int th, .ref ym, .ref yr, .ref yg, .int pcv, .int trv, .int vav, .int dnv, .int wv, .int ((F_m_goTo me rg rs pcv wv fa wi ne (pcv + (F_m_b wv)) 0).2.2.1), .int ((F_m_goTo me rg rs pcv wv fa wi ne (pcv + (F_m_b wv)) 0).2.2.2.1), .int ((F_m_goTo me rg rs pcv wv fa wi ne (pcv + (F_m_b wv)) 0).2.2.2.2)])), (ym, .inl (d1, 16384, .inl ((F_m_goTo me rg rs pcv wv fa wi ne (pcv + (F_m_b wv)) 0).1))), (yr, .inl (d2, 4, .inl rg)), (yg, .inl (d3, 32, .inl ((F_m_goTo me rg rs pcv wv fa wi ne (pcv + (F_m_b wv)) 0).2.1)))] H := hP
              have hD : va_D A [(y0, .inr (1, [.int th, .ref ym, .ref yr, .ref yg, .int pcv, .int trv, .int vav, .int dnv, .int wv, .int ((F_m_goTo me rg rs pcv wv fa wi ne (pcv + (F_m_b wv)) 0).2.2.1), .int ((F_m_goTo me rg rs pcv wv fa wi ne (pcv + (F_m_b wv)) 0).2.2.2.1), .int ((F_m_goTo me rg rs pcv wv fa wi ne (pcv + (F_m_b wv)) 0).2.2.2.2)])), (ym, .inl (d1, 16384, .inl ((F_m_goTo me rg rs pcv wv fa wi ne (pcv + (F_m_b wv)) 0).1))), (yr, .inl (d2, 4, .inl rg)), (yg, .inl (d3, 32, .inl ((F_m_goTo me rg rs pcv wv fa wi ne (pcv + (F_m_b wv)) 0).2.1)))] := hD
              exact W.vret hx hb hr (fun t ht hW => ⟨⟨((F_m_goTo me rg rs pcv wv fa wi ne (pcv + (F_m_b wv)) 0).1, (F_m_goTo me rg rs pcv wv fa wi ne (pcv + (F_m_b wv)) 0).2.1, (F_m_goTo me rg rs pcv wv fa wi ne (pcv + (F_m_b wv)) 0).2.2.1, (F_m_goTo me rg rs pcv wv fa wi ne (pcv + (F_m_b wv)) 0).2.2.2.1, (F_m_goTo me rg rs pcv wv fa wi ne (pcv + (F_m_b wv)) 0).2.2.2.2), rfl, (by unfold F_m_branch; first | (rw [if_neg c_1, if_neg c_5, if_pos c_6, if_pos c_7, if_pos c_10, if_pos c_19]; done) | (rw [if_neg c_1, if_neg c_5, if_pos c_6, if_pos c_7, if_pos c_10, if_pos c_19]; rfl)), by rw [ht]; exact hP, va_K.moved hW.alike hK, hD⟩, hS.F ht⟩) hS.2.2 dX1_branch_89
        · refine lv_iload_n hx hb dX1_branch_39 rfl (lv_at hl 2 rfl) ?_
          refine lv_iload_n hx hb dX1_branch_40 rfl (lv_at hl 3 rfl) ?_
          refine lv_icmp_ge (tgt := 48) hx hb dX1_branch_41 (by decide) (fun c_27 => ?_) (fun c_27 => ?_)
          · refine lv_iconst (v := 0) hx hb dX1_branch_48 (by decide) ?_
            refine lv_goto (tgt := 57) hx hb dX1_branch_49 (by decide) ?_
            refine lv_istore (lv' := [(4, .int 0), (0, .ref y0), (1, .int a1), (2, .int a2), (3, .int a3)]) hx hb dX1_branch_57 hl (by decide) rfl (fun ls hl => ?_)
            refine lv_iload hx hb dX1_branch_59 (lv_at hl 0 rfl) ?_
            refine lv_iload_n hx hb dX1_branch_61 rfl (lv_at hl 2 rfl) ?_
            refine lv_iconst (v := 2) hx hb dX1_branch_62 (by decide) ?_
            refine lv_irem hx hb dX1_branch_63 (by decide) ?_
            refine lv_if_ne (tgt := 71) hx hb dX1_branch_64 (by decide) (fun c_28 => ?_) (fun c_28 => ?_)
            · refine lv_iconst (v := 0) hx hb dX1_branch_71 (by decide) ?_
              refine lv_icmp_ne (tgt := 89) hx hb dX1_branch_72 (by decide) (fun c_29 => ?_) (fun c_29 => ?_)
              · exact absurd (by decide) c_29
              · refine lv_aload_n hx hb dX1_branch_75 rfl (lv_at hl 1 rfl) ?_
                refine lv_aload_n hx hb dX1_branch_76 rfl (lv_at hl 1 rfl) ?_
                refine va_get (D := (dC, dI)) (ci := 1) (v := .int pcv) (C := RX1) (T := TX1) (N := 12) hx hb hts (gw_lay lay_X1) hown hK hP 0 rfl rfl 4 (by decide) (hts _ (gcons mF_X1_27)) (fun _ h9 => h9) rfl dX1_branch_77 ?_
                refine lv_aload_n hx hb dX1_branch_80 rfl (lv_at hl 1 rfl) ?_
                refine vp_callSi (W.runV (As := []) (rest := [.int pcv, .ref y0]) ⟨hx, hb, hml, hown, hts⟩ (c_m_b l dC dI y0 ym yr yg d1 d2 d3 th me rg rs pcv trv vav dnv wv fa wi ne) (cwV 0 hts (gV mL_X1_74 mI_X1_b mE_X1_b mN_X1 mC_X1_b) rfl rfl rfl (by decide +kernel) ⟨Nat.le_of_ble_eq_true rfl, Nat.le_of_ble_eq_true rfl⟩) ⟨fun a U g mk q => by obtain ⟨q0, qP, qK⟩ := q; exact ⟨q0, qP, va_K.moved (u := U) (U := U.calling g mk a) (Vm.Alike.refl U.vm) qK⟩, va_recv hK hP (ci := 1) (q0 := 0) rfl rfl, fun U hU hW => ⟨rfl, by rw [hU]; exact hP, va_K.moved hW.alike hK⟩⟩ rfl rfl hl.1 rfl (lv_room (Nat.le_of_ble_eq_true rfl)) dX1_branch_81 ⟨Nat.zero_le _, Nat.zero_le _⟩) (fun r_30 hw => ?_)
                rw [hw]
                clear hw r_30
                refine lv_iadd hx hb dX1_branch_84 ?_
                refine lv_iconst (v := 0) hx hb dX1_branch_85 (by decide) ?_
                have hFc := va_free (wc := [(y0, .inr (1, [.int th, .ref ym, .ref yr, .ref yg, .int pcv, .int trv, .int vav, .int dnv, .int wv, .int fa, .int wi, .int ne])), (ym, .inl (d1, 16384, .inl me)), (yr, .inl (d2, 4, .inl rg)), (yg, .inl (d3, 32, .inl rs))]) hD hS hA [0, 1, 2, 3] rfl
                refine va_callv (va_runV (As := [.int (pcv + (F_m_b wv)), .int 0]) (rest := []) ⟨hx, hb, hml, hown, hts⟩ (c_m_goTo l dC dI y0 ym yr yg d1 d2 d3 s.heap.size th me rg rs pcv trv vav dnv wv fa wi ne (pcv + (F_m_b wv)) 0) (cwV 2 hts (gV mL_X1_78 mI_X1_goTo mE_X1_goTo mN_X1 mC_X1_goTo) rfl rfl rfl (by decide +kernel) ⟨Nat.le_of_ble_eq_true rfl, Nat.le_of_ble_eq_true rfl⟩) ⟨fun a U g mk q => by obtain ⟨q0, q1, qP, qK, qD⟩ := q; exact ⟨q0, q1, qP, va_K.moved (u := U) (U := U.calling g mk a) (Vm.Alike.refl U.vm) qK, qD⟩, va_recv hK hP (ci := 1) (q0 := 0) rfl rfl, fun U hU hW => ⟨rfl, by rw [hU], by rw [hU]; exact hP, va_K.moved hW.alike hK, hD.weaken (fun _ _ _ _ => trivial)⟩⟩ rfl rfl hl.1 rfl (lv_room (Nat.le_of_ble_eq_true rfl)) dX1_branch_86 ⟨Nat.zero_le _, Nat.zero_le _⟩) hS (fun q _ h => hFc q h) hFc (fun u t H1 locs ht hvm hw hB hz1 hk1 hS => ?_)
                rw [hw] at hB
                obtain ⟨hP1, hK1, hD1⟩ := hB
                rw [ht] at hP1
                obtain ⟨hP, hD⟩ := va_join (wr := []) (w1 := [(y0, .inr (1, [.int th, .ref ym, .ref yr, .ref yg, .int pcv, .int trv, .int vav, .int dnv, .int wv, .int ((F_m_goTo me rg rs pcv wv fa wi ne (pcv + (F_m_b wv)) 0).2.2.1), .int ((F_m_goTo me rg rs pcv wv fa wi ne (pcv + (F_m_b wv)) 0).2.2.2.1), .int ((F_m_goTo me rg rs pcv wv fa wi ne (pcv + (F_m_b wv)) 0).2.2.2.2)])), (ym, .inl (d1, 16384, .inl ((F_m_goTo me rg rs pcv wv fa wi ne (pcv + (F_m_b wv)) 0).1))), (yr, .inl (d2, 4, .inl rg)), (yg, .inl (d3, 32, .inl ((F_m_goTo me rg rs pcv wv fa wi ne (pcv + (F_m_b wv)) 0).2.1)))]) hP hD [0, 1, 2, 3] [] rfl rfl (by decide) (by decide) hk1 hFc hP1 hD1
                generalize H1 = H at hP hS ⊢
                have hP : va_P (dC, dI) vwCl [(y0, .inr (1, [.int th, .ref ym, .ref yr, .ref yg, .int pcv, .int trv, .int vav, .int dnv, .int wv, .int ((F_m_goTo me rg rs pcv wv fa wi ne (pcv + (F_m_b wv)) 0).2.2.1), .int ((F_m_goTo me rg rs pcv wv fa wi ne (pcv + (F_m_b wv)) 0).2.2.2.1), .int ((F_m_goTo me rg rs pcv wv fa wi ne (pcv + (F_m_b wv)) 0).2.2.2.2)])), (ym, .inl (d1, 16384, .inl ((F_m_goTo me rg rs pcv wv fa wi ne (pcv + (F_m_b wv)) 0).1))), (yr, .inl (d2, 4, .inl rg)), (yg, .inl (d3, 32, .inl ((F_m_goTo me rg rs pcv wv fa wi ne (pcv + (F_m_b wv)) 0).2.1)))] H := hP
                have hD : va_D A [(y0, .inr (1, [.int th, .ref ym, .ref yr, .ref yg, .int pcv, .int trv, .int vav, .int dnv, .int wv, .int ((F_m_goTo me rg rs pcv wv fa wi ne (pcv + (F_m_b wv)) 0).2.2.1), .int ((F_m_goTo me rg rs pcv wv fa wi ne (pcv + (F_m_b wv)) 0).2.2.2.1), .int ((F_m_goTo me rg rs pcv wv fa wi ne (pcv + (F_m_b wv)) 0).2.2.2.2)])), (ym, .inl (d1, 16384, .inl ((F_m_goTo me rg rs pcv wv fa wi ne (pcv + (F_m_b wv)) 0).1))), (yr, .inl (d2, 4, .inl rg)), (yg, .inl (d3, 32, .inl ((F_m_goTo me rg rs pcv wv fa wi ne (pcv + (F_m_b wv)) 0).2.1)))] := hD
                exact W.vret hx hb hr (fun t ht hW => ⟨⟨((F_m_goTo me rg rs pcv wv fa wi ne (pcv + (F_m_b wv)) 0).1, (F_m_goTo me rg rs pcv wv fa wi ne (pcv + (F_m_b wv)) 0).2.1, (F_m_goTo me rg rs pcv wv fa wi ne (pcv + (F_m_b wv)) 0).2.2.1, (F_m_goTo me rg rs pcv wv fa wi ne (pcv + (F_m_b wv)) 0).2.2.2.1, (F_m_goTo me rg rs pcv wv fa wi ne (pcv + (F_m_b wv)) 0).2.2.2.2), rfl, (by unfold F_m_branch; first | (rw [if_neg c_1, if_neg c_5, if_pos c_6, if_neg c_7, if_pos c_27, if_neg c_28]; done) | (rw [if_neg c_1, if_neg c_5, if_pos c_6, if_neg c_7, if_pos c_27, if_neg c_28]; rfl)), by rw [ht]; exact hP, va_K.moved hW.alike hK, hD⟩, hS.F ht⟩) hS.2.2 dX1_branch_89
            · refine lv_iconst (v := 1) hx hb dX1_branch_67 (by decide) ?_
              refine lv_goto (tgt := 72) hx hb dX1_branch_68 (by decide) ?_
              refine lv_icmp_ne (tgt := 89) hx hb dX1_branch_72 (by decide) (fun c_37 => ?_) (fun c_37 => ?_)
              · exact W.vret hx hb hr (fun t ht hW => ⟨⟨(me, rs, fa, wi, ne), rfl, (by unfold F_m_branch; first | (rw [if_neg c_1, if_neg c_5, if_pos c_6, if_neg c_7, if_pos c_27, if_pos c_28]; done) | (rw [if_neg c_1, if_neg c_5, if_pos c_6, if_neg c_7, if_pos c_27, if_pos c_28]; rfl)), by rw [ht]; exact hP, va_K.moved hW.alike hK, hD⟩, hS.F ht⟩) hS.2.2 dX1_branch_89
              · exact absurd c_37 (by decide)
          · refine lv_iconst (v := 1) hx hb dX1_branch_44 (by decide) ?_
            refine lv_goto (tgt := 57) hx hb dX1_branch_45 (by decide) ?_
            refine lv_istore (lv' := [(4, .int 1), (0, .ref y0), (1, .int a1), (2, .int a2), (3, .int a3)]) hx hb dX1_branch_57 hl (by decide) rfl (fun ls hl => ?_)
            refine lv_iload hx hb dX1_branch_59 (lv_at hl 0 rfl) ?_
            refine lv_iload_n hx hb dX1_branch_61 rfl (lv_at hl 2 rfl) ?_
            refine lv_iconst (v := 2) hx hb dX1_branch_62 (by decide) ?_
            refine lv_irem hx hb dX1_branch_63 (by decide) ?_
            refine lv_if_ne (tgt := 71) hx hb dX1_branch_64 (by decide) (fun c_38 => ?_) (fun c_38 => ?_)
            · refine lv_iconst (v := 0) hx hb dX1_branch_71 (by decide) ?_
              refine lv_icmp_ne (tgt := 89) hx hb dX1_branch_72 (by decide) (fun c_39 => ?_) (fun c_39 => ?_)
              · exact W.vret hx hb hr (fun t ht hW => ⟨⟨(me, rs, fa, wi, ne), rfl, (by unfold F_m_branch; first | (rw [if_neg c_1, if_neg c_5, if_pos c_6, if_neg c_7, if_neg c_27, if_neg c_38]; done) | (rw [if_neg c_1, if_neg c_5, if_pos c_6, if_neg c_7, if_neg c_27, if_neg c_38]; rfl)), by rw [ht]; exact hP, va_K.moved hW.alike hK, hD⟩, hS.F ht⟩) hS.2.2 dX1_branch_89
              · exact absurd c_39 (by decide)
            · refine lv_iconst (v := 1) hx hb dX1_branch_67 (by decide) ?_
              refine lv_goto (tgt := 72) hx hb dX1_branch_68 (by decide) ?_
              refine lv_icmp_ne (tgt := 89) hx hb dX1_branch_72 (by decide) (fun c_40 => ?_) (fun c_40 => ?_)
              · exact absurd (by decide) c_40
              · refine lv_aload_n hx hb dX1_branch_75 rfl (lv_at hl 1 rfl) ?_
                refine lv_aload_n hx hb dX1_branch_76 rfl (lv_at hl 1 rfl) ?_
                refine va_get (D := (dC, dI)) (ci := 1) (v := .int pcv) (C := RX1) (T := TX1) (N := 12) hx hb hts (gw_lay lay_X1) hown hK hP 0 rfl rfl 4 (by decide) (hts _ (gcons mF_X1_27)) (fun _ h9 => h9) rfl dX1_branch_77 ?_
                refine lv_aload_n hx hb dX1_branch_80 rfl (lv_at hl 1 rfl) ?_
                refine vp_callSi (W.runV (As := []) (rest := [.int pcv, .ref y0]) ⟨hx, hb, hml, hown, hts⟩ (c_m_b l dC dI y0 ym yr yg d1 d2 d3 th me rg rs pcv trv vav dnv wv fa wi ne) (cwV 0 hts (gV mL_X1_74 mI_X1_b mE_X1_b mN_X1 mC_X1_b) rfl rfl rfl (by decide +kernel) ⟨Nat.le_of_ble_eq_true rfl, Nat.le_of_ble_eq_true rfl⟩) ⟨fun a U g mk q => by obtain ⟨q0, qP, qK⟩ := q; exact ⟨q0, qP, va_K.moved (u := U) (U := U.calling g mk a) (Vm.Alike.refl U.vm) qK⟩, va_recv hK hP (ci := 1) (q0 := 0) rfl rfl, fun U hU hW => ⟨rfl, by rw [hU]; exact hP, va_K.moved hW.alike hK⟩⟩ rfl rfl hl.1 rfl (lv_room (Nat.le_of_ble_eq_true rfl)) dX1_branch_81 ⟨Nat.zero_le _, Nat.zero_le _⟩) (fun r_41 hw => ?_)
                rw [hw]
                clear hw r_41
                refine lv_iadd hx hb dX1_branch_84 ?_
                refine lv_iconst (v := 0) hx hb dX1_branch_85 (by decide) ?_
                have hFc := va_free (wc := [(y0, .inr (1, [.int th, .ref ym, .ref yr, .ref yg, .int pcv, .int trv, .int vav, .int dnv, .int wv, .int fa, .int wi, .int ne])), (ym, .inl (d1, 16384, .inl me)), (yr, .inl (d2, 4, .inl rg)), (yg, .inl (d3, 32, .inl rs))]) hD hS hA [0, 1, 2, 3] rfl
                refine va_callv (va_runV (As := [.int (pcv + (F_m_b wv)), .int 0]) (rest := []) ⟨hx, hb, hml, hown, hts⟩ (c_m_goTo l dC dI y0 ym yr yg d1 d2 d3 s.heap.size th me rg rs pcv trv vav dnv wv fa wi ne (pcv + (F_m_b wv)) 0) (cwV 2 hts (gV mL_X1_78 mI_X1_goTo mE_X1_goTo mN_X1 mC_X1_goTo) rfl rfl rfl (by decide +kernel) ⟨Nat.le_of_ble_eq_true rfl, Nat.le_of_ble_eq_true rfl⟩) ⟨fun a U g mk q => by obtain ⟨q0, q1, qP, qK, qD⟩ := q; exact ⟨q0, q1, qP, va_K.moved (u := U) (U := U.calling g mk a) (Vm.Alike.refl U.vm) qK, qD⟩, va_recv hK hP (ci := 1) (q0 := 0) rfl rfl, fun U hU hW => ⟨rfl, by rw [hU], by rw [hU]; exact hP, va_K.moved hW.alike hK, hD.weaken (fun _ _ _ _ => trivial)⟩⟩ rfl rfl hl.1 rfl (lv_room (Nat.le_of_ble_eq_true rfl)) dX1_branch_86 ⟨Nat.zero_le _, Nat.zero_le _⟩) hS (fun q _ h => hFc q h) hFc (fun u t H1 locs ht hvm hw hB hz1 hk1 hS => ?_)
                rw [hw] at hB
                obtain ⟨hP1, hK1, hD1⟩ := hB
                rw [ht] at hP1
                obtain ⟨hP, hD⟩ := va_join (wr := []) (w1 := [(y0, .inr (1, [.int th, .ref ym, .ref yr, .ref yg, .int pcv, .int trv, .int vav, .int dnv, .int wv, .int ((F_m_goTo me rg rs pcv wv fa wi ne (pcv + (F_m_b wv)) 0).2.2.1), .int ((F_m_goTo me rg rs pcv wv fa wi ne (pcv + (F_m_b wv)) 0).2.2.2.1), .int ((F_m_goTo me rg rs pcv wv fa wi ne (pcv + (F_m_b wv)) 0).2.2.2.2)])), (ym, .inl (d1, 16384, .inl ((F_m_goTo me rg rs pcv wv fa wi ne (pcv + (F_m_b wv)) 0).1))), (yr, .inl (d2, 4, .inl rg)), (yg, .inl (d3, 32, .inl ((F_m_goTo me rg rs pcv wv fa wi ne (pcv + (F_m_b wv)) 0).2.1)))]) hP hD [0, 1, 2, 3] [] rfl rfl (by decide) (by decide) hk1 hFc hP1 hD1
                generalize H1 = H at hP hS ⊢
                have hP : va_P (dC, dI) vwCl [(y0, .inr (1, [.int th, .ref ym, .ref yr, .ref yg, .int pcv, .int trv, .int vav, .int dnv, .int wv, .int ((F_m_goTo me rg rs pcv wv fa wi ne (pcv + (F_m_b wv)) 0).2.2.1), .int ((F_m_goTo me rg rs pcv wv fa wi ne (pcv + (F_m_b wv)) 0).2.2.2.1), .int ((F_m_goTo me rg rs pcv wv fa wi ne (pcv + (F_m_b wv)) 0).2.2.2.2)])), (ym, .inl (d1, 16384, .inl ((F_m_goTo me rg rs pcv wv fa wi ne (pcv + (F_m_b wv)) 0).1))), (yr, .inl (d2, 4, .inl rg)), (yg, .inl (d3, 32, .inl ((F_m_goTo me rg rs pcv wv fa wi ne (pcv + (F_m_b wv)) 0).2.1)))] H := hP
                have hD : va_D A [(y0, .inr (1, [.int th, .ref ym, .ref yr, .ref yg, .int pcv, .int trv, .int vav, .int dnv, .int wv, .int ((F_m_goTo me rg rs pcv wv fa wi ne (pcv + (F_m_b wv)) 0).2.2.1), .int ((F_m_goTo me rg rs pcv wv fa wi ne (pcv + (F_m_b wv)) 0).2.2.2.1), .int ((F_m_goTo me rg rs pcv wv fa wi ne (pcv + (F_m_b wv)) 0).2.2.2.2)])), (ym, .inl (d1, 16384, .inl ((F_m_goTo me rg rs pcv wv fa wi ne (pcv + (F_m_b wv)) 0).1))), (yr, .inl (d2, 4, .inl rg)), (yg, .inl (d3, 32, .inl ((F_m_goTo me rg rs pcv wv fa wi ne (pcv + (F_m_b wv)) 0).2.1)))] := hD
                exact W.vret hx hb hr (fun t ht hW => ⟨⟨((F_m_goTo me rg rs pcv wv fa wi ne (pcv + (F_m_b wv)) 0).1, (F_m_goTo me rg rs pcv wv fa wi ne (pcv + (F_m_b wv)) 0).2.1, (F_m_goTo me rg rs pcv wv fa wi ne (pcv + (F_m_b wv)) 0).2.2.1, (F_m_goTo me rg rs pcv wv fa wi ne (pcv + (F_m_b wv)) 0).2.2.2.1, (F_m_goTo me rg rs pcv wv fa wi ne (pcv + (F_m_b wv)) 0).2.2.2.2), rfl, (by unfold F_m_branch; first | (rw [if_neg c_1, if_neg c_5, if_pos c_6, if_neg c_7, if_neg c_27, if_pos c_38]; done) | (rw [if_neg c_1, if_neg c_5, if_pos c_6, if_neg c_7, if_neg c_27, if_pos c_38]; rfl)), by rw [ht]; exact hP, va_K.moved hW.alike hK, hD⟩, hS.F ht⟩) hS.2.2 dX1_branch_89
      · refine lv_iload_n hx hb dX1_branch_20 rfl (lv_at hl 2 rfl) ?_
        refine lv_iload_n hx hb dX1_branch_21 rfl (lv_at hl 3 rfl) ?_
        refine lv_icmp_ne (tgt := 29) hx hb dX1_branch_22 (by decide) (fun c_48 => ?_) (fun c_48 => ?_)
        · refine lv_iconst (v := 0) hx hb dX1_branch_29 (by decide) ?_
          refine lv_goto (tgt := 57) hx hb dX1_branch_30 (by decide) ?_
          refine lv_istore (lv' := [(4, .int 0), (0, .ref y0), (1, .int a1), (2, .int a2), (3, .int a3)]) hx hb dX1_branch_57 hl (by decide) rfl (fun ls hl => ?_)
          refine lv_iload hx hb dX1_branch_59 (lv_at hl 0 rfl) ?_
          refine lv_iload_n hx hb dX1_branch_61 rfl (lv_at hl 2 rfl) ?_
          refine lv_iconst (v := 2) hx hb dX1_branch_62 (by decide) ?_
          refine lv_irem hx hb dX1_branch_63 (by decide) ?_
          refine lv_if_ne (tgt := 71) hx hb dX1_branch_64 (by decide) (fun c_49 => ?_) (fun c_49 => ?_)
          · refine lv_iconst (v := 0) hx hb dX1_branch_71 (by decide) ?_
            refine lv_icmp_ne (tgt := 89) hx hb dX1_branch_72 (by decide) (fun c_50 => ?_) (fun c_50 => ?_)
            · exact absurd (by decide) c_50
            · refine lv_aload_n hx hb dX1_branch_75 rfl (lv_at hl 1 rfl) ?_
              refine lv_aload_n hx hb dX1_branch_76 rfl (lv_at hl 1 rfl) ?_
              refine va_get (D := (dC, dI)) (ci := 1) (v := .int pcv) (C := RX1) (T := TX1) (N := 12) hx hb hts (gw_lay lay_X1) hown hK hP 0 rfl rfl 4 (by decide) (hts _ (gcons mF_X1_27)) (fun _ h9 => h9) rfl dX1_branch_77 ?_
              refine lv_aload_n hx hb dX1_branch_80 rfl (lv_at hl 1 rfl) ?_
              refine vp_callSi (W.runV (As := []) (rest := [.int pcv, .ref y0]) ⟨hx, hb, hml, hown, hts⟩ (c_m_b l dC dI y0 ym yr yg d1 d2 d3 th me rg rs pcv trv vav dnv wv fa wi ne) (cwV 0 hts (gV mL_X1_74 mI_X1_b mE_X1_b mN_X1 mC_X1_b) rfl rfl rfl (by decide +kernel) ⟨Nat.le_of_ble_eq_true rfl, Nat.le_of_ble_eq_true rfl⟩) ⟨fun a U g mk q => by obtain ⟨q0, qP, qK⟩ := q; exact ⟨q0, qP, va_K.moved (u := U) (U := U.calling g mk a) (Vm.Alike.refl U.vm) qK⟩, va_recv hK hP (ci := 1) (q0 := 0) rfl rfl, fun U hU hW => ⟨rfl, by rw [hU]; exact hP, va_K.moved hW.alike hK⟩⟩ rfl rfl hl.1 rfl (lv_room (Nat.le_of_ble_eq_true rfl)) dX1_branch_81 ⟨Nat.zero_le _, Nat.zero_le _⟩) (fun r_51 hw => ?_)
              rw [hw]
              clear hw r_51
              refine lv_iadd hx hb dX1_branch_84 ?_
              refine lv_iconst (v := 0) hx hb dX1_branch_85 (by decide) ?_
              have hFc := va_free (wc := [(y0, .inr (1, [.int th, .ref ym, .ref yr, .ref yg, .int pcv, .int trv, .int vav, .int dnv, .int wv, .int fa, .int wi, .int ne])), (ym, .inl (d1, 16384, .inl me)), (yr, .inl (d2, 4, .inl rg)), (yg, .inl (d3, 32, .inl rs))]) hD hS hA [0, 1, 2, 3] rfl
              refine va_callv (va_runV (As := [.int (pcv + (F_m_b wv)), .int 0]) (rest := []) ⟨hx, hb, hml, hown, hts⟩ (c_m_goTo l dC dI y0 ym yr yg d1 d2 d3 s.heap.size th me rg rs pcv trv vav dnv wv fa wi ne (pcv + (F_m_b wv)) 0) (cwV 2 hts (gV mL_X1_78 mI_X1_goTo mE_X1_goTo mN_X1 mC_X1_goTo) rfl rfl rfl (by decide +kernel) ⟨Nat.le_of_ble_eq_true rfl, Nat.le_of_ble_eq_true rfl⟩) ⟨fun a U g mk q => by obtain ⟨q0, q1, qP, qK, qD⟩ := q; exact ⟨q0, q1, qP, va_K.moved (u := U) (U := U.calling g mk a) (Vm.Alike.refl U.vm) qK, qD⟩, va_recv hK hP (ci := 1) (q0 := 0) rfl rfl, fun U hU hW => ⟨rfl, by rw [hU], by rw [hU]; exact hP, va_K.moved hW.alike hK, hD.weaken (fun _ _ _ _ => trivial)⟩⟩ rfl rfl hl.1 rfl (lv_room (Nat.le_of_ble_eq_true rfl)) dX1_branch_86 ⟨Nat.zero_le _, Nat.zero_le _⟩) hS (fun q _ h => hFc q h) hFc (fun u t H1 locs ht hvm hw hB hz1 hk1 hS => ?_)
              rw [hw] at hB
              obtain ⟨hP1, hK1, hD1⟩ := hB
              rw [ht] at hP1
              obtain ⟨hP, hD⟩ := va_join (wr := []) (w1 := [(y0, .inr (1, [.int th, .ref ym, .ref yr, .ref yg, .int pcv, .int trv, .int vav, .int dnv, .int wv, .int ((F_m_goTo me rg rs pcv wv fa wi ne (pcv + (F_m_b wv)) 0).2.2.1), .int ((F_m_goTo me rg rs pcv wv fa wi ne (pcv + (F_m_b wv)) 0).2.2.2.1), .int ((F_m_goTo me rg rs pcv wv fa wi ne (pcv + (F_m_b wv)) 0).2.2.2.2)])), (ym, .inl (d1, 16384, .inl ((F_m_goTo me rg rs pcv wv fa wi ne (pcv + (F_m_b wv)) 0).1))), (yr, .inl (d2, 4, .inl rg)), (yg, .inl (d3, 32, .inl ((F_m_goTo me rg rs pcv wv fa wi ne (pcv + (F_m_b wv)) 0).2.1)))]) hP hD [0, 1, 2, 3] [] rfl rfl (by decide) (by decide) hk1 hFc hP1 hD1
              generalize H1 = H at hP hS ⊢
              have hP : va_P (dC, dI) vwCl [(y0, .inr (1, [.int th, .ref ym, .ref yr, .ref yg, .int pcv, .int trv, .int vav, .int dnv, .int wv, .int ((F_m_goTo me rg rs pcv wv fa wi ne (pcv + (F_m_b wv)) 0).2.2.1), .int ((F_m_goTo me rg rs pcv wv fa wi ne (pcv + (F_m_b wv)) 0).2.2.2.1), .int ((F_m_goTo me rg rs pcv wv fa wi ne (pcv + (F_m_b wv)) 0).2.2.2.2)])), (ym, .inl (d1, 16384, .inl ((F_m_goTo me rg rs pcv wv fa wi ne (pcv + (F_m_b wv)) 0).1))), (yr, .inl (d2, 4, .inl rg)), (yg, .inl (d3, 32, .inl ((F_m_goTo me rg rs pcv wv fa wi ne (pcv + (F_m_b wv)) 0).2.1)))] H := hP
              have hD : va_D A [(y0, .inr (1, [.int th, .ref ym, .ref yr, .ref yg, .int pcv, .int trv, .int vav, .int dnv, .int wv, .int ((F_m_goTo me rg rs pcv wv fa wi ne (pcv + (F_m_b wv)) 0).2.2.1), .int ((F_m_goTo me rg rs pcv wv fa wi ne (pcv + (F_m_b wv)) 0).2.2.2.1), .int ((F_m_goTo me rg rs pcv wv fa wi ne (pcv + (F_m_b wv)) 0).2.2.2.2)])), (ym, .inl (d1, 16384, .inl ((F_m_goTo me rg rs pcv wv fa wi ne (pcv + (F_m_b wv)) 0).1))), (yr, .inl (d2, 4, .inl rg)), (yg, .inl (d3, 32, .inl ((F_m_goTo me rg rs pcv wv fa wi ne (pcv + (F_m_b wv)) 0).2.1)))] := hD
              exact W.vret hx hb hr (fun t ht hW => ⟨⟨((F_m_goTo me rg rs pcv wv fa wi ne (pcv + (F_m_b wv)) 0).1, (F_m_goTo me rg rs pcv wv fa wi ne (pcv + (F_m_b wv)) 0).2.1, (F_m_goTo me rg rs pcv wv fa wi ne (pcv + (F_m_b wv)) 0).2.2.1, (F_m_goTo me rg rs pcv wv fa wi ne (pcv + (F_m_b wv)) 0).2.2.2.1, (F_m_goTo me rg rs pcv wv fa wi ne (pcv + (F_m_b wv)) 0).2.2.2.2), rfl, (by unfold F_m_branch; first | (rw [if_neg c_1, if_neg c_5, if_neg c_6, if_neg c_48, if_neg c_49]; done) | (rw [if_neg c_1, if_neg c_5, if_neg c_6, if_neg c_48, if_neg c_49]; rfl)), by rw [ht]; exact hP, va_K.moved hW.alike hK, hD⟩, hS.F ht⟩) hS.2.2 dX1_branch_89
          · refine lv_iconst (v := 1) hx hb dX1_branch_67 (by decide) ?_
            refine lv_goto (tgt := 72) hx hb dX1_branch_68 (by decide) ?_
            refine lv_icmp_ne (tgt := 89) hx hb dX1_branch_72 (by decide) (fun c_58 => ?_) (fun c_58 => ?_)
            · exact W.vret hx hb hr (fun t ht hW => ⟨⟨(me, rs, fa, wi, ne), rfl, (by unfold F_m_branch; first | (rw [if_neg c_1, if_neg c_5, if_neg c_6, if_neg c_48, if_pos c_49]; done) | (rw [if_neg c_1, if_neg c_5, if_neg c_6, if_neg c_48, if_pos c_49]; rfl)), by rw [ht]; exact hP, va_K.moved hW.alike hK, hD⟩, hS.F ht⟩) hS.2.2 dX1_branch_89
            · exact absurd c_58 (by decide)
        · refine lv_iconst (v := 1) hx hb dX1_branch_25 (by decide) ?_
          refine lv_goto (tgt := 57) hx hb dX1_branch_26 (by decide) ?_
          refine lv_istore (lv' := [(4, .int 1), (0, .ref y0), (1, .int a1), (2, .int a2), (3, .int a3)]) hx hb dX1_branch_57 hl (by decide) rfl (fun ls hl => ?_)
          refine lv_iload hx hb dX1_branch_59 (lv_at hl 0 rfl) ?_
          refine lv_iload_n hx hb dX1_branch_61 rfl (lv_at hl 2 rfl) ?_
          refine lv_iconst (v := 2) hx hb dX1_branch_62 (by decide) ?_
          refine lv_irem hx hb dX1_branch_63 (by decide) ?_
          refine lv_if_ne (tgt := 71) hx hb dX1_branch_64 (by decide) (fun c_59 => ?_) (fun c_59 => ?_)
          · refine lv_iconst (v := 0) hx hb dX1_branch_71 (by decide) ?_
            refine lv_icmp_ne (tgt := 89) hx hb dX1_branch_72 (by decide) (fun c_60 => ?_) (fun c_60 => ?_)
            · exact W.vret hx hb hr (fun t ht hW => ⟨⟨(me, rs, fa, wi, ne), rfl, (by unfold F_m_branch; first | (rw [if_neg c_1, if_neg c_5, if_neg c_6, if_pos c_48, if_neg c_59]; done) | (rw [if_neg c_1, if_neg c_5, if_neg c_6, if_pos c_48, if_neg c_59]; rfl)), by rw [ht]; exact hP, va_K.moved hW.alike hK, hD⟩, hS.F ht⟩) hS.2.2 dX1_branch_89
            · exact absurd c_60 (by decide)
          · refine lv_iconst (v := 1) hx hb dX1_branch_67 (by decide) ?_
            refine lv_goto (tgt := 72) hx hb dX1_branch_68 (by decide) ?_
            refine lv_icmp_ne (tgt := 89) hx hb dX1_branch_72 (by decide) (fun c_61 => ?_) (fun c_61 => ?_)
            · exact absurd (by decide) c_61
            · refine lv_aload_n hx hb dX1_branch_75 rfl (lv_at hl 1 rfl) ?_
              refine lv_aload_n hx hb dX1_branch_76 rfl (lv_at hl 1 rfl) ?_
              refine va_get (D := (dC, dI)) (ci := 1) (v := .int pcv) (C := RX1) (T := TX1) (N := 12) hx hb hts (gw_lay lay_X1) hown hK hP 0 rfl rfl 4 (by decide) (hts _ (gcons mF_X1_27)) (fun _ h9 => h9) rfl dX1_branch_77 ?_
              refine lv_aload_n hx hb dX1_branch_80 rfl (lv_at hl 1 rfl) ?_
              refine vp_callSi (W.runV (As := []) (rest := [.int pcv, .ref y0]) ⟨hx, hb, hml, hown, hts⟩ (c_m_b l dC dI y0 ym yr yg d1 d2 d3 th me rg rs pcv trv vav dnv wv fa wi ne) (cwV 0 hts (gV mL_X1_74 mI_X1_b mE_X1_b mN_X1 mC_X1_b) rfl rfl rfl (by decide +kernel) ⟨Nat.le_of_ble_eq_true rfl, Nat.le_of_ble_eq_true rfl⟩) ⟨fun a U g mk q => by obtain ⟨q0, qP, qK⟩ := q; exact ⟨q0, qP, va_K.moved (u := U) (U := U.calling g mk a) (Vm.Alike.refl U.vm) qK⟩, va_recv hK hP (ci := 1) (q0 := 0) rfl rfl, fun U hU hW => ⟨rfl, by rw [hU]; exact hP, va_K.moved hW.alike hK⟩⟩ rfl rfl hl.1 rfl (lv_room (Nat.le_of_ble_eq_true rfl)) dX1_branch_81 ⟨Nat.zero_le _, Nat.zero_le _⟩) (fun r_62 hw => ?_)
              rw [hw]
              clear hw r_62
              refine lv_iadd hx hb dX1_branch_84 ?_
              refine lv_iconst (v := 0) hx hb dX1_branch_85 (by decide) ?_
              have hFc := va_free (wc := [(y0, .inr (1, [.int th, .ref ym, .ref yr, .ref yg, .int pcv, .int trv, .int vav, .int dnv, .int wv, .int fa, .int wi, .int ne])), (ym, .inl (d1, 16384, .inl me)), (yr, .inl (d2, 4, .inl rg)), (yg, .inl (d3, 32, .inl rs))]) hD hS hA [0, 1, 2, 3] rfl
              refine va_callv (va_runV (As := [.int (pcv + (F_m_b wv)), .int 0]) (rest := []) ⟨hx, hb, hml, hown, hts⟩ (c_m_goTo l dC dI y0 ym yr yg d1 d2 d3 s.heap.size th me rg rs pcv trv vav dnv wv fa wi ne (pcv + (F_m_b wv)) 0) (cwV 2 hts (gV mL_X1_78 mI_X1_goTo mE_X1_goTo mN_X1 mC_X1_goTo) rfl rfl rfl (by decide +kernel) ⟨Nat.le_of_ble_eq_true rfl, Nat.le_of_ble_eq_true rfl⟩) ⟨fun a U g mk q => by obtain ⟨q0, q1, qP, qK, qD⟩ := q; exact ⟨q0, q1, qP, va_K.moved (u := U) (U := U.calling g mk a) (Vm.Alike.refl U.vm) qK, qD⟩, va_recv hK hP (ci := 1) (q0 := 0) rfl rfl, fun U hU hW => ⟨rfl, by rw [hU], by rw [hU]; exact hP, va_K.moved hW.alike hK, hD.weaken (fun _ _ _ _ => trivial)⟩⟩ rfl rfl hl.1 rfl (lv_room (Nat.le_of_ble_eq_true rfl)) dX1_branch_86 ⟨Nat.zero_le _, Nat.zero_le _⟩) hS (fun q _ h => hFc q h) hFc (fun u t H1 locs ht hvm hw hB hz1 hk1 hS => ?_)
              rw [hw] at hB
              obtain ⟨hP1, hK1, hD1⟩ := hB
              rw [ht] at hP1
              obtain ⟨hP, hD⟩ := va_join (wr := []) (w1 := [(y0, .inr (1, [.int th, .ref ym, .ref yr, .ref yg, .int pcv, .int trv, .int vav, .int dnv, .int wv, .int ((F_m_goTo me rg rs pcv wv fa wi ne (pcv + (F_m_b wv)) 0).2.2.1), .int ((F_m_goTo me rg rs pcv wv fa wi ne (pcv + (F_m_b wv)) 0).2.2.2.1), .int ((F_m_goTo me rg rs pcv wv fa wi ne (pcv + (F_m_b wv)) 0).2.2.2.2)])), (ym, .inl (d1, 16384, .inl ((F_m_goTo me rg rs pcv wv fa wi ne (pcv + (F_m_b wv)) 0).1))), (yr, .inl (d2, 4, .inl rg)), (yg, .inl (d3, 32, .inl ((F_m_goTo me rg rs pcv wv fa wi ne (pcv + (F_m_b wv)) 0).2.1)))]) hP hD [0, 1, 2, 3] [] rfl rfl (by decide) (by decide) hk1 hFc hP1 hD1
              generalize H1 = H at hP hS ⊢
              have hP : va_P (dC, dI) vwCl [(y0, .inr (1, [.int th, .ref ym, .ref yr, .ref yg, .int pcv, .int trv, .int vav, .int dnv, .int wv, .int ((F_m_goTo me rg rs pcv wv fa wi ne (pcv + (F_m_b wv)) 0).2.2.1), .int ((F_m_goTo me rg rs pcv wv fa wi ne (pcv + (F_m_b wv)) 0).2.2.2.1), .int ((F_m_goTo me rg rs pcv wv fa wi ne (pcv + (F_m_b wv)) 0).2.2.2.2)])), (ym, .inl (d1, 16384, .inl ((F_m_goTo me rg rs pcv wv fa wi ne (pcv + (F_m_b wv)) 0).1))), (yr, .inl (d2, 4, .inl rg)), (yg, .inl (d3, 32, .inl ((F_m_goTo me rg rs pcv wv fa wi ne (pcv + (F_m_b wv)) 0).2.1)))] H := hP
              have hD : va_D A [(y0, .inr (1, [.int th, .ref ym, .ref yr, .ref yg, .int pcv, .int trv, .int vav, .int dnv, .int wv, .int ((F_m_goTo me rg rs pcv wv fa wi ne (pcv + (F_m_b wv)) 0).2.2.1), .int ((F_m_goTo me rg rs pcv wv fa wi ne (pcv + (F_m_b wv)) 0).2.2.2.1), .int ((F_m_goTo me rg rs pcv wv fa wi ne (pcv + (F_m_b wv)) 0).2.2.2.2)])), (ym, .inl (d1, 16384, .inl ((F_m_goTo me rg rs pcv wv fa wi ne (pcv + (F_m_b wv)) 0).1))), (yr, .inl (d2, 4, .inl rg)), (yg, .inl (d3, 32, .inl ((F_m_goTo me rg rs pcv wv fa wi ne (pcv + (F_m_b wv)) 0).2.1)))] := hD
              exact W.vret hx hb hr (fun t ht hW => ⟨⟨((F_m_goTo me rg rs pcv wv fa wi ne (pcv + (F_m_b wv)) 0).1, (F_m_goTo me rg rs pcv wv fa wi ne (pcv + (F_m_b wv)) 0).2.1, (F_m_goTo me rg rs pcv wv fa wi ne (pcv + (F_m_b wv)) 0).2.2.1, (F_m_goTo me rg rs pcv wv fa wi ne (pcv + (F_m_b wv)) 0).2.2.2.1, (F_m_goTo me rg rs pcv wv fa wi ne (pcv + (F_m_b wv)) 0).2.2.2.2), rfl, (by unfold F_m_branch; first | (rw [if_neg c_1, if_neg c_5, if_neg c_6, if_pos c_48, if_pos c_59]; done) | (rw [if_neg c_1, if_neg c_5, if_neg c_6, if_pos c_48, if_pos c_59]; rfl)), by rw [ht]; exact hP, va_K.moved hW.alike hK, hD⟩, hS.F ht⟩) hS.2.2 dX1_branch_89
    · refine lv_aload_n hx hb dX1_branch_10 rfl (lv_at hl 0 rfl) ?_
      have hFc := va_free (wc := [(y0, .inr (1, [.int th, .ref ym, .ref yr, .ref yg, .int pcv, .int trv, .int vav, .int dnv, .int wv, .int fa, .int wi, .int ne])), (ym, .inl (d1, 16384, .inl me)), (yr, .inl (d2, 4, .inl rg)), (yg, .inl (d3, 32, .inl rs))]) hD hS hA [0, 1, 2, 3] rfl
      refine va_callv (va_runV (As := []) (rest := []) ⟨hx, hb, hml, hown, hts⟩ (c_m_strange l dC dI y0 ym yr yg d1 d2 d3 s.heap.size th me rg rs pcv trv vav dnv wv fa wi ne) (cwV 0 hts (gV mL_X1_71 mI_X1_strange mE_X1_strange mN_X1 mC_X1_strange) rfl rfl rfl (by decide +kernel) ⟨Nat.le_of_ble_eq_true rfl, Nat.le_of_ble_eq_true rfl⟩) ⟨fun a U g mk q => by obtain ⟨q0, q1, qP, qK, qD⟩ := q; exact ⟨q0, q1, qP, va_K.moved (u := U) (U := U.calling g mk a) (Vm.Alike.refl U.vm) qK, qD⟩, va_recv hK hP (ci := 1) (q0 := 0) rfl rfl, fun U hU hW => ⟨rfl, by rw [hU], by rw [hU]; exact hP, va_K.moved hW.alike hK, hD.weaken (fun _ _ _ _ => trivial)⟩⟩ rfl rfl hl.1 rfl (lv_room (Nat.le_of_ble_eq_true rfl)) dX1_branch_11 ⟨Nat.zero_le _, Nat.zero_le _⟩) hS (fun q _ h => hFc q h) hFc (fun u t H1 locs ht hvm hw hB hz1 hk1 hS => ?_)
      rw [hw] at hB
      obtain ⟨hP1, hK1, hD1⟩ := hB
      rw [ht] at hP1
      obtain ⟨hP, hD⟩ := va_join (wr := []) (w1 := [(y0, .inr (1, [.int th, .ref ym, .ref yr, .ref yg, .int pcv, .int trv, .int vav, .int dnv, .int wv, .int ((F_m_strange wv).1), .int ((F_m_strange wv).2), .int ne])), (ym, .inl (d1, 16384, .inl me)), (yr, .inl (d2, 4, .inl rg)), (yg, .inl (d3, 32, .inl rs))]) hP hD [0, 1, 2, 3] [] rfl rfl (by decide) (by decide) hk1 hFc hP1 hD1
      generalize H1 = H at hP hS ⊢
      have hP : va_P (dC, dI) vwCl [(y0, .inr (1, [.int th, .ref ym, .ref yr, .ref yg, .int pcv, .int trv, .int vav, .int dnv, .int wv, .int ((F_m_strange wv).1), .int ((F_m_strange wv).2), .int ne])), (ym, .inl (d1, 16384, .inl me)), (yr, .inl (d2, 4, .inl rg)), (yg, .inl (d3, 32, .inl rs))] H := hP
      have hD : va_D A [(y0, .inr (1, [.int th, .ref ym, .ref yr, .ref yg, .int pcv, .int trv, .int vav, .int dnv, .int wv, .int ((F_m_strange wv).1), .int ((F_m_strange wv).2), .int ne])), (ym, .inl (d1, 16384, .inl me)), (yr, .inl (d2, 4, .inl rg)), (yg, .inl (d3, 32, .inl rs))] := hD
      exact W.vret hx hb hr (fun t ht hW => ⟨⟨(me, rs, (F_m_strange wv).1, (F_m_strange wv).2, ne), rfl, (by unfold F_m_branch; first | (rw [if_neg c_1, if_pos c_5]; done) | (rw [if_neg c_1, if_pos c_5]; rfl)), by rw [ht]; exact hP, va_K.moved hW.alike hK, hD⟩, hS.F ht⟩) hS.2.2 dX1_branch_14
def F_m_load (me : Nat → Int32) (rg : Nat → Int32) (rs : Nat → Int32) (pcv : Int32) (wv : Int32) (fa : Int32) (wi : Int32) (ne : Int32) (a1 : Int32) (a2 : Int32) : (Nat → Int32) × (Nat → Int32) × Int32 × Int32 × Int32 :=
  if a1 = 3 then
    (me, rs, (F_m_strange wv).1, (F_m_strange wv).2, ne)
  else
    if a1 ≤ 5 then
      if (a1 - a1 / 4 * 4) = 0 then
        if (a2 &&& (1 - 1)) = 0 then
          if (F_m_may rg a2 1) = 0 then
            (me, rs, (F_m_fail 13 a2).1, (F_m_fail 13 a2).2, ne)
          else
            if (2 : Int32) ≤ a1 then
              (me, F_m_put wv rs (F_m_bytes me a2 1), fa, wi, ne)
            else
              (me, F_m_put wv rs (F_m_signed (F_m_bytes me a2 1) (8 * 1)), fa, wi, ne)
        else
          (me, rs, (F_m_fail 4 a2).1, (F_m_fail 4 a2).2, ne)
      else
        if (a1 - a1 / 4 * 4) = 1 then
          if (a2 &&& (2 - 1)) = 0 then
            if (F_m_may rg a2 1) = 0 then
              (me, rs, (F_m_fail 13 a2).1, (F_m_fail 13 a2).2, ne)
            else
              if (2 : Int32) ≤ a1 then
                (me, F_m_put wv rs (F_m_bytes me a2 2), fa, wi, ne)
              else
                (me, F_m_put wv rs (F_m_signed (F_m_bytes me a2 2) (8 * 2)), fa, wi, ne)
          else
            (me, rs, (F_m_fail 4 a2).1, (F_m_fail 4 a2).2, ne)
        else
          if (a2 &&& (4 - 1)) = 0 then
            if (F_m_may rg a2 1) = 0 then
              (me, rs, (F_m_fail 13 a2).1, (F_m_fail 13 a2).2, ne)
            else
              if (2 : Int32) ≤ a1 then
                (me, F_m_put wv rs (F_m_bytes me a2 4), fa, wi, ne)
              else
                (me, F_m_put wv rs (F_m_signed (F_m_bytes me a2 4) (8 * 4)), fa, wi, ne)
          else
            (me, rs, (F_m_fail 4 a2).1, (F_m_fail 4 a2).2, ne)
    else
      (me, rs, (F_m_strange wv).1, (F_m_strange wv).2, ne)
set_option maxHeartbeats 4000000 in
set_option maxRecDepth 100000 in
theorem c_m_load (l : Launch) (dC : Nat → ClassId) (dI : Nat → Nat → Nat) (y0 ym yr yg : Nat) (d1 d2 d3 : ClassId) (sz : Nat) (th : Int32) (me : Nat → Int32) (rg : Nat → Int32) (rs : Nat → Int32) (pcv : Int32) (trv : Int32) (vav : Int32) (dnv : Int32) (wv : Int32) (fa : Int32) (wi : Int32) (ne : Int32) (a1 : Int32) (a2 : Int32)  : Met l yX1_load wsX1_load ({ frames := 2, cells := 0, slots := 0, locals := 46 }) (va_Pc [.ref y0, .int a1, .int a2] (fun U => U.heap.size = sz ∧ va_P (dC, dI) vwCl [(y0, .inr (1, [.int th, .ref ym, .ref yr, .ref yg, .int pcv, .int trv, .int vav, .int dnv, .int wv, .int fa, .int wi, .int ne])), (ym, .inl (d1, 16384, .inl me)), (yr, .inl (d2, 4, .inl rg)), (yg, .inl (d3, 32, .inl rs))] U.heap ∧ va_K (dC, dI) vwCl [(d1, .byte), (d2, .int), (d3, .int)] U ∧ va_D (fun _ => True) [(y0, .inr (1, [.int th, .ref ym, .ref yr, .ref yg, .int pcv, .int trv, .int vav, .int dnv, .int wv, .int fa, .int wi, .int ne])), (ym, .inl (d1, 16384, .inl me)), (yr, .inl (d2, 4, .inl rg)), (yg, .inl (d3, 32, .inl rs))])) (va_Qv (fun u : (Nat → Int32) × (Nat → Int32) × Int32 × Int32 × Int32 => u = F_m_load me rg rs pcv wv fa wi ne a1 a2) (fun (u : (Nat → Int32) × (Nat → Int32) × Int32 × Int32 × Int32) (t : State) => va_P (dC, dI) vwCl [(y0, .inr (1, [.int th, .ref ym, .ref yr, .ref yg, .int pcv, .int trv, .int vav, .int dnv, .int wv, .int u.2.2.1, .int u.2.2.2.1, .int u.2.2.2.2])), (ym, .inl (d1, 16384, .inl u.1)), (yr, .inl (d2, 4, .inl rg)), (yg, .inl (d3, 32, .inl u.2.1))] t.heap ∧ va_K (dC, dI) vwCl [(d1, .byte), (d2, .int), (d3, .int)] t ∧ va_D (va_A [(y0, .inr (1, [.int th, .ref ym, .ref yr, .ref yg, .int pcv, .int trv, .int vav, .int dnv, .int wv, .int fa, .int wi, .int ne])), (ym, .inl (d1, 16384, .inl me)), (yr, .inl (d2, 4, .inl rg)), (yg, .inl (d3, 32, .inl rs))] sz) [(y0, .inr (1, [.int th, .ref ym, .ref yr, .ref yg, .int pcv, .int trv, .int vav, .int dnv, .int wv, .int u.2.2.1, .int u.2.2.2.1, .int u.2.2.2.2])), (ym, .inl (d1, 16384, .inl u.1)), (yr, .inl (d2, 4, .inl rg)), (yg, .inl (d3, 32, .inl u.2.1))]) (va_A [(y0, .inr (1, [.int th, .ref ym, .ref yr, .ref yg, .int pcv, .int trv, .int vav, .int dnv, .int wv, .int fa, .int wi, .int ne])), (ym, .inl (d1, 16384, .inl me)), (yr, .inl (d2, 4, .inl rg)), (yg, .inl (d3, 32, .inl rs))] sz)) 0 0 (va_A [(y0, .inr (1, [.int th, .ref ym, .ref yr, .ref yg, .int pcv, .int trv, .int vav, .int dnv, .int wv, .int fa, .int wi, .int ne])), (ym, .inl (d1, 16384, .inl me)), (yr, .inl (d2, 4, .inl rg)), (yg, .inl (d3, 32, .inl rs))] sz) := by
  refine Met.ofW (cc := cX1_load) (maxL := 5) (ret := none) (by decide) rfl ?_
  intro p e s m args below meth c s₁ B hml hv
  obtain ⟨rfl, hsz, hP, hK, hD0⟩ := hv
  have hx := B.exec
  have hb := B.bytes
  have hr := B.returns
  have hts := atoms_spec (ws := wsX1_load) B.pre
  have hown : s.vm.findClass RX1 = some m.cls := findClass_of_methodNamed B.named
  have hlocks := B.notSynchronized
  subst hsz
  have hD := hD0.self (sz := s.heap.size)
  generalize hAe : va_A [(y0, .inr (1, [.int th, .ref ym, .ref yr, .ref yg, .int pcv, .int trv, .int vav, .int dnv, .int wv, .int fa, .int wi, .int ne])), (ym, .inl (d1, 16384, .inl me)), (yr, .inl (d2, 4, .inl rg)), (yg, .inl (d3, 32, .inl rs))] s.heap.size = A at hD ⊢
  have hA : ∀ q : Nat, s.heap.size ≤ q → A q := fun q h => by rw [← hAe]; exact Or.inr h
  have hS : va_S A s.heap s.heap [] := va_S.rf
  have hP : va_P (dC, dI) vwCl [(y0, .inr (1, [.int th, .ref ym, .ref yr, .ref yg, .int pcv, .int trv, .int vav, .int dnv, .int wv, .int fa, .int wi, .int ne])), (ym, .inl (d1, 16384, .inl me)), (yr, .inl (d2, 4, .inl rg)), (yg, .inl (d3, 32, .inl rs))] s.heap := hP
  have hl := lv_entry ([.ref y0, .int a1, .int a2]) (n := 5) (Nat.le_of_ble_eq_true rfl)
  rw [lg_entry_eq]
  generalize (lg_sl ([.ref y0, .int a1, .int a2]) ++ List.replicate (5 - (lg_sl ([.ref y0, .int a1, .int a2])).length) Slot.unset).toArray = ls at hl ⊢
  have hl : lv_has ls 5 [(0, .ref y0), (1, .int a1), (2, .int a2)] := hl
  refine lv_iload_n hx hb dX1_load_0 rfl (lv_at hl 1 rfl) ?_
  refine lv_iconst (v := 3) hx hb dX1_load_1 (by decide) ?_
  refine lv_icmp_eq (tgt := 10) hx hb dX1_load_2 (by decide) (fun c_1 => ?_) (fun c_1 => ?_)
  · refine lv_aload_n hx hb dX1_load_10 rfl (lv_at hl 0 rfl) ?_
    have hFc := va_free (wc := [(y0, .inr (1, [.int th, .ref ym, .ref yr, .ref yg, .int pcv, .int trv, .int vav, .int dnv, .int wv, .int fa, .int wi, .int ne])), (ym, .inl (d1, 16384, .inl me)), (yr, .inl (d2, 4, .inl rg)), (yg, .inl (d3, 32, .inl rs))]) hD hS hA [0, 1, 2, 3] rfl
    refine va_callv (va_runV (As := []) (rest := []) ⟨hx, hb, hml, hown, hts⟩ (c_m_strange l dC dI y0 ym yr yg d1 d2 d3 s.heap.size th me rg rs pcv trv vav dnv wv fa wi ne) (cwV 0 hts (gV mL_X1_71 mI_X1_strange mE_X1_strange mN_X1 mC_X1_strange) rfl rfl rfl (by decide +kernel) ⟨Nat.le_of_ble_eq_true rfl, Nat.le_of_ble_eq_true rfl⟩) ⟨fun a U g mk q => by obtain ⟨q0, q1, qP, qK, qD⟩ := q; exact ⟨q0, q1, qP, va_K.moved (u := U) (U := U.calling g mk a) (Vm.Alike.refl U.vm) qK, qD⟩, va_recv hK hP (ci := 1) (q0 := 0) rfl rfl, fun U hU hW => ⟨rfl, by rw [hU], by rw [hU]; exact hP, va_K.moved hW.alike hK, hD.weaken (fun _ _ _ _ => trivial)⟩⟩ rfl rfl hl.1 rfl (lv_room (Nat.le_of_ble_eq_true rfl)) dX1_load_11 ⟨Nat.zero_le _, Nat.zero_le _⟩) hS (fun q _ h => hFc q h) hFc (fun u t H1 locs ht hvm hw hB hz1 hk1 hS => ?_)
    rw [hw] at hB
    obtain ⟨hP1, hK1, hD1⟩ := hB
    rw [ht] at hP1
    obtain ⟨hP, hD⟩ := va_join (wr := []) (w1 := [(y0, .inr (1, [.int th, .ref ym, .ref yr, .ref yg, .int pcv, .int trv, .int vav, .int dnv, .int wv, .int ((F_m_strange wv).1), .int ((F_m_strange wv).2), .int ne])), (ym, .inl (d1, 16384, .inl me)), (yr, .inl (d2, 4, .inl rg)), (yg, .inl (d3, 32, .inl rs))]) hP hD [0, 1, 2, 3] [] rfl rfl (by decide) (by decide) hk1 hFc hP1 hD1
    generalize H1 = H at hP hS ⊢
    have hP : va_P (dC, dI) vwCl [(y0, .inr (1, [.int th, .ref ym, .ref yr, .ref yg, .int pcv, .int trv, .int vav, .int dnv, .int wv, .int ((F_m_strange wv).1), .int ((F_m_strange wv).2), .int ne])), (ym, .inl (d1, 16384, .inl me)), (yr, .inl (d2, 4, .inl rg)), (yg, .inl (d3, 32, .inl rs))] H := hP
    have hD : va_D A [(y0, .inr (1, [.int th, .ref ym, .ref yr, .ref yg, .int pcv, .int trv, .int vav, .int dnv, .int wv, .int ((F_m_strange wv).1), .int ((F_m_strange wv).2), .int ne])), (ym, .inl (d1, 16384, .inl me)), (yr, .inl (d2, 4, .inl rg)), (yg, .inl (d3, 32, .inl rs))] := hD
    exact W.vret hx hb hr (fun t ht hW => ⟨⟨(me, rs, (F_m_strange wv).1, (F_m_strange wv).2, ne), rfl, (by unfold F_m_load; first | (rw [if_pos c_1]; done) | (rw [if_pos c_1]; rfl)), by rw [ht]; exact hP, va_K.moved hW.alike hK, hD⟩, hS.F ht⟩) hS.2.2 dX1_load_14
  · refine lv_iload_n hx hb dX1_load_5 rfl (lv_at hl 1 rfl) ?_
    refine lv_iconst (v := 5) hx hb dX1_load_6 (by decide) ?_
    refine lv_icmp_le (tgt := 15) hx hb dX1_load_7 (by decide) (fun c_5 => ?_) (fun c_5 => ?_)
    · refine lv_iload_n hx hb dX1_load_15 rfl (lv_at hl 1 rfl) ?_
      refine lv_iconst (v := 4) hx hb dX1_load_16 (by decide) ?_
      refine lv_irem hx hb dX1_load_17 (by decide) ?_
      refine lv_if_ne (tgt := 25) hx hb dX1_load_18 (by decide) (fun c_6 => ?_) (fun c_6 => ?_)
      · refine lv_iload_n hx hb dX1_load_25 rfl (lv_at hl 1 rfl) ?_
        refine lv_iconst (v := 4) hx hb dX1_load_26 (by decide) ?_
        refine lv_irem hx hb dX1_load_27 (by decide) ?_
        refine lv_iconst (v := 1) hx hb dX1_load_28 (by decide) ?_
        refine lv_icmp_ne (tgt := 36) hx hb dX1_load_29 (by decide) (fun c_7 => ?_) (fun c_7 => ?_)
        · refine lv_iconst (v := 4) hx hb dX1_load_36 (by decide) ?_
          refine lv_istore_n (lv' := [(3, .int 4), (0, .ref y0), (1, .int a1), (2, .int a2)]) hx hb dX1_load_37 rfl hl (by decide) rfl (fun ls hl => ?_)
          refine lv_iload_n hx hb dX1_load_38 rfl (lv_at hl 3 rfl) ?_
          refine lv_iload_n hx hb dX1_load_39 rfl (lv_at hl 0 rfl) ?_
          refine lv_iconst (v := 1) hx hb dX1_load_40 (by decide) ?_
          refine lv_isub hx hb dX1_load_41 ?_
          refine lv_iand hx hb dX1_load_42 ?_
          refine lv_if_eq (tgt := 55) hx hb dX1_load_43 (by decide) (fun c_8 => ?_) (fun c_8 => ?_)
          · refine lv_aload_n hx hb dX1_load_55 rfl (lv_at hl 1 rfl) ?_
            refine lv_iload_n hx hb dX1_load_56 rfl (lv_at hl 3 rfl) ?_
            refine lv_iconst (v := 1) hx hb dX1_load_57 (by decide) ?_
            refine vp_callSi (W.runV (As := [.int a2, .int 1]) (rest := []) ⟨hx, hb, hml, hown, hts⟩ (c_m_may l dC dI y0 ym yr yg d1 d2 d3 th me rg rs pcv trv vav dnv wv fa wi ne a2 1 ((by decide))) (cwV 2 hts (gV mL_X1_82 mI_X1_may mE_X1_may mN_X1 mC_X1_may) rfl rfl rfl (by decide +kernel) ⟨Nat.le_of_ble_eq_true rfl, Nat.le_of_ble_eq_true rfl⟩) ⟨fun a U g mk q => by obtain ⟨q0, qP, qK⟩ := q; exact ⟨q0, qP, va_K.moved (u := U) (U := U.calling g mk a) (Vm.Alike.refl U.vm) qK⟩, va_recv hK hP (ci := 1) (q0 := 0) rfl rfl, fun U hU hW => ⟨rfl, by rw [hU]; exact hP, va_K.moved hW.alike hK⟩⟩ rfl rfl hl.1 rfl (lv_room (Nat.le_of_ble_eq_true rfl)) dX1_load_58 ⟨Nat.zero_le _, Nat.zero_le _⟩) (fun r_9 hw => ?_)
            obtain ⟨b_10, hw⟩ := hw
            rw [hw] at b_10 ⊢
            clear hw
            refine lv_if_ne (tgt := 74) hx hb dX1_load_61 (by decide) (fun c_11 => ?_) (fun c_11 => ?_)
            · refine lv_aload_n hx hb dX1_load_74 rfl (lv_at hl 1 rfl) ?_
              refine lv_iload_n hx hb dX1_load_75 rfl (lv_at hl 3 rfl) ?_
              refine lv_iload_n hx hb dX1_load_76 rfl (lv_at hl 0 rfl) ?_
              refine vp_callSi (W.runV (As := [.int a2, .int 4]) (rest := []) ⟨hx, hb, hml, hown, hts⟩ (c_m_bytes l dC dI y0 ym yr yg d1 d2 d3 th me rg rs pcv trv vav dnv wv fa wi ne a2 4 ((in_byt (by decide) c_8 c_11))) (cwV 2 hts (gV mL_X1_85 mI_X1_bytes mE_X1_bytes mN_X1 mC_X1_bytes) rfl rfl rfl (by decide +kernel) ⟨Nat.le_of_ble_eq_true rfl, Nat.le_of_ble_eq_true rfl⟩) ⟨fun a U g mk q => by obtain ⟨q0, qP, qK⟩ := q; exact ⟨q0, qP, va_K.moved (u := U) (U := U.calling g mk a) (Vm.Alike.refl U.vm) qK⟩, va_recv hK hP (ci := 1) (q0 := 0) rfl rfl, fun U hU hW => ⟨rfl, by rw [hU]; exact hP, va_K.moved hW.alike hK⟩⟩ rfl rfl hl.1 rfl (lv_room (Nat.le_of_ble_eq_true rfl)) dX1_load_77 ⟨Nat.zero_le _, Nat.zero_le _⟩) (fun r_12 hw => ?_)
              rw [hw]
              clear hw r_12
              refine lv_istore (lv' := [(4, .int (F_m_bytes me a2 4)), (3, .int 4), (0, .ref y0), (1, .int a1), (2, .int a2)]) hx hb dX1_load_80 hl (by decide) rfl (fun ls hl => ?_)
              refine lv_aload_n hx hb dX1_load_82 rfl (lv_at hl 2 rfl) ?_
              refine lv_iload_n hx hb dX1_load_83 rfl (lv_at hl 3 rfl) ?_
              refine lv_iconst (v := 2) hx hb dX1_load_84 (by decide) ?_
              refine lv_icmp_ge (tgt := 100) hx hb dX1_load_85 (by decide) (fun c_13 => ?_) (fun c_13 => ?_)
              · refine lv_iload hx hb dX1_load_100 (lv_at hl 0 rfl) ?_
                have hFc := va_free (wc := [(y0, .inr (1, [.int th, .ref ym, .ref yr, .ref yg, .int pcv, .int trv, .int vav, .int dnv, .int wv, .int fa, .int wi, .int ne])), (ym, .inl (d1, 16384, .inl me)), (yr, .inl (d2, 4, .inl rg)), (yg, .inl (d3, 32, .inl rs))]) hD hS hA [0, 1, 2, 3] rfl
                refine va_callv (va_runV (As := [.int (F_m_bytes me a2 4)]) (rest := []) ⟨hx, hb, hml, hown, hts⟩ (c_m_put l dC dI y0 ym yr yg d1 d2 d3 s.heap.size th me rg rs pcv trv vav dnv wv fa wi ne (F_m_bytes me a2 4)) (cwV 1 hts (gV mL_X1_67 mI_X1_put mE_X1_put mN_X1 mC_X1_put) rfl rfl rfl (by decide +kernel) ⟨Nat.le_of_ble_eq_true rfl, Nat.le_of_ble_eq_true rfl⟩) ⟨fun a U g mk q => by obtain ⟨q0, q1, qP, qK, qD⟩ := q; exact ⟨q0, q1, qP, va_K.moved (u := U) (U := U.calling g mk a) (Vm.Alike.refl U.vm) qK, qD⟩, va_recv hK hP (ci := 1) (q0 := 0) rfl rfl, fun U hU hW => ⟨rfl, by rw [hU], by rw [hU]; exact hP, va_K.moved hW.alike hK, hD.weaken (fun _ _ _ _ => trivial)⟩⟩ rfl rfl hl.1 rfl (lv_room (Nat.le_of_ble_eq_true rfl)) dX1_load_102 ⟨Nat.zero_le _, Nat.zero_le _⟩) hS (fun q _ h => hFc q h) hFc (fun u t H1 locs ht hvm hw hB hz1 hk1 hS => ?_)
                rw [hw] at hB
                obtain ⟨hP1, hK1, hD1⟩ := hB
                rw [ht] at hP1
                obtain ⟨hP, hD⟩ := va_join (wr := []) (w1 := [(y0, .inr (1, [.int th, .ref ym, .ref yr, .ref yg, .int pcv, .int trv, .int vav, .int dnv, .int wv, .int fa, .int wi, .int ne])), (ym, .inl (d1, 16384, .inl me)), (yr, .inl (d2, 4, .inl rg)), (yg, .inl (d3, 32, .inl (F_m_put wv rs (F_m_bytes me a2 4))))]) hP hD [0, 1, 2, 3] [] rfl rfl (by decide) (by decide) hk1 hFc hP1 hD1
                generalize H1 = H at hP hS ⊢
                have hP : va_P (dC, dI) vwCl [(y0, .inr (1, [.int th, .ref ym, .ref yr, .ref yg, .int pcv, .int trv, .int vav, .int dnv, .int wv, .int fa, .int wi, .int ne])), (ym, .inl (d1, 16384, .inl me)), (yr, .inl (d2, 4, .inl rg)), (yg, .inl (d3, 32, .inl (F_m_put wv rs (F_m_bytes me a2 4))))] H := hP
                have hD : va_D A [(y0, .inr (1, [.int th, .ref ym, .ref yr, .ref yg, .int pcv, .int trv, .int vav, .int dnv, .int wv, .int fa, .int wi, .int ne])), (ym, .inl (d1, 16384, .inl me)), (yr, .inl (d2, 4, .inl rg)), (yg, .inl (d3, 32, .inl (F_m_put wv rs (F_m_bytes me a2 4))))] := hD
                exact W.vret hx hb hr (fun t ht hW => ⟨⟨(me, F_m_put wv rs (F_m_bytes me a2 4), fa, wi, ne), rfl, (by unfold F_m_load; first | (rw [if_neg c_1, if_pos c_5, if_neg c_6, if_neg c_7, if_pos c_8, if_neg c_11, if_pos c_13]; done) | (rw [if_neg c_1, if_pos c_5, if_neg c_6, if_neg c_7, if_pos c_8, if_neg c_11, if_pos c_13]; rfl)), by rw [ht]; exact hP, va_K.moved hW.alike hK, hD⟩, hS.F ht⟩) hS.2.2 dX1_load_105
              · refine lv_iload hx hb dX1_load_88 (lv_at hl 0 rfl) ?_
                refine lv_bipush (v := 8) hx hb dX1_load_90 (by decide) ?_
                refine lv_iload_n hx hb dX1_load_92 rfl (lv_at hl 1 rfl) ?_
                refine lv_imul hx hb dX1_load_93 ?_
                refine vp_callSi (W.runS (As := [.int (F_m_bytes me a2 4), .int (8 * 4)]) (rest := [.ref y0]) ⟨hx, hb, hml, hown, hts⟩ (c_m_signed l (F_m_bytes me a2 4) (8 * 4)) (cwS 2 hts (gS mL_X1_37 mS_X1_signed mN_X1 mC_X1_signed) rfl rfl rfl (by decide +kernel) ⟨Nat.le_of_ble_eq_true rfl, Nat.le_of_ble_eq_true rfl⟩) preEq rfl rfl hl.1 rfl (lv_room (Nat.le_of_ble_eq_true rfl)) dX1_load_94 ⟨Nat.zero_le _, Nat.zero_le _⟩) (fun r_15 hw => ?_)
                rw [hw]
                clear hw r_15
                refine lv_goto (tgt := 102) hx hb dX1_load_97 (by decide) ?_
                have hFc := va_free (wc := [(y0, .inr (1, [.int th, .ref ym, .ref yr, .ref yg, .int pcv, .int trv, .int vav, .int dnv, .int wv, .int fa, .int wi, .int ne])), (ym, .inl (d1, 16384, .inl me)), (yr, .inl (d2, 4, .inl rg)), (yg, .inl (d3, 32, .inl rs))]) hD hS hA [0, 1, 2, 3] rfl
                refine va_callv (va_runV (As := [.int (F_m_signed (F_m_bytes me a2 4) (8 * 4))]) (rest := []) ⟨hx, hb, hml, hown, hts⟩ (c_m_put l dC dI y0 ym yr yg d1 d2 d3 s.heap.size th me rg rs pcv trv vav dnv wv fa wi ne (F_m_signed (F_m_bytes me a2 4) (8 * 4))) (cwV 1 hts (gV mL_X1_67 mI_X1_put mE_X1_put mN_X1 mC_X1_put) rfl rfl rfl (by decide +kernel) ⟨Nat.le_of_ble_eq_true rfl, Nat.le_of_ble_eq_true rfl⟩) ⟨fun a U g mk q => by obtain ⟨q0, q1, qP, qK, qD⟩ := q; exact ⟨q0, q1, qP, va_K.moved (u := U) (U := U.calling g mk a) (Vm.Alike.refl U.vm) qK, qD⟩, va_recv hK hP (ci := 1) (q0 := 0) rfl rfl, fun U hU hW => ⟨rfl, by rw [hU], by rw [hU]; exact hP, va_K.moved hW.alike hK, hD.weaken (fun _ _ _ _ => trivial)⟩⟩ rfl rfl hl.1 rfl (lv_room (Nat.le_of_ble_eq_true rfl)) dX1_load_102 ⟨Nat.zero_le _, Nat.zero_le _⟩) hS (fun q _ h => hFc q h) hFc (fun u t H1 locs ht hvm hw hB hz1 hk1 hS => ?_)
                rw [hw] at hB
                obtain ⟨hP1, hK1, hD1⟩ := hB
                rw [ht] at hP1
                obtain ⟨hP, hD⟩ := va_join (wr := []) (w1 := [(y0, .inr (1, [.int th, .ref ym, .ref yr, .ref yg, .int pcv, .int trv, .int vav, .int dnv, .int wv, .int fa, .int wi, .int ne])), (ym, .inl (d1, 16384, .inl me)), (yr, .inl (d2, 4, .inl rg)), (yg, .inl (d3, 32, .inl (F_m_put wv rs (F_m_signed (F_m_bytes me a2 4) (8 * 4)))))]) hP hD [0, 1, 2, 3] [] rfl rfl (by decide) (by decide) hk1 hFc hP1 hD1
                generalize H1 = H at hP hS ⊢
                have hP : va_P (dC, dI) vwCl [(y0, .inr (1, [.int th, .ref ym, .ref yr, .ref yg, .int pcv, .int trv, .int vav, .int dnv, .int wv, .int fa, .int wi, .int ne])), (ym, .inl (d1, 16384, .inl me)), (yr, .inl (d2, 4, .inl rg)), (yg, .inl (d3, 32, .inl (F_m_put wv rs (F_m_signed (F_m_bytes me a2 4) (8 * 4)))))] H := hP
                have hD : va_D A [(y0, .inr (1, [.int th, .ref ym, .ref yr, .ref yg, .int pcv, .int trv, .int vav, .int dnv, .int wv, .int fa, .int wi, .int ne])), (ym, .inl (d1, 16384, .inl me)), (yr, .inl (d2, 4, .inl rg)), (yg, .inl (d3, 32, .inl (F_m_put wv rs (F_m_signed (F_m_bytes me a2 4) (8 * 4)))))] := hD
                exact W.vret hx hb hr (fun t ht hW => ⟨⟨(me, F_m_put wv rs (F_m_signed (F_m_bytes me a2 4) (8 * 4)), fa, wi, ne), rfl, (by unfold F_m_load; first | (rw [if_neg c_1, if_pos c_5, if_neg c_6, if_neg c_7, if_pos c_8, if_neg c_11, if_neg c_13]; done) | (rw [if_neg c_1, if_pos c_5, if_neg c_6, if_neg c_7, if_pos c_8, if_neg c_11, if_neg c_13]; rfl)), by rw [ht]; exact hP, va_K.moved hW.alike hK, hD⟩, hS.F ht⟩) hS.2.2 dX1_load_105
            · refine lv_aload_n hx hb dX1_load_64 rfl (lv_at hl 1 rfl) ?_
              refine lv_bipush (v := 13) hx hb dX1_load_65 (by decide) ?_
              refine lv_iload_n hx hb dX1_load_67 rfl (lv_at hl 3 rfl) ?_
              have hFc := va_free (wc := [(y0, .inr (1, [.int th, .ref ym, .ref yr, .ref yg, .int pcv, .int trv, .int vav, .int dnv, .int wv, .int fa, .int wi, .int ne])), (ym, .inl (d1, 16384, .inl me)), (yr, .inl (d2, 4, .inl rg)), (yg, .inl (d3, 32, .inl rs))]) hD hS hA [0, 1, 2, 3] rfl
              refine va_callv (va_runV (As := [.int 13, .int a2]) (rest := []) ⟨hx, hb, hml, hown, hts⟩ (c_m_fail l dC dI y0 ym yr yg d1 d2 d3 s.heap.size th me rg rs pcv trv vav dnv wv fa wi ne 13 a2) (cwV 2 hts (gV mL_X1_60 mI_X1_fail mE_X1_fail mN_X1 mC_X1_fail) rfl rfl rfl (by decide +kernel) ⟨Nat.le_of_ble_eq_true rfl, Nat.le_of_ble_eq_true rfl⟩) ⟨fun a U g mk q => by obtain ⟨q0, q1, qP, qK, qD⟩ := q; exact ⟨q0, q1, qP, va_K.moved (u := U) (U := U.calling g mk a) (Vm.Alike.refl U.vm) qK, qD⟩, va_recv hK hP (ci := 1) (q0 := 0) rfl rfl, fun U hU hW => ⟨rfl, by rw [hU], by rw [hU]; exact hP, va_K.moved hW.alike hK, hD.weaken (fun _ _ _ _ => trivial)⟩⟩ rfl rfl hl.1 rfl (lv_room (Nat.le_of_ble_eq_true rfl)) dX1_load_68 ⟨Nat.zero_le _, Nat.zero_le _⟩) hS (fun q _ h => hFc q h) hFc (fun u t H1 locs ht hvm hw hB hz1 hk1 hS => ?_)
              rw [hw] at hB
              obtain ⟨hP1, hK1, hD1⟩ := hB
              rw [ht] at hP1
              obtain ⟨hP, hD⟩ := va_join (wr := []) (w1 := [(y0, .inr (1, [.int th, .ref ym, .ref yr, .ref yg, .int pcv, .int trv, .int vav, .int dnv, .int wv, .int ((F_m_fail 13 a2).1), .int ((F_m_fail 13 a2).2), .int ne])), (ym, .inl (d1, 16384, .inl me)), (yr, .inl (d2, 4, .inl rg)), (yg, .inl (d3, 32, .inl rs))]) hP hD [0, 1, 2, 3] [] rfl rfl (by decide) (by decide) hk1 hFc hP1 hD1
              generalize H1 = H at hP hS ⊢
              have hP : va_P (dC, dI) vwCl [(y0, .inr (1, [.int th, .ref ym, .ref yr, .ref yg, .int pcv, .int trv, .int vav, .int dnv, .int wv, .int ((F_m_fail 13 a2).1), .int ((F_m_fail 13 a2).2), .int ne])), (ym, .inl (d1, 16384, .inl me)), (yr, .inl (d2, 4, .inl rg)), (yg, .inl (d3, 32, .inl rs))] H := hP
              have hD : va_D A [(y0, .inr (1, [.int th, .ref ym, .ref yr, .ref yg, .int pcv, .int trv, .int vav, .int dnv, .int wv, .int ((F_m_fail 13 a2).1), .int ((F_m_fail 13 a2).2), .int ne])), (ym, .inl (d1, 16384, .inl me)), (yr, .inl (d2, 4, .inl rg)), (yg, .inl (d3, 32, .inl rs))] := hD
              refine lv_goto (tgt := 105) hx hb dX1_load_71 (by decide) ?_
              exact W.vret hx hb hr (fun t ht hW => ⟨⟨(me, rs, (F_m_fail 13 a2).1, (F_m_fail 13 a2).2, ne), rfl, (by unfold F_m_load; first | (rw [if_neg c_1, if_pos c_5, if_neg c_6, if_neg c_7, if_pos c_8, if_pos c_11]; done) | (rw [if_neg c_1, if_pos c_5, if_neg c_6, if_neg c_7, if_pos c_8, if_pos c_11]; rfl)), by rw [ht]; exact hP, va_K.moved hW.alike hK, hD⟩, hS.F ht⟩) hS.2.2 dX1_load_105
          · refine lv_aload_n hx hb dX1_load_46 rfl (lv_at hl 1 rfl) ?_
            refine lv_iconst (v := 4) hx hb dX1_load_47 (by decide) ?_
            refine lv_iload_n hx hb dX1_load_48 rfl (lv_at hl 3 rfl) ?_
            have hFc := va_free (wc := [(y0, .inr (1, [.int th, .ref ym, .ref yr, .ref yg, .int pcv, .int trv, .int vav, .int dnv, .int wv, .int fa, .int wi, .int ne])), (ym, .inl (d1, 16384, .inl me)), (yr, .inl (d2, 4, .inl rg)), (yg, .inl (d3, 32, .inl rs))]) hD hS hA [0, 1, 2, 3] rfl
            refine va_callv (va_runV (As := [.int 4, .int a2]) (rest := []) ⟨hx, hb, hml, hown, hts⟩ (c_m_fail l dC dI y0 ym yr yg d1 d2 d3 s.heap.size th me rg rs pcv trv vav dnv wv fa wi ne 4 a2) (cwV 2 hts (gV mL_X1_60 mI_X1_fail mE_X1_fail mN_X1 mC_X1_fail) rfl rfl rfl (by decide +kernel) ⟨Nat.le_of_ble_eq_true rfl, Nat.le_of_ble_eq_true rfl⟩) ⟨fun a U g mk q => by obtain ⟨q0, q1, qP, qK, qD⟩ := q; exact ⟨q0, q1, qP, va_K.moved (u := U) (U := U.calling g mk a) (Vm.Alike.refl U.vm) qK, qD⟩, va_recv hK hP (ci := 1) (q0 := 0) rfl rfl, fun U hU hW => ⟨rfl, by rw [hU], by rw [hU]; exact hP, va_K.moved hW.alike hK, hD.weaken (fun _ _ _ _ => trivial)⟩⟩ rfl rfl hl.1 rfl (lv_room (Nat.le_of_ble_eq_true rfl)) dX1_load_49 ⟨Nat.zero_le _, Nat.zero_le _⟩) hS (fun q _ h => hFc q h) hFc (fun u t H1 locs ht hvm hw hB hz1 hk1 hS => ?_)
            rw [hw] at hB
            obtain ⟨hP1, hK1, hD1⟩ := hB
            rw [ht] at hP1
            obtain ⟨hP, hD⟩ := va_join (wr := []) (w1 := [(y0, .inr (1, [.int th, .ref ym, .ref yr, .ref yg, .int pcv, .int trv, .int vav, .int dnv, .int wv, .int ((F_m_fail 4 a2).1), .int ((F_m_fail 4 a2).2), .int ne])), (ym, .inl (d1, 16384, .inl me)), (yr, .inl (d2, 4, .inl rg)), (yg, .inl (d3, 32, .inl rs))]) hP hD [0, 1, 2, 3] [] rfl rfl (by decide) (by decide) hk1 hFc hP1 hD1
            generalize H1 = H at hP hS ⊢
            have hP : va_P (dC, dI) vwCl [(y0, .inr (1, [.int th, .ref ym, .ref yr, .ref yg, .int pcv, .int trv, .int vav, .int dnv, .int wv, .int ((F_m_fail 4 a2).1), .int ((F_m_fail 4 a2).2), .int ne])), (ym, .inl (d1, 16384, .inl me)), (yr, .inl (d2, 4, .inl rg)), (yg, .inl (d3, 32, .inl rs))] H := hP
            have hD : va_D A [(y0, .inr (1, [.int th, .ref ym, .ref yr, .ref yg, .int pcv, .int trv, .int vav, .int dnv, .int wv, .int ((F_m_fail 4 a2).1), .int ((F_m_fail 4 a2).2), .int ne])), (ym, .inl (d1, 16384, .inl me)), (yr, .inl (d2, 4, .inl rg)), (yg, .inl (d3, 32, .inl rs))] := hD
            refine lv_goto (tgt := 105) hx hb dX1_load_52 (by decide) ?_
            exact W.vret hx hb hr (fun t ht hW => ⟨⟨(me, rs, (F_m_fail 4 a2).1, (F_m_fail 4 a2).2, ne), rfl, (by unfold F_m_load; first | (rw [if_neg c_1, if_pos c_5, if_neg c_6, if_neg c_7, if_neg c_8]; done) | (rw [if_neg c_1, if_pos c_5, if_neg c_6, if_neg c_7, if_neg c_8]; rfl)), by rw [ht]; exact hP, va_K.moved hW.alike hK, hD⟩, hS.F ht⟩) hS.2.2 dX1_load_105
        · refine lv_iconst (v := 2) hx hb dX1_load_32 (by decide) ?_
          refine lv_goto (tgt := 37) hx hb dX1_load_33 (by decide) ?_
          refine lv_istore_n (lv' := [(3, .int 2), (0, .ref y0), (1, .int a1), (2, .int a2)]) hx hb dX1_load_37 rfl hl (by decide) rfl (fun ls hl => ?_)
          refine lv_iload_n hx hb dX1_load_38 rfl (lv_at hl 3 rfl) ?_
          refine lv_iload_n hx hb dX1_load_39 rfl (lv_at hl 0 rfl) ?_
          refine lv_iconst (v := 1) hx hb dX1_load_40 (by decide) ?_
          refine lv_isub hx hb dX1_load_41 ?_
          refine lv_iand hx hb dX1_load_42 ?_
          refine lv_if_eq (tgt := 55) hx hb dX1_load_43 (by decide) (fun c_23 => ?_) (fun c_23 => ?_)
          · refine lv_aload_n hx hb dX1_load_55 rfl (lv_at hl 1 rfl) ?_
            refine lv_iload_n hx hb dX1_load_56 rfl (lv_at hl 3 rfl) ?_
            refine lv_iconst (v := 1) hx hb dX1_load_57 (by decide) ?_
            refine vp_callSi (W.runV (As := [.int a2, .int 1]) (rest := []) ⟨hx, hb, hml, hown, hts⟩ (c_m_may l dC dI y0 ym yr yg d1 d2 d3 th me rg rs pcv trv vav dnv wv fa wi ne a2 1 ((by decide))) (cwV 2 hts (gV mL_X1_82 mI_X1_may mE_X1_may mN_X1 mC_X1_may) rfl rfl rfl (by decide +kernel) ⟨Nat.le_of_ble_eq_true rfl, Nat.le_of_ble_eq_true rfl⟩) ⟨fun a U g mk q => by obtain ⟨q0, qP, qK⟩ := q; exact ⟨q0, qP, va_K.moved (u := U) (U := U.calling g mk a) (Vm.Alike.refl U.vm) qK⟩, va_recv hK hP (ci := 1) (q0 := 0) rfl rfl, fun U hU hW => ⟨rfl, by rw [hU]; exact hP, va_K.moved hW.alike hK⟩⟩ rfl rfl hl.1 rfl (lv_room (Nat.le_of_ble_eq_true rfl)) dX1_load_58 ⟨Nat.zero_le _, Nat.zero_le _⟩) (fun r_24 hw => ?_)
            obtain ⟨b_25, hw⟩ := hw
            rw [hw] at b_25 ⊢
            clear hw
            refine lv_if_ne (tgt := 74) hx hb dX1_load_61 (by decide) (fun c_26 => ?_) (fun c_26 => ?_)
            · refine lv_aload_n hx hb dX1_load_74 rfl (lv_at hl 1 rfl) ?_
              refine lv_iload_n hx hb dX1_load_75 rfl (lv_at hl 3 rfl) ?_
              refine lv_iload_n hx hb dX1_load_76 rfl (lv_at hl 0 rfl) ?_
              refine vp_callSi (W.runV (As := [.int a2, .int 2]) (rest := []) ⟨hx, hb, hml, hown, hts⟩ (c_m_bytes l dC dI y0 ym yr yg d1 d2 d3 th me rg rs pcv trv vav dnv wv fa wi ne a2 2 ((in_byt (by decide) c_23 c_26))) (cwV 2 hts (gV mL_X1_85 mI_X1_bytes mE_X1_bytes mN_X1 mC_X1_bytes) rfl rfl rfl (by decide +kernel) ⟨Nat.le_of_ble_eq_true rfl, Nat.le_of_ble_eq_true rfl⟩) ⟨fun a U g mk q => by obtain ⟨q0, qP, qK⟩ := q; exact ⟨q0, qP, va_K.moved (u := U) (U := U.calling g mk a) (Vm.Alike.refl U.vm) qK⟩, va_recv hK hP (ci := 1) (q0 := 0) rfl rfl, fun U hU hW => ⟨rfl, by rw [hU]; exact hP, va_K.moved hW.alike hK⟩⟩ rfl rfl hl.1 rfl (lv_room (Nat.le_of_ble_eq_true rfl)) dX1_load_77 ⟨Nat.zero_le _, Nat.zero_le _⟩) (fun r_27 hw => ?_)
              rw [hw]
              clear hw r_27
              refine lv_istore (lv' := [(4, .int (F_m_bytes me a2 2)), (3, .int 2), (0, .ref y0), (1, .int a1), (2, .int a2)]) hx hb dX1_load_80 hl (by decide) rfl (fun ls hl => ?_)
              refine lv_aload_n hx hb dX1_load_82 rfl (lv_at hl 2 rfl) ?_
              refine lv_iload_n hx hb dX1_load_83 rfl (lv_at hl 3 rfl) ?_
              refine lv_iconst (v := 2) hx hb dX1_load_84 (by decide) ?_
              refine lv_icmp_ge (tgt := 100) hx hb dX1_load_85 (by decide) (fun c_28 => ?_) (fun c_28 => ?_)
              · refine lv_iload hx hb dX1_load_100 (lv_at hl 0 rfl) ?_
                have hFc := va_free (wc := [(y0, .inr (1, [.int th, .ref ym, .ref yr, .ref yg, .int pcv, .int trv, .int vav, .int dnv, .int wv, .int fa, .int wi, .int ne])), (ym, .inl (d1, 16384, .inl me)), (yr, .inl (d2, 4, .inl rg)), (yg, .inl (d3, 32, .inl rs))]) hD hS hA [0, 1, 2, 3] rfl
                refine va_callv (va_runV (As := [.int (F_m_bytes me a2 2)]) (rest := []) ⟨hx, hb, hml, hown, hts⟩ (c_m_put l dC dI y0 ym yr yg d1 d2 d3 s.heap.size th me rg rs pcv trv vav dnv wv fa wi ne (F_m_bytes me a2 2)) (cwV 1 hts (gV mL_X1_67 mI_X1_put mE_X1_put mN_X1 mC_X1_put) rfl rfl rfl (by decide +kernel) ⟨Nat.le_of_ble_eq_true rfl, Nat.le_of_ble_eq_true rfl⟩) ⟨fun a U g mk q => by obtain ⟨q0, q1, qP, qK, qD⟩ := q; exact ⟨q0, q1, qP, va_K.moved (u := U) (U := U.calling g mk a) (Vm.Alike.refl U.vm) qK, qD⟩, va_recv hK hP (ci := 1) (q0 := 0) rfl rfl, fun U hU hW => ⟨rfl, by rw [hU], by rw [hU]; exact hP, va_K.moved hW.alike hK, hD.weaken (fun _ _ _ _ => trivial)⟩⟩ rfl rfl hl.1 rfl (lv_room (Nat.le_of_ble_eq_true rfl)) dX1_load_102 ⟨Nat.zero_le _, Nat.zero_le _⟩) hS (fun q _ h => hFc q h) hFc (fun u t H1 locs ht hvm hw hB hz1 hk1 hS => ?_)
                rw [hw] at hB
                obtain ⟨hP1, hK1, hD1⟩ := hB
                rw [ht] at hP1
                obtain ⟨hP, hD⟩ := va_join (wr := []) (w1 := [(y0, .inr (1, [.int th, .ref ym, .ref yr, .ref yg, .int pcv, .int trv, .int vav, .int dnv, .int wv, .int fa, .int wi, .int ne])), (ym, .inl (d1, 16384, .inl me)), (yr, .inl (d2, 4, .inl rg)), (yg, .inl (d3, 32, .inl (F_m_put wv rs (F_m_bytes me a2 2))))]) hP hD [0, 1, 2, 3] [] rfl rfl (by decide) (by decide) hk1 hFc hP1 hD1
                generalize H1 = H at hP hS ⊢
                have hP : va_P (dC, dI) vwCl [(y0, .inr (1, [.int th, .ref ym, .ref yr, .ref yg, .int pcv, .int trv, .int vav, .int dnv, .int wv, .int fa, .int wi, .int ne])), (ym, .inl (d1, 16384, .inl me)), (yr, .inl (d2, 4, .inl rg)), (yg, .inl (d3, 32, .inl (F_m_put wv rs (F_m_bytes me a2 2))))] H := hP
                have hD : va_D A [(y0, .inr (1, [.int th, .ref ym, .ref yr, .ref yg, .int pcv, .int trv, .int vav, .int dnv, .int wv, .int fa, .int wi, .int ne])), (ym, .inl (d1, 16384, .inl me)), (yr, .inl (d2, 4, .inl rg)), (yg, .inl (d3, 32, .inl (F_m_put wv rs (F_m_bytes me a2 2))))] := hD
                exact W.vret hx hb hr (fun t ht hW => ⟨⟨(me, F_m_put wv rs (F_m_bytes me a2 2), fa, wi, ne), rfl, (by unfold F_m_load; first | (rw [if_neg c_1, if_pos c_5, if_neg c_6, if_pos c_7, if_pos c_23, if_neg c_26, if_pos c_28]; done) | (rw [if_neg c_1, if_pos c_5, if_neg c_6, if_pos c_7, if_pos c_23, if_neg c_26, if_pos c_28]; rfl)), by rw [ht]; exact hP, va_K.moved hW.alike hK, hD⟩, hS.F ht⟩) hS.2.2 dX1_load_105
              · refine lv_iload hx hb dX1_load_88 (lv_at hl 0 rfl) ?_
                refine lv_bipush (v := 8) hx hb dX1_load_90 (by decide) ?_
                refine lv_iload_n hx hb dX1_load_92 rfl (lv_at hl 1 rfl) ?_
                refine lv_imul hx hb dX1_load_93 ?_
                refine vp_callSi (W.runS (As := [.int (F_m_bytes me a2 2), .int (8 * 2)]) (rest := [.ref y0]) ⟨hx, hb, hml, hown, hts⟩ (c_m_signed l (F_m_bytes me a2 2) (8 * 2)) (cwS 2 hts (gS mL_X1_37 mS_X1_signed mN_X1 mC_X1_signed) rfl rfl rfl (by decide +kernel) ⟨Nat.le_of_ble_eq_true rfl, Nat.le_of_ble_eq_true rfl⟩) preEq rfl rfl hl.1 rfl (lv_room (Nat.le_of_ble_eq_true rfl)) dX1_load_94 ⟨Nat.zero_le _, Nat.zero_le _⟩) (fun r_30 hw => ?_)
                rw [hw]
                clear hw r_30
                refine lv_goto (tgt := 102) hx hb dX1_load_97 (by decide) ?_
                have hFc := va_free (wc := [(y0, .inr (1, [.int th, .ref ym, .ref yr, .ref yg, .int pcv, .int trv, .int vav, .int dnv, .int wv, .int fa, .int wi, .int ne])), (ym, .inl (d1, 16384, .inl me)), (yr, .inl (d2, 4, .inl rg)), (yg, .inl (d3, 32, .inl rs))]) hD hS hA [0, 1, 2, 3] rfl
                refine va_callv (va_runV (As := [.int (F_m_signed (F_m_bytes me a2 2) (8 * 2))]) (rest := []) ⟨hx, hb, hml, hown, hts⟩ (c_m_put l dC dI y0 ym yr yg d1 d2 d3 s.heap.size th me rg rs pcv trv vav dnv wv fa wi ne (F_m_signed (F_m_bytes me a2 2) (8 * 2))) (cwV 1 hts (gV mL_X1_67 mI_X1_put mE_X1_put mN_X1 mC_X1_put) rfl rfl rfl (by decide +kernel) ⟨Nat.le_of_ble_eq_true rfl, Nat.le_of_ble_eq_true rfl⟩) ⟨fun a U g mk q => by obtain ⟨q0, q1, qP, qK, qD⟩ := q; exact ⟨q0, q1, qP, va_K.moved (u := U) (U := U.calling g mk a) (Vm.Alike.refl U.vm) qK, qD⟩, va_recv hK hP (ci := 1) (q0 := 0) rfl rfl, fun U hU hW => ⟨rfl, by rw [hU], by rw [hU]; exact hP, va_K.moved hW.alike hK, hD.weaken (fun _ _ _ _ => trivial)⟩⟩ rfl rfl hl.1 rfl (lv_room (Nat.le_of_ble_eq_true rfl)) dX1_load_102 ⟨Nat.zero_le _, Nat.zero_le _⟩) hS (fun q _ h => hFc q h) hFc (fun u t H1 locs ht hvm hw hB hz1 hk1 hS => ?_)
                rw [hw] at hB
                obtain ⟨hP1, hK1, hD1⟩ := hB
                rw [ht] at hP1
                obtain ⟨hP, hD⟩ := va_join (wr := []) (w1 := [(y0, .inr (1, [.int th, .ref ym, .ref yr, .ref yg, .int pcv, .int trv, .int vav, .int dnv, .int wv, .int fa, .int wi, .int ne])), (ym, .inl (d1, 16384, .inl me)), (yr, .inl (d2, 4, .inl rg)), (yg, .inl (d3, 32, .inl (F_m_put wv rs (F_m_signed (F_m_bytes me a2 2) (8 * 2)))))]) hP hD [0, 1, 2, 3] [] rfl rfl (by decide) (by decide) hk1 hFc hP1 hD1
                generalize H1 = H at hP hS ⊢
                have hP : va_P (dC, dI) vwCl [(y0, .inr (1, [.int th, .ref ym, .ref yr, .ref yg, .int pcv, .int trv, .int vav, .int dnv, .int wv, .int fa, .int wi, .int ne])), (ym, .inl (d1, 16384, .inl me)), (yr, .inl (d2, 4, .inl rg)), (yg, .inl (d3, 32, .inl (F_m_put wv rs (F_m_signed (F_m_bytes me a2 2) (8 * 2)))))] H := hP
                have hD : va_D A [(y0, .inr (1, [.int th, .ref ym, .ref yr, .ref yg, .int pcv, .int trv, .int vav, .int dnv, .int wv, .int fa, .int wi, .int ne])), (ym, .inl (d1, 16384, .inl me)), (yr, .inl (d2, 4, .inl rg)), (yg, .inl (d3, 32, .inl (F_m_put wv rs (F_m_signed (F_m_bytes me a2 2) (8 * 2)))))] := hD
                exact W.vret hx hb hr (fun t ht hW => ⟨⟨(me, F_m_put wv rs (F_m_signed (F_m_bytes me a2 2) (8 * 2)), fa, wi, ne), rfl, (by unfold F_m_load; first | (rw [if_neg c_1, if_pos c_5, if_neg c_6, if_pos c_7, if_pos c_23, if_neg c_26, if_neg c_28]; done) | (rw [if_neg c_1, if_pos c_5, if_neg c_6, if_pos c_7, if_pos c_23, if_neg c_26, if_neg c_28]; rfl)), by rw [ht]; exact hP, va_K.moved hW.alike hK, hD⟩, hS.F ht⟩) hS.2.2 dX1_load_105
            · refine lv_aload_n hx hb dX1_load_64 rfl (lv_at hl 1 rfl) ?_
              refine lv_bipush (v := 13) hx hb dX1_load_65 (by decide) ?_
              refine lv_iload_n hx hb dX1_load_67 rfl (lv_at hl 3 rfl) ?_
              have hFc := va_free (wc := [(y0, .inr (1, [.int th, .ref ym, .ref yr, .ref yg, .int pcv, .int trv, .int vav, .int dnv, .int wv, .int fa, .int wi, .int ne])), (ym, .inl (d1, 16384, .inl me)), (yr, .inl (d2, 4, .inl rg)), (yg, .inl (d3, 32, .inl rs))]) hD hS hA [0, 1, 2, 3] rfl
              refine va_callv (va_runV (As := [.int 13, .int a2]) (rest := []) ⟨hx, hb, hml, hown, hts⟩ (c_m_fail l dC dI y0 ym yr yg d1 d2 d3 s.heap.size th me rg rs pcv trv vav dnv wv fa wi ne 13 a2) (cwV 2 hts (gV mL_X1_60 mI_X1_fail mE_X1_fail mN_X1 mC_X1_fail) rfl rfl rfl (by decide +kernel) ⟨Nat.le_of_ble_eq_true rfl, Nat.le_of_ble_eq_true rfl⟩) ⟨fun a U g mk q => by obtain ⟨q0, q1, qP, qK, qD⟩ := q; exact ⟨q0, q1, qP, va_K.moved (u := U) (U := U.calling g mk a) (Vm.Alike.refl U.vm) qK, qD⟩, va_recv hK hP (ci := 1) (q0 := 0) rfl rfl, fun U hU hW => ⟨rfl, by rw [hU], by rw [hU]; exact hP, va_K.moved hW.alike hK, hD.weaken (fun _ _ _ _ => trivial)⟩⟩ rfl rfl hl.1 rfl (lv_room (Nat.le_of_ble_eq_true rfl)) dX1_load_68 ⟨Nat.zero_le _, Nat.zero_le _⟩) hS (fun q _ h => hFc q h) hFc (fun u t H1 locs ht hvm hw hB hz1 hk1 hS => ?_)
              rw [hw] at hB
              obtain ⟨hP1, hK1, hD1⟩ := hB
              rw [ht] at hP1
              obtain ⟨hP, hD⟩ := va_join (wr := []) (w1 := [(y0, .inr (1, [.int th, .ref ym, .ref yr, .ref yg, .int pcv, .int trv, .int vav, .int dnv, .int wv, .int ((F_m_fail 13 a2).1), .int ((F_m_fail 13 a2).2), .int ne])), (ym, .inl (d1, 16384, .inl me)), (yr, .inl (d2, 4, .inl rg)), (yg, .inl (d3, 32, .inl rs))]) hP hD [0, 1, 2, 3] [] rfl rfl (by decide) (by decide) hk1 hFc hP1 hD1
              generalize H1 = H at hP hS ⊢
              have hP : va_P (dC, dI) vwCl [(y0, .inr (1, [.int th, .ref ym, .ref yr, .ref yg, .int pcv, .int trv, .int vav, .int dnv, .int wv, .int ((F_m_fail 13 a2).1), .int ((F_m_fail 13 a2).2), .int ne])), (ym, .inl (d1, 16384, .inl me)), (yr, .inl (d2, 4, .inl rg)), (yg, .inl (d3, 32, .inl rs))] H := hP
              have hD : va_D A [(y0, .inr (1, [.int th, .ref ym, .ref yr, .ref yg, .int pcv, .int trv, .int vav, .int dnv, .int wv, .int ((F_m_fail 13 a2).1), .int ((F_m_fail 13 a2).2), .int ne])), (ym, .inl (d1, 16384, .inl me)), (yr, .inl (d2, 4, .inl rg)), (yg, .inl (d3, 32, .inl rs))] := hD
              refine lv_goto (tgt := 105) hx hb dX1_load_71 (by decide) ?_
              exact W.vret hx hb hr (fun t ht hW => ⟨⟨(me, rs, (F_m_fail 13 a2).1, (F_m_fail 13 a2).2, ne), rfl, (by unfold F_m_load; first | (rw [if_neg c_1, if_pos c_5, if_neg c_6, if_pos c_7, if_pos c_23, if_pos c_26]; done) | (rw [if_neg c_1, if_pos c_5, if_neg c_6, if_pos c_7, if_pos c_23, if_pos c_26]; rfl)), by rw [ht]; exact hP, va_K.moved hW.alike hK, hD⟩, hS.F ht⟩) hS.2.2 dX1_load_105
          · refine lv_aload_n hx hb dX1_load_46 rfl (lv_at hl 1 rfl) ?_
            refine lv_iconst (v := 4) hx hb dX1_load_47 (by decide) ?_
            refine lv_iload_n hx hb dX1_load_48 rfl (lv_at hl 3 rfl) ?_
            have hFc := va_free (wc := [(y0, .inr (1, [.int th, .ref ym, .ref yr, .ref yg, .int pcv, .int trv, .int vav, .int dnv, .int wv, .int fa, .int wi, .int ne])), (ym, .inl (d1, 16384, .inl me)), (yr, .inl (d2, 4, .inl rg)), (yg, .inl (d3, 32, .inl rs))]) hD hS hA [0, 1, 2, 3] rfl
            refine va_callv (va_runV (As := [.int 4, .int a2]) (rest := []) ⟨hx, hb, hml, hown, hts⟩ (c_m_fail l dC dI y0 ym yr yg d1 d2 d3 s.heap.size th me rg rs pcv trv vav dnv wv fa wi ne 4 a2) (cwV 2 hts (gV mL_X1_60 mI_X1_fail mE_X1_fail mN_X1 mC_X1_fail) rfl rfl rfl (by decide +kernel) ⟨Nat.le_of_ble_eq_true rfl, Nat.le_of_ble_eq_true rfl⟩) ⟨fun a U g mk q => by obtain ⟨q0, q1, qP, qK, qD⟩ := q; exact ⟨q0, q1, qP, va_K.moved (u := U) (U := U.calling g mk a) (Vm.Alike.refl U.vm) qK, qD⟩, va_recv hK hP (ci := 1) (q0 := 0) rfl rfl, fun U hU hW => ⟨rfl, by rw [hU], by rw [hU]; exact hP, va_K.moved hW.alike hK, hD.weaken (fun _ _ _ _ => trivial)⟩⟩ rfl rfl hl.1 rfl (lv_room (Nat.le_of_ble_eq_true rfl)) dX1_load_49 ⟨Nat.zero_le _, Nat.zero_le _⟩) hS (fun q _ h => hFc q h) hFc (fun u t H1 locs ht hvm hw hB hz1 hk1 hS => ?_)
            rw [hw] at hB
            obtain ⟨hP1, hK1, hD1⟩ := hB
            rw [ht] at hP1
            obtain ⟨hP, hD⟩ := va_join (wr := []) (w1 := [(y0, .inr (1, [.int th, .ref ym, .ref yr, .ref yg, .int pcv, .int trv, .int vav, .int dnv, .int wv, .int ((F_m_fail 4 a2).1), .int ((F_m_fail 4 a2).2), .int ne])), (ym, .inl (d1, 16384, .inl me)), (yr, .inl (d2, 4, .inl rg)), (yg, .inl (d3, 32, .inl rs))]) hP hD [0, 1, 2, 3] [] rfl rfl (by decide) (by decide) hk1 hFc hP1 hD1
            generalize H1 = H at hP hS ⊢
            have hP : va_P (dC, dI) vwCl [(y0, .inr (1, [.int th, .ref ym, .ref yr, .ref yg, .int pcv, .int trv, .int vav, .int dnv, .int wv, .int ((F_m_fail 4 a2).1), .int ((F_m_fail 4 a2).2), .int ne])), (ym, .inl (d1, 16384, .inl me)), (yr, .inl (d2, 4, .inl rg)), (yg, .inl (d3, 32, .inl rs))] H := hP
            have hD : va_D A [(y0, .inr (1, [.int th, .ref ym, .ref yr, .ref yg, .int pcv, .int trv, .int vav, .int dnv, .int wv, .int ((F_m_fail 4 a2).1), .int ((F_m_fail 4 a2).2), .int ne])), (ym, .inl (d1, 16384, .inl me)), (yr, .inl (d2, 4, .inl rg)), (yg, .inl (d3, 32, .inl rs))] := hD
            refine lv_goto (tgt := 105) hx hb dX1_load_52 (by decide) ?_
            exact W.vret hx hb hr (fun t ht hW => ⟨⟨(me, rs, (F_m_fail 4 a2).1, (F_m_fail 4 a2).2, ne), rfl, (by unfold F_m_load; first | (rw [if_neg c_1, if_pos c_5, if_neg c_6, if_pos c_7, if_neg c_23]; done) | (rw [if_neg c_1, if_pos c_5, if_neg c_6, if_pos c_7, if_neg c_23]; rfl)), by rw [ht]; exact hP, va_K.moved hW.alike hK, hD⟩, hS.F ht⟩) hS.2.2 dX1_load_105
      · refine lv_iconst (v := 1) hx hb dX1_load_21 (by decide) ?_
        refine lv_goto (tgt := 37) hx hb dX1_load_22 (by decide) ?_
        refine lv_istore_n (lv' := [(3, .int 1), (0, .ref y0), (1, .int a1), (2, .int a2)]) hx hb dX1_load_37 rfl hl (by decide) rfl (fun ls hl => ?_)
        refine lv_iload_n hx hb dX1_load_38 rfl (lv_at hl 3 rfl) ?_
        refine lv_iload_n hx hb dX1_load_39 rfl (lv_at hl 0 rfl) ?_
        refine lv_iconst (v := 1) hx hb dX1_load_40 (by decide) ?_
        refine lv_isub hx hb dX1_load_41 ?_
        refine lv_iand hx hb dX1_load_42 ?_
        refine lv_if_eq (tgt := 55) hx hb dX1_load_43 (by decide) (fun c_38 => ?_) (fun c_38 => ?_)
        · refine lv_aload_n hx hb dX1_load_55 rfl (lv_at hl 1 rfl) ?_
          refine lv_iload_n hx hb dX1_load_56 rfl (lv_at hl 3 rfl) ?_
          refine lv_iconst (v := 1) hx hb dX1_load_57 (by decide) ?_
          refine vp_callSi (W.runV (As := [.int a2, .int 1]) (rest := []) ⟨hx, hb, hml, hown, hts⟩ (c_m_may l dC dI y0 ym yr yg d1 d2 d3 th me rg rs pcv trv vav dnv wv fa wi ne a2 1 ((by decide))) (cwV 2 hts (gV mL_X1_82 mI_X1_may mE_X1_may mN_X1 mC_X1_may) rfl rfl rfl (by decide +kernel) ⟨Nat.le_of_ble_eq_true rfl, Nat.le_of_ble_eq_true rfl⟩) ⟨fun a U g mk q => by obtain ⟨q0, qP, qK⟩ := q; exact ⟨q0, qP, va_K.moved (u := U) (U := U.calling g mk a) (Vm.Alike.refl U.vm) qK⟩, va_recv hK hP (ci := 1) (q0 := 0) rfl rfl, fun U hU hW => ⟨rfl, by rw [hU]; exact hP, va_K.moved hW.alike hK⟩⟩ rfl rfl hl.1 rfl (lv_room (Nat.le_of_ble_eq_true rfl)) dX1_load_58 ⟨Nat.zero_le _, Nat.zero_le _⟩) (fun r_39 hw => ?_)
          obtain ⟨b_40, hw⟩ := hw
          rw [hw] at b_40 ⊢
          clear hw
          refine lv_if_ne (tgt := 74) hx hb dX1_load_61 (by decide) (fun c_41 => ?_) (fun c_41 => ?_)
          · refine lv_aload_n hx hb dX1_load_74 rfl (lv_at hl 1 rfl) ?_
            refine lv_iload_n hx hb dX1_load_75 rfl (lv_at hl 3 rfl) ?_
            refine lv_iload_n hx hb dX1_load_76 rfl (lv_at hl 0 rfl) ?_
            refine vp_callSi (W.runV (As := [.int a2, .int 1]) (rest := []) ⟨hx, hb, hml, hown, hts⟩ (c_m_bytes l dC dI y0 ym yr yg d1 d2 d3 th me rg rs pcv trv vav dnv wv fa wi ne a2 1 ((in_byt (by decide) c_38 c_41))) (cwV 2 hts (gV mL_X1_85 mI_X1_bytes mE_X1_bytes mN_X1 mC_X1_bytes) rfl rfl rfl (by decide +kernel) ⟨Nat.le_of_ble_eq_true rfl, Nat.le_of_ble_eq_true rfl⟩) ⟨fun a U g mk q => by obtain ⟨q0, qP, qK⟩ := q; exact ⟨q0, qP, va_K.moved (u := U) (U := U.calling g mk a) (Vm.Alike.refl U.vm) qK⟩, va_recv hK hP (ci := 1) (q0 := 0) rfl rfl, fun U hU hW => ⟨rfl, by rw [hU]; exact hP, va_K.moved hW.alike hK⟩⟩ rfl rfl hl.1 rfl (lv_room (Nat.le_of_ble_eq_true rfl)) dX1_load_77 ⟨Nat.zero_le _, Nat.zero_le _⟩) (fun r_42 hw => ?_)
            rw [hw]
            clear hw r_42
            refine lv_istore (lv' := [(4, .int (F_m_bytes me a2 1)), (3, .int 1), (0, .ref y0), (1, .int a1), (2, .int a2)]) hx hb dX1_load_80 hl (by decide) rfl (fun ls hl => ?_)
            refine lv_aload_n hx hb dX1_load_82 rfl (lv_at hl 2 rfl) ?_
            refine lv_iload_n hx hb dX1_load_83 rfl (lv_at hl 3 rfl) ?_
            refine lv_iconst (v := 2) hx hb dX1_load_84 (by decide) ?_
            refine lv_icmp_ge (tgt := 100) hx hb dX1_load_85 (by decide) (fun c_43 => ?_) (fun c_43 => ?_)
            · refine lv_iload hx hb dX1_load_100 (lv_at hl 0 rfl) ?_
              have hFc := va_free (wc := [(y0, .inr (1, [.int th, .ref ym, .ref yr, .ref yg, .int pcv, .int trv, .int vav, .int dnv, .int wv, .int fa, .int wi, .int ne])), (ym, .inl (d1, 16384, .inl me)), (yr, .inl (d2, 4, .inl rg)), (yg, .inl (d3, 32, .inl rs))]) hD hS hA [0, 1, 2, 3] rfl
              refine va_callv (va_runV (As := [.int (F_m_bytes me a2 1)]) (rest := []) ⟨hx, hb, hml, hown, hts⟩ (c_m_put l dC dI y0 ym yr yg d1 d2 d3 s.heap.size th me rg rs pcv trv vav dnv wv fa wi ne (F_m_bytes me a2 1)) (cwV 1 hts (gV mL_X1_67 mI_X1_put mE_X1_put mN_X1 mC_X1_put) rfl rfl rfl (by decide +kernel) ⟨Nat.le_of_ble_eq_true rfl, Nat.le_of_ble_eq_true rfl⟩) ⟨fun a U g mk q => by obtain ⟨q0, q1, qP, qK, qD⟩ := q; exact ⟨q0, q1, qP, va_K.moved (u := U) (U := U.calling g mk a) (Vm.Alike.refl U.vm) qK, qD⟩, va_recv hK hP (ci := 1) (q0 := 0) rfl rfl, fun U hU hW => ⟨rfl, by rw [hU], by rw [hU]; exact hP, va_K.moved hW.alike hK, hD.weaken (fun _ _ _ _ => trivial)⟩⟩ rfl rfl hl.1 rfl (lv_room (Nat.le_of_ble_eq_true rfl)) dX1_load_102 ⟨Nat.zero_le _, Nat.zero_le _⟩) hS (fun q _ h => hFc q h) hFc (fun u t H1 locs ht hvm hw hB hz1 hk1 hS => ?_)
              rw [hw] at hB
              obtain ⟨hP1, hK1, hD1⟩ := hB
              rw [ht] at hP1
              obtain ⟨hP, hD⟩ := va_join (wr := []) (w1 := [(y0, .inr (1, [.int th, .ref ym, .ref yr, .ref yg, .int pcv, .int trv, .int vav, .int dnv, .int wv, .int fa, .int wi, .int ne])), (ym, .inl (d1, 16384, .inl me)), (yr, .inl (d2, 4, .inl rg)), (yg, .inl (d3, 32, .inl (F_m_put wv rs (F_m_bytes me a2 1))))]) hP hD [0, 1, 2, 3] [] rfl rfl (by decide) (by decide) hk1 hFc hP1 hD1
              generalize H1 = H at hP hS ⊢
              have hP : va_P (dC, dI) vwCl [(y0, .inr (1, [.int th, .ref ym, .ref yr, .ref yg, .int pcv, .int trv, .int vav, .int dnv, .int wv, .int fa, .int wi, .int ne])), (ym, .inl (d1, 16384, .inl me)), (yr, .inl (d2, 4, .inl rg)), (yg, .inl (d3, 32, .inl (F_m_put wv rs (F_m_bytes me a2 1))))] H := hP
              have hD : va_D A [(y0, .inr (1, [.int th, .ref ym, .ref yr, .ref yg, .int pcv, .int trv, .int vav, .int dnv, .int wv, .int fa, .int wi, .int ne])), (ym, .inl (d1, 16384, .inl me)), (yr, .inl (d2, 4, .inl rg)), (yg, .inl (d3, 32, .inl (F_m_put wv rs (F_m_bytes me a2 1))))] := hD
              exact W.vret hx hb hr (fun t ht hW => ⟨⟨(me, F_m_put wv rs (F_m_bytes me a2 1), fa, wi, ne), rfl, (by unfold F_m_load; first | (rw [if_neg c_1, if_pos c_5, if_pos c_6, if_pos c_38, if_neg c_41, if_pos c_43]; done) | (rw [if_neg c_1, if_pos c_5, if_pos c_6, if_pos c_38, if_neg c_41, if_pos c_43]; rfl)), by rw [ht]; exact hP, va_K.moved hW.alike hK, hD⟩, hS.F ht⟩) hS.2.2 dX1_load_105
            · refine lv_iload hx hb dX1_load_88 (lv_at hl 0 rfl) ?_
              refine lv_bipush (v := 8) hx hb dX1_load_90 (by decide) ?_
              refine lv_iload_n hx hb dX1_load_92 rfl (lv_at hl 1 rfl) ?_
              refine lv_imul hx hb dX1_load_93 ?_
              refine vp_callSi (W.runS (As := [.int (F_m_bytes me a2 1), .int (8 * 1)]) (rest := [.ref y0]) ⟨hx, hb, hml, hown, hts⟩ (c_m_signed l (F_m_bytes me a2 1) (8 * 1)) (cwS 2 hts (gS mL_X1_37 mS_X1_signed mN_X1 mC_X1_signed) rfl rfl rfl (by decide +kernel) ⟨Nat.le_of_ble_eq_true rfl, Nat.le_of_ble_eq_true rfl⟩) preEq rfl rfl hl.1 rfl (lv_room (Nat.le_of_ble_eq_true rfl)) dX1_load_94 ⟨Nat.zero_le _, Nat.zero_le _⟩) (fun r_45 hw => ?_)
              rw [hw]
              clear hw r_45
              refine lv_goto (tgt := 102) hx hb dX1_load_97 (by decide) ?_
              have hFc := va_free (wc := [(y0, .inr (1, [.int th, .ref ym, .ref yr, .ref yg, .int pcv, .int trv, .int vav, .int dnv, .int wv, .int fa, .int wi, .int ne])), (ym, .inl (d1, 16384, .inl me)), (yr, .inl (d2, 4, .inl rg)), (yg, .inl (d3, 32, .inl rs))]) hD hS hA [0, 1, 2, 3] rfl
              refine va_callv (va_runV (As := [.int (F_m_signed (F_m_bytes me a2 1) (8 * 1))]) (rest := []) ⟨hx, hb, hml, hown, hts⟩ (c_m_put l dC dI y0 ym yr yg d1 d2 d3 s.heap.size th me rg rs pcv trv vav dnv wv fa wi ne (F_m_signed (F_m_bytes me a2 1) (8 * 1))) (cwV 1 hts (gV mL_X1_67 mI_X1_put mE_X1_put mN_X1 mC_X1_put) rfl rfl rfl (by decide +kernel) ⟨Nat.le_of_ble_eq_true rfl, Nat.le_of_ble_eq_true rfl⟩) ⟨fun a U g mk q => by obtain ⟨q0, q1, qP, qK, qD⟩ := q; exact ⟨q0, q1, qP, va_K.moved (u := U) (U := U.calling g mk a) (Vm.Alike.refl U.vm) qK, qD⟩, va_recv hK hP (ci := 1) (q0 := 0) rfl rfl, fun U hU hW => ⟨rfl, by rw [hU], by rw [hU]; exact hP, va_K.moved hW.alike hK, hD.weaken (fun _ _ _ _ => trivial)⟩⟩ rfl rfl hl.1 rfl (lv_room (Nat.le_of_ble_eq_true rfl)) dX1_load_102 ⟨Nat.zero_le _, Nat.zero_le _⟩) hS (fun q _ h => hFc q h) hFc (fun u t H1 locs ht hvm hw hB hz1 hk1 hS => ?_)
              rw [hw] at hB
              obtain ⟨hP1, hK1, hD1⟩ := hB
              rw [ht] at hP1
              obtain ⟨hP, hD⟩ := va_join (wr := []) (w1 := [(y0, .inr (1, [.int th, .ref ym, .ref yr, .ref yg, .int pcv, .int trv, .int vav, .int dnv, .int wv, .int fa, .int wi, .int ne])), (ym, .inl (d1, 16384, .inl me)), (yr, .inl (d2, 4, .inl rg)), (yg, .inl (d3, 32, .inl (F_m_put wv rs (F_m_signed (F_m_bytes me a2 1) (8 * 1)))))]) hP hD [0, 1, 2, 3] [] rfl rfl (by decide) (by decide) hk1 hFc hP1 hD1
              generalize H1 = H at hP hS ⊢
              have hP : va_P (dC, dI) vwCl [(y0, .inr (1, [.int th, .ref ym, .ref yr, .ref yg, .int pcv, .int trv, .int vav, .int dnv, .int wv, .int fa, .int wi, .int ne])), (ym, .inl (d1, 16384, .inl me)), (yr, .inl (d2, 4, .inl rg)), (yg, .inl (d3, 32, .inl (F_m_put wv rs (F_m_signed (F_m_bytes me a2 1) (8 * 1)))))] H := hP
              have hD : va_D A [(y0, .inr (1, [.int th, .ref ym, .ref yr, .ref yg, .int pcv, .int trv, .int vav, .int dnv, .int wv, .int fa, .int wi, .int ne])), (ym, .inl (d1, 16384, .inl me)), (yr, .inl (d2, 4, .inl rg)), (yg, .inl (d3, 32, .inl (F_m_put wv rs (F_m_signed (F_m_bytes me a2 1) (8 * 1)))))] := hD
              exact W.vret hx hb hr (fun t ht hW => ⟨⟨(me, F_m_put wv rs (F_m_signed (F_m_bytes me a2 1) (8 * 1)), fa, wi, ne), rfl, (by unfold F_m_load; first | (rw [if_neg c_1, if_pos c_5, if_pos c_6, if_pos c_38, if_neg c_41, if_neg c_43]; done) | (rw [if_neg c_1, if_pos c_5, if_pos c_6, if_pos c_38, if_neg c_41, if_neg c_43]; rfl)), by rw [ht]; exact hP, va_K.moved hW.alike hK, hD⟩, hS.F ht⟩) hS.2.2 dX1_load_105
          · refine lv_aload_n hx hb dX1_load_64 rfl (lv_at hl 1 rfl) ?_
            refine lv_bipush (v := 13) hx hb dX1_load_65 (by decide) ?_
            refine lv_iload_n hx hb dX1_load_67 rfl (lv_at hl 3 rfl) ?_
            have hFc := va_free (wc := [(y0, .inr (1, [.int th, .ref ym, .ref yr, .ref yg, .int pcv, .int trv, .int vav, .int dnv, .int wv, .int fa, .int wi, .int ne])), (ym, .inl (d1, 16384, .inl me)), (yr, .inl (d2, 4, .inl rg)), (yg, .inl (d3, 32, .inl rs))]) hD hS hA [0, 1, 2, 3] rfl
            refine va_callv (va_runV (As := [.int 13, .int a2]) (rest := []) ⟨hx, hb, hml, hown, hts⟩ (c_m_fail l dC dI y0 ym yr yg d1 d2 d3 s.heap.size th me rg rs pcv trv vav dnv wv fa wi ne 13 a2) (cwV 2 hts (gV mL_X1_60 mI_X1_fail mE_X1_fail mN_X1 mC_X1_fail) rfl rfl rfl (by decide +kernel) ⟨Nat.le_of_ble_eq_true rfl, Nat.le_of_ble_eq_true rfl⟩) ⟨fun a U g mk q => by obtain ⟨q0, q1, qP, qK, qD⟩ := q; exact ⟨q0, q1, qP, va_K.moved (u := U) (U := U.calling g mk a) (Vm.Alike.refl U.vm) qK, qD⟩, va_recv hK hP (ci := 1) (q0 := 0) rfl rfl, fun U hU hW => ⟨rfl, by rw [hU], by rw [hU]; exact hP, va_K.moved hW.alike hK, hD.weaken (fun _ _ _ _ => trivial)⟩⟩ rfl rfl hl.1 rfl (lv_room (Nat.le_of_ble_eq_true rfl)) dX1_load_68 ⟨Nat.zero_le _, Nat.zero_le _⟩) hS (fun q _ h => hFc q h) hFc (fun u t H1 locs ht hvm hw hB hz1 hk1 hS => ?_)
            rw [hw] at hB
            obtain ⟨hP1, hK1, hD1⟩ := hB
            rw [ht] at hP1
            obtain ⟨hP, hD⟩ := va_join (wr := []) (w1 := [(y0, .inr (1, [.int th, .ref ym, .ref yr, .ref yg, .int pcv, .int trv, .int vav, .int dnv, .int wv, .int ((F_m_fail 13 a2).1), .int ((F_m_fail 13 a2).2), .int ne])), (ym, .inl (d1, 16384, .inl me)), (yr, .inl (d2, 4, .inl rg)), (yg, .inl (d3, 32, .inl rs))]) hP hD [0, 1, 2, 3] [] rfl rfl (by decide) (by decide) hk1 hFc hP1 hD1
            generalize H1 = H at hP hS ⊢
            have hP : va_P (dC, dI) vwCl [(y0, .inr (1, [.int th, .ref ym, .ref yr, .ref yg, .int pcv, .int trv, .int vav, .int dnv, .int wv, .int ((F_m_fail 13 a2).1), .int ((F_m_fail 13 a2).2), .int ne])), (ym, .inl (d1, 16384, .inl me)), (yr, .inl (d2, 4, .inl rg)), (yg, .inl (d3, 32, .inl rs))] H := hP
            have hD : va_D A [(y0, .inr (1, [.int th, .ref ym, .ref yr, .ref yg, .int pcv, .int trv, .int vav, .int dnv, .int wv, .int ((F_m_fail 13 a2).1), .int ((F_m_fail 13 a2).2), .int ne])), (ym, .inl (d1, 16384, .inl me)), (yr, .inl (d2, 4, .inl rg)), (yg, .inl (d3, 32, .inl rs))] := hD
            refine lv_goto (tgt := 105) hx hb dX1_load_71 (by decide) ?_
            exact W.vret hx hb hr (fun t ht hW => ⟨⟨(me, rs, (F_m_fail 13 a2).1, (F_m_fail 13 a2).2, ne), rfl, (by unfold F_m_load; first | (rw [if_neg c_1, if_pos c_5, if_pos c_6, if_pos c_38, if_pos c_41]; done) | (rw [if_neg c_1, if_pos c_5, if_pos c_6, if_pos c_38, if_pos c_41]; rfl)), by rw [ht]; exact hP, va_K.moved hW.alike hK, hD⟩, hS.F ht⟩) hS.2.2 dX1_load_105
        · refine lv_aload_n hx hb dX1_load_46 rfl (lv_at hl 1 rfl) ?_
          refine lv_iconst (v := 4) hx hb dX1_load_47 (by decide) ?_
          refine lv_iload_n hx hb dX1_load_48 rfl (lv_at hl 3 rfl) ?_
          have hFc := va_free (wc := [(y0, .inr (1, [.int th, .ref ym, .ref yr, .ref yg, .int pcv, .int trv, .int vav, .int dnv, .int wv, .int fa, .int wi, .int ne])), (ym, .inl (d1, 16384, .inl me)), (yr, .inl (d2, 4, .inl rg)), (yg, .inl (d3, 32, .inl rs))]) hD hS hA [0, 1, 2, 3] rfl
          refine va_callv (va_runV (As := [.int 4, .int a2]) (rest := []) ⟨hx, hb, hml, hown, hts⟩ (c_m_fail l dC dI y0 ym yr yg d1 d2 d3 s.heap.size th me rg rs pcv trv vav dnv wv fa wi ne 4 a2) (cwV 2 hts (gV mL_X1_60 mI_X1_fail mE_X1_fail mN_X1 mC_X1_fail) rfl rfl rfl (by decide +kernel) ⟨Nat.le_of_ble_eq_true rfl, Nat.le_of_ble_eq_true rfl⟩) ⟨fun a U g mk q => by obtain ⟨q0, q1, qP, qK, qD⟩ := q; exact ⟨q0, q1, qP, va_K.moved (u := U) (U := U.calling g mk a) (Vm.Alike.refl U.vm) qK, qD⟩, va_recv hK hP (ci := 1) (q0 := 0) rfl rfl, fun U hU hW => ⟨rfl, by rw [hU], by rw [hU]; exact hP, va_K.moved hW.alike hK, hD.weaken (fun _ _ _ _ => trivial)⟩⟩ rfl rfl hl.1 rfl (lv_room (Nat.le_of_ble_eq_true rfl)) dX1_load_49 ⟨Nat.zero_le _, Nat.zero_le _⟩) hS (fun q _ h => hFc q h) hFc (fun u t H1 locs ht hvm hw hB hz1 hk1 hS => ?_)
          rw [hw] at hB
          obtain ⟨hP1, hK1, hD1⟩ := hB
          rw [ht] at hP1
          obtain ⟨hP, hD⟩ := va_join (wr := []) (w1 := [(y0, .inr (1, [.int th, .ref ym, .ref yr, .ref yg, .int pcv, .int trv, .int vav, .int dnv, .int wv, .int ((F_m_fail 4 a2).1), .int ((F_m_fail 4 a2).2), .int ne])), (ym, .inl (d1, 16384, .inl me)), (yr, .inl (d2, 4, .inl rg)), (yg, .inl (d3, 32, .inl rs))]) hP hD [0, 1, 2, 3] [] rfl rfl (by decide) (by decide) hk1 hFc hP1 hD1
          generalize H1 = H at hP hS ⊢
          have hP : va_P (dC, dI) vwCl [(y0, .inr (1, [.int th, .ref ym, .ref yr, .ref yg, .int pcv, .int trv, .int vav, .int dnv, .int wv, .int ((F_m_fail 4 a2).1), .int ((F_m_fail 4 a2).2), .int ne])), (ym, .inl (d1, 16384, .inl me)), (yr, .inl (d2, 4, .inl rg)), (yg, .inl (d3, 32, .inl rs))] H := hP
          have hD : va_D A [(y0, .inr (1, [.int th, .ref ym, .ref yr, .ref yg, .int pcv, .int trv, .int vav, .int dnv, .int wv, .int ((F_m_fail 4 a2).1), .int ((F_m_fail 4 a2).2), .int ne])), (ym, .inl (d1, 16384, .inl me)), (yr, .inl (d2, 4, .inl rg)), (yg, .inl (d3, 32, .inl rs))] := hD
          refine lv_goto (tgt := 105) hx hb dX1_load_52 (by decide) ?_
          exact W.vret hx hb hr (fun t ht hW => ⟨⟨(me, rs, (F_m_fail 4 a2).1, (F_m_fail 4 a2).2, ne), rfl, (by unfold F_m_load; first | (rw [if_neg c_1, if_pos c_5, if_pos c_6, if_neg c_38]; done) | (rw [if_neg c_1, if_pos c_5, if_pos c_6, if_neg c_38]; rfl)), by rw [ht]; exact hP, va_K.moved hW.alike hK, hD⟩, hS.F ht⟩) hS.2.2 dX1_load_105
    · refine lv_aload_n hx hb dX1_load_10 rfl (lv_at hl 0 rfl) ?_
      have hFc := va_free (wc := [(y0, .inr (1, [.int th, .ref ym, .ref yr, .ref yg, .int pcv, .int trv, .int vav, .int dnv, .int wv, .int fa, .int wi, .int ne])), (ym, .inl (d1, 16384, .inl me)), (yr, .inl (d2, 4, .inl rg)), (yg, .inl (d3, 32, .inl rs))]) hD hS hA [0, 1, 2, 3] rfl
      refine va_callv (va_runV (As := []) (rest := []) ⟨hx, hb, hml, hown, hts⟩ (c_m_strange l dC dI y0 ym yr yg d1 d2 d3 s.heap.size th me rg rs pcv trv vav dnv wv fa wi ne) (cwV 0 hts (gV mL_X1_71 mI_X1_strange mE_X1_strange mN_X1 mC_X1_strange) rfl rfl rfl (by decide +kernel) ⟨Nat.le_of_ble_eq_true rfl, Nat.le_of_ble_eq_true rfl⟩) ⟨fun a U g mk q => by obtain ⟨q0, q1, qP, qK, qD⟩ := q; exact ⟨q0, q1, qP, va_K.moved (u := U) (U := U.calling g mk a) (Vm.Alike.refl U.vm) qK, qD⟩, va_recv hK hP (ci := 1) (q0 := 0) rfl rfl, fun U hU hW => ⟨rfl, by rw [hU], by rw [hU]; exact hP, va_K.moved hW.alike hK, hD.weaken (fun _ _ _ _ => trivial)⟩⟩ rfl rfl hl.1 rfl (lv_room (Nat.le_of_ble_eq_true rfl)) dX1_load_11 ⟨Nat.zero_le _, Nat.zero_le _⟩) hS (fun q _ h => hFc q h) hFc (fun u t H1 locs ht hvm hw hB hz1 hk1 hS => ?_)
      rw [hw] at hB
      obtain ⟨hP1, hK1, hD1⟩ := hB
      rw [ht] at hP1
      obtain ⟨hP, hD⟩ := va_join (wr := []) (w1 := [(y0, .inr (1, [.int th, .ref ym, .ref yr, .ref yg, .int pcv, .int trv, .int vav, .int dnv, .int wv, .int ((F_m_strange wv).1), .int ((F_m_strange wv).2), .int ne])), (ym, .inl (d1, 16384, .inl me)), (yr, .inl (d2, 4, .inl rg)), (yg, .inl (d3, 32, .inl rs))]) hP hD [0, 1, 2, 3] [] rfl rfl (by decide) (by decide) hk1 hFc hP1 hD1
      generalize H1 = H at hP hS ⊢
      have hP : va_P (dC, dI) vwCl [(y0, .inr (1, [.int th, .ref ym, .ref yr, .ref yg, .int pcv, .int trv, .int vav, .int dnv, .int wv, .int ((F_m_strange wv).1), .int ((F_m_strange wv).2), .int ne])), (ym, .inl (d1, 16384, .inl me)), (yr, .inl (d2, 4, .inl rg)), (yg, .inl (d3, 32, .inl rs))] H := hP
      have hD : va_D A [(y0, .inr (1, [.int th, .ref ym, .ref yr, .ref yg, .int pcv, .int trv, .int vav, .int dnv, .int wv, .int ((F_m_strange wv).1), .int ((F_m_strange wv).2), .int ne])), (ym, .inl (d1, 16384, .inl me)), (yr, .inl (d2, 4, .inl rg)), (yg, .inl (d3, 32, .inl rs))] := hD
      exact W.vret hx hb hr (fun t ht hW => ⟨⟨(me, rs, (F_m_strange wv).1, (F_m_strange wv).2, ne), rfl, (by unfold F_m_load; first | (rw [if_neg c_1, if_neg c_5]; done) | (rw [if_neg c_1, if_neg c_5]; rfl)), by rw [ht]; exact hP, va_K.moved hW.alike hK, hD⟩, hS.F ht⟩) hS.2.2 dX1_load_14
def B_store (me : Nat → Int32) (a2 a3 : Int32) (j : Nat) (acc : (Nat → Int32)) : (Nat → Int32) :=
  upd (acc) (a2 + (nI j)).toNatClampNeg (vp_nar .byte ((a3 >>> ((8 * (nI j)) &&& 31)).toInt8.toInt32))
def L_store (me : Nat → Int32) (a2 a3 : Int32) : Nat → ((Nat → Int32))
  | 0 => me
  | j + 1 => B_store me a2 a3 j (L_store me a2 a3 j)
def F_m_store (me : Nat → Int32) (rg : Nat → Int32) (rs : Nat → Int32) (pcv : Int32) (wv : Int32) (fa : Int32) (wi : Int32) (ne : Int32) (a1 : Int32) (a2 : Int32) (a3 : Int32) : (Nat → Int32) × (Nat → Int32) × Int32 × Int32 × Int32 :=
  if a1 ≤ 2 then
    if a1 = 0 then
      if (a2 &&& (1 - 1)) = 0 then
        if (F_m_may rg a2 2) = 0 then
          (me, rs, (F_m_fail 15 a2).1, (F_m_fail 15 a2).2, ne)
        else
          ((L_store me a2 a3 1), rs, fa, wi, ne)
      else
        (me, rs, (F_m_fail 6 a2).1, (F_m_fail 6 a2).2, ne)
    else
      if a1 = 1 then
        if (a2 &&& (2 - 1)) = 0 then
          if (F_m_may rg a2 2) = 0 then
            (me, rs, (F_m_fail 15 a2).1, (F_m_fail 15 a2).2, ne)
          else
            ((L_store me a2 a3 2), rs, fa, wi, ne)
        else
          (me, rs, (F_m_fail 6 a2).1, (F_m_fail 6 a2).2, ne)
      else
        if (a2 &&& (4 - 1)) = 0 then
          if (F_m_may rg a2 2) = 0 then
            (me, rs, (F_m_fail 15 a2).1, (F_m_fail 15 a2).2, ne)
          else
            ((L_store me a2 a3 4), rs, fa, wi, ne)
        else
          (me, rs, (F_m_fail 6 a2).1, (F_m_fail 6 a2).2, ne)
  else
    (me, rs, (F_m_strange wv).1, (F_m_strange wv).2, ne)
set_option maxHeartbeats 4000000 in
set_option maxRecDepth 100000 in
theorem c_m_store (l : Launch) (dC : Nat → ClassId) (dI : Nat → Nat → Nat) (y0 ym yr yg : Nat) (d1 d2 d3 : ClassId) (sz : Nat) (th : Int32) (me : Nat → Int32) (rg : Nat → Int32) (rs : Nat → Int32) (pcv : Int32) (trv : Int32) (vav : Int32) (dnv : Int32) (wv : Int32) (fa : Int32) (wi : Int32) (ne : Int32) (a1 : Int32) (a2 : Int32) (a3 : Int32)  : Met l yX1_store wsX1_store ({ frames := 2, cells := 0, slots := 0, locals := 42 }) (va_Pc [.ref y0, .int a1, .int a2, .int a3] (fun U => U.heap.size = sz ∧ va_P (dC, dI) vwCl [(y0, .inr (1, [.int th, .ref ym, .ref yr, .ref yg, .int pcv, .int trv, .int vav, .int dnv, .int wv, .int fa, .int wi, .int ne])), (ym, .inl (d1, 16384, .inl me)), (yr, .inl (d2, 4, .inl rg)), (yg, .inl (d3, 32, .inl rs))] U.heap ∧ va_K (dC, dI) vwCl [(d1, .byte), (d2, .int), (d3, .int)] U ∧ va_D (fun _ => True) [(y0, .inr (1, [.int th, .ref ym, .ref yr, .ref yg, .int pcv, .int trv, .int vav, .int dnv, .int wv, .int fa, .int wi, .int ne])), (ym, .inl (d1, 16384, .inl me)), (yr, .inl (d2, 4, .inl rg)), (yg, .inl (d3, 32, .inl rs))])) (va_Qv (fun u : (Nat → Int32) × (Nat → Int32) × Int32 × Int32 × Int32 => u = F_m_store me rg rs pcv wv fa wi ne a1 a2 a3) (fun (u : (Nat → Int32) × (Nat → Int32) × Int32 × Int32 × Int32) (t : State) => va_P (dC, dI) vwCl [(y0, .inr (1, [.int th, .ref ym, .ref yr, .ref yg, .int pcv, .int trv, .int vav, .int dnv, .int wv, .int u.2.2.1, .int u.2.2.2.1, .int u.2.2.2.2])), (ym, .inl (d1, 16384, .inl u.1)), (yr, .inl (d2, 4, .inl rg)), (yg, .inl (d3, 32, .inl u.2.1))] t.heap ∧ va_K (dC, dI) vwCl [(d1, .byte), (d2, .int), (d3, .int)] t ∧ va_D (va_A [(y0, .inr (1, [.int th, .ref ym, .ref yr, .ref yg, .int pcv, .int trv, .int vav, .int dnv, .int wv, .int fa, .int wi, .int ne])), (ym, .inl (d1, 16384, .inl me)), (yr, .inl (d2, 4, .inl rg)), (yg, .inl (d3, 32, .inl rs))] sz) [(y0, .inr (1, [.int th, .ref ym, .ref yr, .ref yg, .int pcv, .int trv, .int vav, .int dnv, .int wv, .int u.2.2.1, .int u.2.2.2.1, .int u.2.2.2.2])), (ym, .inl (d1, 16384, .inl u.1)), (yr, .inl (d2, 4, .inl rg)), (yg, .inl (d3, 32, .inl u.2.1))]) (va_A [(y0, .inr (1, [.int th, .ref ym, .ref yr, .ref yg, .int pcv, .int trv, .int vav, .int dnv, .int wv, .int fa, .int wi, .int ne])), (ym, .inl (d1, 16384, .inl me)), (yr, .inl (d2, 4, .inl rg)), (yg, .inl (d3, 32, .inl rs))] sz)) 0 0 (va_A [(y0, .inr (1, [.int th, .ref ym, .ref yr, .ref yg, .int pcv, .int trv, .int vav, .int dnv, .int wv, .int fa, .int wi, .int ne])), (ym, .inl (d1, 16384, .inl me)), (yr, .inl (d2, 4, .inl rg)), (yg, .inl (d3, 32, .inl rs))] sz) := by
  refine Met.ofW (cc := cX1_store) (maxL := 6) (ret := none) (by decide) rfl ?_
  intro p e s m args below meth c s₁ B hml hv
  obtain ⟨rfl, hsz, hP, hK, hD0⟩ := hv
  have hx := B.exec
  have hb := B.bytes
  have hr := B.returns
  have hts := atoms_spec (ws := wsX1_store) B.pre
  have hown : s.vm.findClass RX1 = some m.cls := findClass_of_methodNamed B.named
  have hlocks := B.notSynchronized
  subst hsz
  have hD := hD0.self (sz := s.heap.size)
  generalize hAe : va_A [(y0, .inr (1, [.int th, .ref ym, .ref yr, .ref yg, .int pcv, .int trv, .int vav, .int dnv, .int wv, .int fa, .int wi, .int ne])), (ym, .inl (d1, 16384, .inl me)), (yr, .inl (d2, 4, .inl rg)), (yg, .inl (d3, 32, .inl rs))] s.heap.size = A at hD ⊢
  have hA : ∀ q : Nat, s.heap.size ≤ q → A q := fun q h => by rw [← hAe]; exact Or.inr h
  have hS : va_S A s.heap s.heap [] := va_S.rf
  have hP : va_P (dC, dI) vwCl [(y0, .inr (1, [.int th, .ref ym, .ref yr, .ref yg, .int pcv, .int trv, .int vav, .int dnv, .int wv, .int fa, .int wi, .int ne])), (ym, .inl (d1, 16384, .inl me)), (yr, .inl (d2, 4, .inl rg)), (yg, .inl (d3, 32, .inl rs))] s.heap := hP
  have hl := lv_entry ([.ref y0, .int a1, .int a2, .int a3]) (n := 6) (Nat.le_of_ble_eq_true rfl)
  rw [lg_entry_eq]
  generalize (lg_sl ([.ref y0, .int a1, .int a2, .int a3]) ++ List.replicate (6 - (lg_sl ([.ref y0, .int a1, .int a2, .int a3])).length) Slot.unset).toArray = ls at hl ⊢
  have hl : lv_has ls 6 [(0, .ref y0), (1, .int a1), (2, .int a2), (3, .int a3)] := hl
  refine lv_iload_n hx hb dX1_store_0 rfl (lv_at hl 1 rfl) ?_
  refine lv_iconst (v := 2) hx hb dX1_store_1 (by decide) ?_
  refine lv_icmp_le (tgt := 10) hx hb dX1_store_2 (by decide) (fun c_1 => ?_) (fun c_1 => ?_)
  · refine lv_iload_n hx hb dX1_store_10 rfl (lv_at hl 1 rfl) ?_
    refine lv_if_ne (tgt := 18) hx hb dX1_store_11 (by decide) (fun c_2 => ?_) (fun c_2 => ?_)
    · refine lv_iload_n hx hb dX1_store_18 rfl (lv_at hl 1 rfl) ?_
      refine lv_iconst (v := 1) hx hb dX1_store_19 (by decide) ?_
      refine lv_icmp_ne (tgt := 27) hx hb dX1_store_20 (by decide) (fun c_3 => ?_) (fun c_3 => ?_)
      · refine lv_iconst (v := 4) hx hb dX1_store_27 (by decide) ?_
        refine lv_istore (lv' := [(4, .int 4), (0, .ref y0), (1, .int a1), (2, .int a2), (3, .int a3)]) hx hb dX1_store_28 hl (by decide) rfl (fun ls hl => ?_)
        refine lv_iload_n hx hb dX1_store_30 rfl (lv_at hl 3 rfl) ?_
        refine lv_iload hx hb dX1_store_31 (lv_at hl 0 rfl) ?_
        refine lv_iconst (v := 1) hx hb dX1_store_33 (by decide) ?_
        refine lv_isub hx hb dX1_store_34 ?_
        refine lv_iand hx hb dX1_store_35 ?_
        refine lv_if_eq (tgt := 49) hx hb dX1_store_36 (by decide) (fun c_4 => ?_) (fun c_4 => ?_)
        · refine lv_aload_n hx hb dX1_store_49 rfl (lv_at hl 1 rfl) ?_
          refine lv_iload_n hx hb dX1_store_50 rfl (lv_at hl 3 rfl) ?_
          refine lv_iconst (v := 2) hx hb dX1_store_51 (by decide) ?_
          refine vp_callSi (W.runV (As := [.int a2, .int 2]) (rest := []) ⟨hx, hb, hml, hown, hts⟩ (c_m_may l dC dI y0 ym yr yg d1 d2 d3 th me rg rs pcv trv vav dnv wv fa wi ne a2 2 ((by decide))) (cwV 2 hts (gV mL_X1_82 mI_X1_may mE_X1_may mN_X1 mC_X1_may) rfl rfl rfl (by decide +kernel) ⟨Nat.le_of_ble_eq_true rfl, Nat.le_of_ble_eq_true rfl⟩) ⟨fun a U g mk q => by obtain ⟨q0, qP, qK⟩ := q; exact ⟨q0, qP, va_K.moved (u := U) (U := U.calling g mk a) (Vm.Alike.refl U.vm) qK⟩, va_recv hK hP (ci := 1) (q0 := 0) rfl rfl, fun U hU hW => ⟨rfl, by rw [hU]; exact hP, va_K.moved hW.alike hK⟩⟩ rfl rfl hl.1 rfl (lv_room (Nat.le_of_ble_eq_true rfl)) dX1_store_52 ⟨Nat.zero_le _, Nat.zero_le _⟩) (fun r_5 hw => ?_)
          obtain ⟨b_6, hw⟩ := hw
          rw [hw] at b_6 ⊢
          clear hw
          refine lv_if_ne (tgt := 68) hx hb dX1_store_55 (by decide) (fun c_7 => ?_) (fun c_7 => ?_)
          · refine lv_iconst (v := 0) hx hb dX1_store_68 (by decide) ?_
            refine lv_istore (lv' := [(5, .int 0), (4, .int 4), (0, .ref y0), (1, .int a1), (2, .int a2), (3, .int a3)]) hx hb dX1_store_69 hl (by decide) rfl (fun ls hl => ?_)
            have hl := lv_sub hl [0, 2, 3, 4, 5, 1] rfl
            refine lv_loop (n := 4) (P := fun j H locs ls => va_P (dC, dI) vwCl [(y0, .inr (1, [.int th, .ref ym, .ref yr, .ref yg, .int pcv, .int trv, .int vav, .int dnv, .int wv, .int fa, .int wi, .int ne])), (ym, .inl (d1, 16384, .inl ((L_store me a2 a3 j)))), (yr, .inl (d2, 4, .inl rg)), (yg, .inl (d3, 32, .inl rs))] H ∧ va_D A [(y0, .inr (1, [.int th, .ref ym, .ref yr, .ref yg, .int pcv, .int trv, .int vav, .int dnv, .int wv, .int fa, .int wi, .int ne])), (ym, .inl (d1, 16384, .inl ((L_store me a2 a3 j)))), (yr, .inl (d2, 4, .inl rg)), (yg, .inl (d3, 32, .inl rs))] ∧ va_S A s.heap H locs ∧ lv_has ls 6 [(5, .int (nI j)), (0, .ref y0), (1, .int a1), (2, .int a2), (3, .int a3), (4, .int 4)]) (Wg := fun H locs ls => W p l e _ s m _ below meth c H locs 0 0 _ (F0 m 71 ls [])) ?_ (4) 0 s.heap _ ls (by omega) (Nat.zero_le _) ⟨hP, hD, hS, hl⟩
            rintro j H locs ls hj ⟨hP, hD, hS, hl⟩ ih
            refine lv_iload hx hb dX1_store_71 (lv_at hl 0 rfl) ?_
            refine lv_iload hx hb dX1_store_73 (lv_at hl 5 rfl) ?_
            refine lv_icmp_ge (tgt := 101) hx hb dX1_store_75 (by decide) (fun c_8 => ?_) (fun c_8 => ?_)
            · have hjn : j = 4 := lpc_end (by decide) hj c_8
              subst hjn
              exact W.vret hx hb hr (fun t ht hW => ⟨⟨((L_store me a2 a3 4), rs, fa, wi, ne), rfl, (by unfold F_m_store; first | (rw [if_pos c_1, if_neg c_2, if_neg c_3, if_pos c_4, if_neg c_7]; done) | (rw [if_pos c_1, if_neg c_2, if_neg c_3, if_pos c_4, if_neg c_7]; rfl)), by rw [ht]; exact hP, va_K.moved hW.alike hK, hD⟩, hS.F ht⟩) hS.2.2 dX1_store_101
            · have hlt : j < 4 := lpc_lt (by decide) hj c_8
              refine lv_aload_n hx hb dX1_store_78 rfl (lv_at hl 1 rfl) ?_
              refine va_get (D := (dC, dI)) (ci := 1) (v := .ref ym) (C := RX1) (T := TX1) (N := 12) hx hb hts (gw_lay lay_X1) hown hK hP 0 rfl rfl 1 (by decide) (hts _ (gcons mF_X1_7)) (fun _ h9 => h9) rfl dX1_store_79 ?_
              refine lv_iload_n hx hb dX1_store_82 rfl (lv_at hl 3 rfl) ?_
              refine lv_iload hx hb dX1_store_83 (lv_at hl 0 rfl) ?_
              refine lv_iadd hx hb dX1_store_85 ?_
              refine lv_iload_n hx hb dX1_store_86 rfl (lv_at hl 4 rfl) ?_
              refine lv_bipush (v := 8) hx hb dX1_store_87 (by decide) ?_
              refine lv_iload hx hb dX1_store_89 (lv_at hl 0 rfl) ?_
              refine lv_imul hx hb dX1_store_91 ?_
              refine lv_ishr hx hb dX1_store_92 ?_
              refine lv_i2b (v := (a3 >>> ((8 * (nI j)) &&& 31)).toInt8.toInt32) hx hb dX1_store_93 rfl ?_
              refine va_bast hx hb hK hP hD hS 1 0 rfl rfl (in_sto (by decide) c_4 c_7 hlt) dX1_store_94 (fun H locs hP hD hS => ?_)
              have hP : va_P (dC, dI) vwCl [(y0, .inr (1, [.int th, .ref ym, .ref yr, .ref yg, .int pcv, .int trv, .int vav, .int dnv, .int wv, .int fa, .int wi, .int ne])), (ym, .inl (d1, 16384, .inl (upd ((L_store me a2 a3 j)) (a2 + (nI j)).toNatClampNeg (vp_nar .byte ((a3 >>> ((8 * (nI j)) &&& 31)).toInt8.toInt32))))), (yr, .inl (d2, 4, .inl rg)), (yg, .inl (d3, 32, .inl rs))] H := hP
              have hD : va_D A [(y0, .inr (1, [.int th, .ref ym, .ref yr, .ref yg, .int pcv, .int trv, .int vav, .int dnv, .int wv, .int fa, .int wi, .int ne])), (ym, .inl (d1, 16384, .inl (upd ((L_store me a2 a3 j)) (a2 + (nI j)).toNatClampNeg (vp_nar .byte ((a3 >>> ((8 * (nI j)) &&& 31)).toInt8.toInt32))))), (yr, .inl (d2, 4, .inl rg)), (yg, .inl (d3, 32, .inl rs))] := hD
              refine lv_iinc (v := (nI j) + 1) (lv' := [(5, .int ((nI j) + 1)), (0, .ref y0), (1, .int a1), (2, .int a2), (3, .int a3), (4, .int 4)]) hx hb dX1_store_95 hl (k := 0) rfl rfl (by decide) rfl (fun ls hl => ?_)
              refine lv_goto (tgt := 71) hx hb dX1_store_98 (by decide) ?_
              have hl := lv_sub hl [0, 1, 2, 3, 4, 5] rfl
              have hacc : (L_store me a2 a3 (j + 1)) = upd ((L_store me a2 a3 j)) (a2 + (nI j)).toNatClampNeg (vp_nar .byte ((a3 >>> ((8 * (nI j)) &&& 31)).toInt8.toInt32)) := by show B_store me a2 a3 j (L_store me a2 a3 j) = _; unfold B_store; rfl
              rw [nI_1] at hl
              exact ih H locs ls hlt ⟨by rw [hacc]; exact hP, by rw [hacc]; exact hD, hS, by first | exact hl | (rw [hacc]; exact hl)⟩
          · refine lv_aload_n hx hb dX1_store_58 rfl (lv_at hl 1 rfl) ?_
            refine lv_bipush (v := 15) hx hb dX1_store_59 (by decide) ?_
            refine lv_iload_n hx hb dX1_store_61 rfl (lv_at hl 3 rfl) ?_
            have hFc := va_free (wc := [(y0, .inr (1, [.int th, .ref ym, .ref yr, .ref yg, .int pcv, .int trv, .int vav, .int dnv, .int wv, .int fa, .int wi, .int ne])), (ym, .inl (d1, 16384, .inl me)), (yr, .inl (d2, 4, .inl rg)), (yg, .inl (d3, 32, .inl rs))]) hD hS hA [0, 1, 2, 3] rfl
            refine va_callv (va_runV (As := [.int 15, .int a2]) (rest := []) ⟨hx, hb, hml, hown, hts⟩ (c_m_fail l dC dI y0 ym yr yg d1 d2 d3 s.heap.size th me rg rs pcv trv vav dnv wv fa wi ne 15 a2) (cwV 2 hts (gV mL_X1_60 mI_X1_fail mE_X1_fail mN_X1 mC_X1_fail) rfl rfl rfl (by decide +kernel) ⟨Nat.le_of_ble_eq_true rfl, Nat.le_of_ble_eq_true rfl⟩) ⟨fun a U g mk q => by obtain ⟨q0, q1, qP, qK, qD⟩ := q; exact ⟨q0, q1, qP, va_K.moved (u := U) (U := U.calling g mk a) (Vm.Alike.refl U.vm) qK, qD⟩, va_recv hK hP (ci := 1) (q0 := 0) rfl rfl, fun U hU hW => ⟨rfl, by rw [hU], by rw [hU]; exact hP, va_K.moved hW.alike hK, hD.weaken (fun _ _ _ _ => trivial)⟩⟩ rfl rfl hl.1 rfl (lv_room (Nat.le_of_ble_eq_true rfl)) dX1_store_62 ⟨Nat.zero_le _, Nat.zero_le _⟩) hS (fun q _ h => hFc q h) hFc (fun u t H1 locs ht hvm hw hB hz1 hk1 hS => ?_)
            rw [hw] at hB
            obtain ⟨hP1, hK1, hD1⟩ := hB
            rw [ht] at hP1
            obtain ⟨hP, hD⟩ := va_join (wr := []) (w1 := [(y0, .inr (1, [.int th, .ref ym, .ref yr, .ref yg, .int pcv, .int trv, .int vav, .int dnv, .int wv, .int ((F_m_fail 15 a2).1), .int ((F_m_fail 15 a2).2), .int ne])), (ym, .inl (d1, 16384, .inl me)), (yr, .inl (d2, 4, .inl rg)), (yg, .inl (d3, 32, .inl rs))]) hP hD [0, 1, 2, 3] [] rfl rfl (by decide) (by decide) hk1 hFc hP1 hD1
            generalize H1 = H at hP hS ⊢
            have hP : va_P (dC, dI) vwCl [(y0, .inr (1, [.int th, .ref ym, .ref yr, .ref yg, .int pcv, .int trv, .int vav, .int dnv, .int wv, .int ((F_m_fail 15 a2).1), .int ((F_m_fail 15 a2).2), .int ne])), (ym, .inl (d1, 16384, .inl me)), (yr, .inl (d2, 4, .inl rg)), (yg, .inl (d3, 32, .inl rs))] H := hP
            have hD : va_D A [(y0, .inr (1, [.int th, .ref ym, .ref yr, .ref yg, .int pcv, .int trv, .int vav, .int dnv, .int wv, .int ((F_m_fail 15 a2).1), .int ((F_m_fail 15 a2).2), .int ne])), (ym, .inl (d1, 16384, .inl me)), (yr, .inl (d2, 4, .inl rg)), (yg, .inl (d3, 32, .inl rs))] := hD
            refine lv_goto (tgt := 101) hx hb dX1_store_65 (by decide) ?_
            exact W.vret hx hb hr (fun t ht hW => ⟨⟨(me, rs, (F_m_fail 15 a2).1, (F_m_fail 15 a2).2, ne), rfl, (by unfold F_m_store; first | (rw [if_pos c_1, if_neg c_2, if_neg c_3, if_pos c_4, if_pos c_7]; done) | (rw [if_pos c_1, if_neg c_2, if_neg c_3, if_pos c_4, if_pos c_7]; rfl)), by rw [ht]; exact hP, va_K.moved hW.alike hK, hD⟩, hS.F ht⟩) hS.2.2 dX1_store_101
        · refine lv_aload_n hx hb dX1_store_39 rfl (lv_at hl 1 rfl) ?_
          refine lv_bipush (v := 6) hx hb dX1_store_40 (by decide) ?_
          refine lv_iload_n hx hb dX1_store_42 rfl (lv_at hl 3 rfl) ?_
          have hFc := va_free (wc := [(y0, .inr (1, [.int th, .ref ym, .ref yr, .ref yg, .int pcv, .int trv, .int vav, .int dnv, .int wv, .int fa, .int wi, .int ne])), (ym, .inl (d1, 16384, .inl me)), (yr, .inl (d2, 4, .inl rg)), (yg, .inl (d3, 32, .inl rs))]) hD hS hA [0, 1, 2, 3] rfl
          refine va_callv (va_runV (As := [.int 6, .int a2]) (rest := []) ⟨hx, hb, hml, hown, hts⟩ (c_m_fail l dC dI y0 ym yr yg d1 d2 d3 s.heap.size th me rg rs pcv trv vav dnv wv fa wi ne 6 a2) (cwV 2 hts (gV mL_X1_60 mI_X1_fail mE_X1_fail mN_X1 mC_X1_fail) rfl rfl rfl (by decide +kernel) ⟨Nat.le_of_ble_eq_true rfl, Nat.le_of_ble_eq_true rfl⟩) ⟨fun a U g mk q => by obtain ⟨q0, q1, qP, qK, qD⟩ := q; exact ⟨q0, q1, qP, va_K.moved (u := U) (U := U.calling g mk a) (Vm.Alike.refl U.vm) qK, qD⟩, va_recv hK hP (ci := 1) (q0 := 0) rfl rfl, fun U hU hW => ⟨rfl, by rw [hU], by rw [hU]; exact hP, va_K.moved hW.alike hK, hD.weaken (fun _ _ _ _ => trivial)⟩⟩ rfl rfl hl.1 rfl (lv_room (Nat.le_of_ble_eq_true rfl)) dX1_store_43 ⟨Nat.zero_le _, Nat.zero_le _⟩) hS (fun q _ h => hFc q h) hFc (fun u t H1 locs ht hvm hw hB hz1 hk1 hS => ?_)
          rw [hw] at hB
          obtain ⟨hP1, hK1, hD1⟩ := hB
          rw [ht] at hP1
          obtain ⟨hP, hD⟩ := va_join (wr := []) (w1 := [(y0, .inr (1, [.int th, .ref ym, .ref yr, .ref yg, .int pcv, .int trv, .int vav, .int dnv, .int wv, .int ((F_m_fail 6 a2).1), .int ((F_m_fail 6 a2).2), .int ne])), (ym, .inl (d1, 16384, .inl me)), (yr, .inl (d2, 4, .inl rg)), (yg, .inl (d3, 32, .inl rs))]) hP hD [0, 1, 2, 3] [] rfl rfl (by decide) (by decide) hk1 hFc hP1 hD1
          generalize H1 = H at hP hS ⊢
          have hP : va_P (dC, dI) vwCl [(y0, .inr (1, [.int th, .ref ym, .ref yr, .ref yg, .int pcv, .int trv, .int vav, .int dnv, .int wv, .int ((F_m_fail 6 a2).1), .int ((F_m_fail 6 a2).2), .int ne])), (ym, .inl (d1, 16384, .inl me)), (yr, .inl (d2, 4, .inl rg)), (yg, .inl (d3, 32, .inl rs))] H := hP
          have hD : va_D A [(y0, .inr (1, [.int th, .ref ym, .ref yr, .ref yg, .int pcv, .int trv, .int vav, .int dnv, .int wv, .int ((F_m_fail 6 a2).1), .int ((F_m_fail 6 a2).2), .int ne])), (ym, .inl (d1, 16384, .inl me)), (yr, .inl (d2, 4, .inl rg)), (yg, .inl (d3, 32, .inl rs))] := hD
          refine lv_goto (tgt := 101) hx hb dX1_store_46 (by decide) ?_
          exact W.vret hx hb hr (fun t ht hW => ⟨⟨(me, rs, (F_m_fail 6 a2).1, (F_m_fail 6 a2).2, ne), rfl, (by unfold F_m_store; first | (rw [if_pos c_1, if_neg c_2, if_neg c_3, if_neg c_4]; done) | (rw [if_pos c_1, if_neg c_2, if_neg c_3, if_neg c_4]; rfl)), by rw [ht]; exact hP, va_K.moved hW.alike hK, hD⟩, hS.F ht⟩) hS.2.2 dX1_store_101
      · refine lv_iconst (v := 2) hx hb dX1_store_23 (by decide) ?_
        refine lv_goto (tgt := 28) hx hb dX1_store_24 (by decide) ?_
        refine lv_istore (lv' := [(4, .int 2), (0, .ref y0), (1, .int a1), (2, .int a2), (3, .int a3)]) hx hb dX1_store_28 hl (by decide) rfl (fun ls hl => ?_)
        refine lv_iload_n hx hb dX1_store_30 rfl (lv_at hl 3 rfl) ?_
        refine lv_iload hx hb dX1_store_31 (lv_at hl 0 rfl) ?_
        refine lv_iconst (v := 1) hx hb dX1_store_33 (by decide) ?_
        refine lv_isub hx hb dX1_store_34 ?_
        refine lv_iand hx hb dX1_store_35 ?_
        refine lv_if_eq (tgt := 49) hx hb dX1_store_36 (by decide) (fun c_15 => ?_) (fun c_15 => ?_)
        · refine lv_aload_n hx hb dX1_store_49 rfl (lv_at hl 1 rfl) ?_
          refine lv_iload_n hx hb dX1_store_50 rfl (lv_at hl 3 rfl) ?_
          refine lv_iconst (v := 2) hx hb dX1_store_51 (by decide) ?_
          refine vp_callSi (W.runV (As := [.int a2, .int 2]) (rest := []) ⟨hx, hb, hml, hown, hts⟩ (c_m_may l dC dI y0 ym yr yg d1 d2 d3 th me rg rs pcv trv vav dnv wv fa wi ne a2 2 ((by decide))) (cwV 2 hts (gV mL_X1_82 mI_X1_may mE_X1_may mN_X1 mC_X1_may) rfl rfl rfl (by decide +kernel) ⟨Nat.le_of_ble_eq_true rfl, Nat.le_of_ble_eq_true rfl⟩) ⟨fun a U g mk q => by obtain ⟨q0, qP, qK⟩ := q; exact ⟨q0, qP, va_K.moved (u := U) (U := U.calling g mk a) (Vm.Alike.refl U.vm) qK⟩, va_recv hK hP (ci := 1) (q0 := 0) rfl rfl, fun U hU hW => ⟨rfl, by rw [hU]; exact hP, va_K.moved hW.alike hK⟩⟩ rfl rfl hl.1 rfl (lv_room (Nat.le_of_ble_eq_true rfl)) dX1_store_52 ⟨Nat.zero_le _, Nat.zero_le _⟩) (fun r_16 hw => ?_)
          obtain ⟨b_17, hw⟩ := hw
          rw [hw] at b_17 ⊢
          clear hw
          refine lv_if_ne (tgt := 68) hx hb dX1_store_55 (by decide) (fun c_18 => ?_) (fun c_18 => ?_)
          · refine lv_iconst (v := 0) hx hb dX1_store_68 (by decide) ?_
            refine lv_istore (lv' := [(5, .int 0), (4, .int 2), (0, .ref y0), (1, .int a1), (2, .int a2), (3, .int a3)]) hx hb dX1_store_69 hl (by decide) rfl (fun ls hl => ?_)
            have hl := lv_sub hl [0, 2, 3, 4, 5, 1] rfl
            refine lv_loop (n := 2) (P := fun j H locs ls => va_P (dC, dI) vwCl [(y0, .inr (1, [.int th, .ref ym, .ref yr, .ref yg, .int pcv, .int trv, .int vav, .int dnv, .int wv, .int fa, .int wi, .int ne])), (ym, .inl (d1, 16384, .inl ((L_store me a2 a3 j)))), (yr, .inl (d2, 4, .inl rg)), (yg, .inl (d3, 32, .inl rs))] H ∧ va_D A [(y0, .inr (1, [.int th, .ref ym, .ref yr, .ref yg, .int pcv, .int trv, .int vav, .int dnv, .int wv, .int fa, .int wi, .int ne])), (ym, .inl (d1, 16384, .inl ((L_store me a2 a3 j)))), (yr, .inl (d2, 4, .inl rg)), (yg, .inl (d3, 32, .inl rs))] ∧ va_S A s.heap H locs ∧ lv_has ls 6 [(5, .int (nI j)), (0, .ref y0), (1, .int a1), (2, .int a2), (3, .int a3), (4, .int 2)]) (Wg := fun H locs ls => W p l e _ s m _ below meth c H locs 0 0 _ (F0 m 71 ls [])) ?_ (2) 0 s.heap _ ls (by omega) (Nat.zero_le _) ⟨hP, hD, hS, hl⟩
            rintro j H locs ls hj ⟨hP, hD, hS, hl⟩ ih
            refine lv_iload hx hb dX1_store_71 (lv_at hl 0 rfl) ?_
            refine lv_iload hx hb dX1_store_73 (lv_at hl 5 rfl) ?_
            refine lv_icmp_ge (tgt := 101) hx hb dX1_store_75 (by decide) (fun c_19 => ?_) (fun c_19 => ?_)
            · have hjn : j = 2 := lpc_end (by decide) hj c_19
              subst hjn
              exact W.vret hx hb hr (fun t ht hW => ⟨⟨((L_store me a2 a3 2), rs, fa, wi, ne), rfl, (by unfold F_m_store; first | (rw [if_pos c_1, if_neg c_2, if_pos c_3, if_pos c_15, if_neg c_18]; done) | (rw [if_pos c_1, if_neg c_2, if_pos c_3, if_pos c_15, if_neg c_18]; rfl)), by rw [ht]; exact hP, va_K.moved hW.alike hK, hD⟩, hS.F ht⟩) hS.2.2 dX1_store_101
            · have hlt : j < 2 := lpc_lt (by decide) hj c_19
              refine lv_aload_n hx hb dX1_store_78 rfl (lv_at hl 1 rfl) ?_
              refine va_get (D := (dC, dI)) (ci := 1) (v := .ref ym) (C := RX1) (T := TX1) (N := 12) hx hb hts (gw_lay lay_X1) hown hK hP 0 rfl rfl 1 (by decide) (hts _ (gcons mF_X1_7)) (fun _ h9 => h9) rfl dX1_store_79 ?_
              refine lv_iload_n hx hb dX1_store_82 rfl (lv_at hl 3 rfl) ?_
              refine lv_iload hx hb dX1_store_83 (lv_at hl 0 rfl) ?_
              refine lv_iadd hx hb dX1_store_85 ?_
              refine lv_iload_n hx hb dX1_store_86 rfl (lv_at hl 4 rfl) ?_
              refine lv_bipush (v := 8) hx hb dX1_store_87 (by decide) ?_
              refine lv_iload hx hb dX1_store_89 (lv_at hl 0 rfl) ?_
              refine lv_imul hx hb dX1_store_91 ?_
              refine lv_ishr hx hb dX1_store_92 ?_
              refine lv_i2b (v := (a3 >>> ((8 * (nI j)) &&& 31)).toInt8.toInt32) hx hb dX1_store_93 rfl ?_
              refine va_bast hx hb hK hP hD hS 1 0 rfl rfl (in_sto (by decide) c_15 c_18 hlt) dX1_store_94 (fun H locs hP hD hS => ?_)
              have hP : va_P (dC, dI) vwCl [(y0, .inr (1, [.int th, .ref ym, .ref yr, .ref yg, .int pcv, .int trv, .int vav, .int dnv, .int wv, .int fa, .int wi, .int ne])), (ym, .inl (d1, 16384, .inl (upd ((L_store me a2 a3 j)) (a2 + (nI j)).toNatClampNeg (vp_nar .byte ((a3 >>> ((8 * (nI j)) &&& 31)).toInt8.toInt32))))), (yr, .inl (d2, 4, .inl rg)), (yg, .inl (d3, 32, .inl rs))] H := hP
              have hD : va_D A [(y0, .inr (1, [.int th, .ref ym, .ref yr, .ref yg, .int pcv, .int trv, .int vav, .int dnv, .int wv, .int fa, .int wi, .int ne])), (ym, .inl (d1, 16384, .inl (upd ((L_store me a2 a3 j)) (a2 + (nI j)).toNatClampNeg (vp_nar .byte ((a3 >>> ((8 * (nI j)) &&& 31)).toInt8.toInt32))))), (yr, .inl (d2, 4, .inl rg)), (yg, .inl (d3, 32, .inl rs))] := hD
              refine lv_iinc (v := (nI j) + 1) (lv' := [(5, .int ((nI j) + 1)), (0, .ref y0), (1, .int a1), (2, .int a2), (3, .int a3), (4, .int 2)]) hx hb dX1_store_95 hl (k := 0) rfl rfl (by decide) rfl (fun ls hl => ?_)
              refine lv_goto (tgt := 71) hx hb dX1_store_98 (by decide) ?_
              have hl := lv_sub hl [0, 1, 2, 3, 4, 5] rfl
              have hacc : (L_store me a2 a3 (j + 1)) = upd ((L_store me a2 a3 j)) (a2 + (nI j)).toNatClampNeg (vp_nar .byte ((a3 >>> ((8 * (nI j)) &&& 31)).toInt8.toInt32)) := by show B_store me a2 a3 j (L_store me a2 a3 j) = _; unfold B_store; rfl
              rw [nI_1] at hl
              exact ih H locs ls hlt ⟨by rw [hacc]; exact hP, by rw [hacc]; exact hD, hS, by first | exact hl | (rw [hacc]; exact hl)⟩
          · refine lv_aload_n hx hb dX1_store_58 rfl (lv_at hl 1 rfl) ?_
            refine lv_bipush (v := 15) hx hb dX1_store_59 (by decide) ?_
            refine lv_iload_n hx hb dX1_store_61 rfl (lv_at hl 3 rfl) ?_
            have hFc := va_free (wc := [(y0, .inr (1, [.int th, .ref ym, .ref yr, .ref yg, .int pcv, .int trv, .int vav, .int dnv, .int wv, .int fa, .int wi, .int ne])), (ym, .inl (d1, 16384, .inl me)), (yr, .inl (d2, 4, .inl rg)), (yg, .inl (d3, 32, .inl rs))]) hD hS hA [0, 1, 2, 3] rfl
            refine va_callv (va_runV (As := [.int 15, .int a2]) (rest := []) ⟨hx, hb, hml, hown, hts⟩ (c_m_fail l dC dI y0 ym yr yg d1 d2 d3 s.heap.size th me rg rs pcv trv vav dnv wv fa wi ne 15 a2) (cwV 2 hts (gV mL_X1_60 mI_X1_fail mE_X1_fail mN_X1 mC_X1_fail) rfl rfl rfl (by decide +kernel) ⟨Nat.le_of_ble_eq_true rfl, Nat.le_of_ble_eq_true rfl⟩) ⟨fun a U g mk q => by obtain ⟨q0, q1, qP, qK, qD⟩ := q; exact ⟨q0, q1, qP, va_K.moved (u := U) (U := U.calling g mk a) (Vm.Alike.refl U.vm) qK, qD⟩, va_recv hK hP (ci := 1) (q0 := 0) rfl rfl, fun U hU hW => ⟨rfl, by rw [hU], by rw [hU]; exact hP, va_K.moved hW.alike hK, hD.weaken (fun _ _ _ _ => trivial)⟩⟩ rfl rfl hl.1 rfl (lv_room (Nat.le_of_ble_eq_true rfl)) dX1_store_62 ⟨Nat.zero_le _, Nat.zero_le _⟩) hS (fun q _ h => hFc q h) hFc (fun u t H1 locs ht hvm hw hB hz1 hk1 hS => ?_)
            rw [hw] at hB
            obtain ⟨hP1, hK1, hD1⟩ := hB
            rw [ht] at hP1
            obtain ⟨hP, hD⟩ := va_join (wr := []) (w1 := [(y0, .inr (1, [.int th, .ref ym, .ref yr, .ref yg, .int pcv, .int trv, .int vav, .int dnv, .int wv, .int ((F_m_fail 15 a2).1), .int ((F_m_fail 15 a2).2), .int ne])), (ym, .inl (d1, 16384, .inl me)), (yr, .inl (d2, 4, .inl rg)), (yg, .inl (d3, 32, .inl rs))]) hP hD [0, 1, 2, 3] [] rfl rfl (by decide) (by decide) hk1 hFc hP1 hD1
            generalize H1 = H at hP hS ⊢
            have hP : va_P (dC, dI) vwCl [(y0, .inr (1, [.int th, .ref ym, .ref yr, .ref yg, .int pcv, .int trv, .int vav, .int dnv, .int wv, .int ((F_m_fail 15 a2).1), .int ((F_m_fail 15 a2).2), .int ne])), (ym, .inl (d1, 16384, .inl me)), (yr, .inl (d2, 4, .inl rg)), (yg, .inl (d3, 32, .inl rs))] H := hP
            have hD : va_D A [(y0, .inr (1, [.int th, .ref ym, .ref yr, .ref yg, .int pcv, .int trv, .int vav, .int dnv, .int wv, .int ((F_m_fail 15 a2).1), .int ((F_m_fail 15 a2).2), .int ne])), (ym, .inl (d1, 16384, .inl me)), (yr, .inl (d2, 4, .inl rg)), (yg, .inl (d3, 32, .inl rs))] := hD
            refine lv_goto (tgt := 101) hx hb dX1_store_65 (by decide) ?_
            exact W.vret hx hb hr (fun t ht hW => ⟨⟨(me, rs, (F_m_fail 15 a2).1, (F_m_fail 15 a2).2, ne), rfl, (by unfold F_m_store; first | (rw [if_pos c_1, if_neg c_2, if_pos c_3, if_pos c_15, if_pos c_18]; done) | (rw [if_pos c_1, if_neg c_2, if_pos c_3, if_pos c_15, if_pos c_18]; rfl)), by rw [ht]; exact hP, va_K.moved hW.alike hK, hD⟩, hS.F ht⟩) hS.2.2 dX1_store_101
        · refine lv_aload_n hx hb dX1_store_39 rfl (lv_at hl 1 rfl) ?_
          refine lv_bipush (v := 6) hx hb dX1_store_40 (by decide) ?_
          refine lv_iload_n hx hb dX1_store_42 rfl (lv_at hl 3 rfl) ?_
          have hFc := va_free (wc := [(y0, .inr (1, [.int th, .ref ym, .ref yr, .ref yg, .int pcv, .int trv, .int vav, .int dnv, .int wv, .int fa, .int wi, .int ne])), (ym, .inl (d1, 16384, .inl me)), (yr, .inl (d2, 4, .inl rg)), (yg, .inl (d3, 32, .inl rs))]) hD hS hA [0, 1, 2, 3] rfl
          refine va_callv (va_runV (As := [.int 6, .int a2]) (rest := []) ⟨hx, hb, hml, hown, hts⟩ (c_m_fail l dC dI y0 ym yr yg d1 d2 d3 s.heap.size th me rg rs pcv trv vav dnv wv fa wi ne 6 a2) (cwV 2 hts (gV mL_X1_60 mI_X1_fail mE_X1_fail mN_X1 mC_X1_fail) rfl rfl rfl (by decide +kernel) ⟨Nat.le_of_ble_eq_true rfl, Nat.le_of_ble_eq_true rfl⟩) ⟨fun a U g mk q => by obtain ⟨q0, q1, qP, qK, qD⟩ := q; exact ⟨q0, q1, qP, va_K.moved (u := U) (U := U.calling g mk a) (Vm.Alike.refl U.vm) qK, qD⟩, va_recv hK hP (ci := 1) (q0 := 0) rfl rfl, fun U hU hW => ⟨rfl, by rw [hU], by rw [hU]; exact hP, va_K.moved hW.alike hK, hD.weaken (fun _ _ _ _ => trivial)⟩⟩ rfl rfl hl.1 rfl (lv_room (Nat.le_of_ble_eq_true rfl)) dX1_store_43 ⟨Nat.zero_le _, Nat.zero_le _⟩) hS (fun q _ h => hFc q h) hFc (fun u t H1 locs ht hvm hw hB hz1 hk1 hS => ?_)
          rw [hw] at hB
          obtain ⟨hP1, hK1, hD1⟩ := hB
          rw [ht] at hP1
          obtain ⟨hP, hD⟩ := va_join (wr := []) (w1 := [(y0, .inr (1, [.int th, .ref ym, .ref yr, .ref yg, .int pcv, .int trv, .int vav, .int dnv, .int wv, .int ((F_m_fail 6 a2).1), .int ((F_m_fail 6 a2).2), .int ne])), (ym, .inl (d1, 16384, .inl me)), (yr, .inl (d2, 4, .inl rg)), (yg, .inl (d3, 32, .inl rs))]) hP hD [0, 1, 2, 3] [] rfl rfl (by decide) (by decide) hk1 hFc hP1 hD1
          generalize H1 = H at hP hS ⊢
          have hP : va_P (dC, dI) vwCl [(y0, .inr (1, [.int th, .ref ym, .ref yr, .ref yg, .int pcv, .int trv, .int vav, .int dnv, .int wv, .int ((F_m_fail 6 a2).1), .int ((F_m_fail 6 a2).2), .int ne])), (ym, .inl (d1, 16384, .inl me)), (yr, .inl (d2, 4, .inl rg)), (yg, .inl (d3, 32, .inl rs))] H := hP
          have hD : va_D A [(y0, .inr (1, [.int th, .ref ym, .ref yr, .ref yg, .int pcv, .int trv, .int vav, .int dnv, .int wv, .int ((F_m_fail 6 a2).1), .int ((F_m_fail 6 a2).2), .int ne])), (ym, .inl (d1, 16384, .inl me)), (yr, .inl (d2, 4, .inl rg)), (yg, .inl (d3, 32, .inl rs))] := hD
          refine lv_goto (tgt := 101) hx hb dX1_store_46 (by decide) ?_
          exact W.vret hx hb hr (fun t ht hW => ⟨⟨(me, rs, (F_m_fail 6 a2).1, (F_m_fail 6 a2).2, ne), rfl, (by unfold F_m_store; first | (rw [if_pos c_1, if_neg c_2, if_pos c_3, if_neg c_15]; done) | (rw [if_pos c_1, if_neg c_2, if_pos c_3, if_neg c_15]; rfl)), by rw [ht]; exact hP, va_K.moved hW.alike hK, hD⟩, hS.F ht⟩) hS.2.2 dX1_store_101
    · refine lv_iconst (v := 1) hx hb dX1_store_14 (by decide) ?_
      refine lv_goto (tgt := 28) hx hb dX1_store_15 (by decide) ?_
      refine lv_istore (lv' := [(4, .int 1), (0, .ref y0), (1, .int a1), (2, .int a2), (3, .int a3)]) hx hb dX1_store_28 hl (by decide) rfl (fun ls hl => ?_)
      refine lv_iload_n hx hb dX1_store_30 rfl (lv_at hl 3 rfl) ?_
      refine lv_iload hx hb dX1_store_31 (lv_at hl 0 rfl) ?_
      refine lv_iconst (v := 1) hx hb dX1_store_33 (by decide) ?_
      refine lv_isub hx hb dX1_store_34 ?_
      refine lv_iand hx hb dX1_store_35 ?_
      refine lv_if_eq (tgt := 49) hx hb dX1_store_36 (by decide) (fun c_26 => ?_) (fun c_26 => ?_)
      · refine lv_aload_n hx hb dX1_store_49 rfl (lv_at hl 1 rfl) ?_
        refine lv_iload_n hx hb dX1_store_50 rfl (lv_at hl 3 rfl) ?_
        refine lv_iconst (v := 2) hx hb dX1_store_51 (by decide) ?_
        refine vp_callSi (W.runV (As := [.int a2, .int 2]) (rest := []) ⟨hx, hb, hml, hown, hts⟩ (c_m_may l dC dI y0 ym yr yg d1 d2 d3 th me rg rs pcv trv vav dnv wv fa wi ne a2 2 ((by decide))) (cwV 2 hts (gV mL_X1_82 mI_X1_may mE_X1_may mN_X1 mC_X1_may) rfl rfl rfl (by decide +kernel) ⟨Nat.le_of_ble_eq_true rfl, Nat.le_of_ble_eq_true rfl⟩) ⟨fun a U g mk q => by obtain ⟨q0, qP, qK⟩ := q; exact ⟨q0, qP, va_K.moved (u := U) (U := U.calling g mk a) (Vm.Alike.refl U.vm) qK⟩, va_recv hK hP (ci := 1) (q0 := 0) rfl rfl, fun U hU hW => ⟨rfl, by rw [hU]; exact hP, va_K.moved hW.alike hK⟩⟩ rfl rfl hl.1 rfl (lv_room (Nat.le_of_ble_eq_true rfl)) dX1_store_52 ⟨Nat.zero_le _, Nat.zero_le _⟩) (fun r_27 hw => ?_)
        obtain ⟨b_28, hw⟩ := hw
        rw [hw] at b_28 ⊢
        clear hw
        refine lv_if_ne (tgt := 68) hx hb dX1_store_55 (by decide) (fun c_29 => ?_) (fun c_29 => ?_)
        · refine lv_iconst (v := 0) hx hb dX1_store_68 (by decide) ?_
          refine lv_istore (lv' := [(5, .int 0), (4, .int 1), (0, .ref y0), (1, .int a1), (2, .int a2), (3, .int a3)]) hx hb dX1_store_69 hl (by decide) rfl (fun ls hl => ?_)
          have hl := lv_sub hl [0, 2, 3, 4, 5, 1] rfl
          refine lv_loop (n := 1) (P := fun j H locs ls => va_P (dC, dI) vwCl [(y0, .inr (1, [.int th, .ref ym, .ref yr, .ref yg, .int pcv, .int trv, .int vav, .int dnv, .int wv, .int fa, .int wi, .int ne])), (ym, .inl (d1, 16384, .inl ((L_store me a2 a3 j)))), (yr, .inl (d2, 4, .inl rg)), (yg, .inl (d3, 32, .inl rs))] H ∧ va_D A [(y0, .inr (1, [.int th, .ref ym, .ref yr, .ref yg, .int pcv, .int trv, .int vav, .int dnv, .int wv, .int fa, .int wi, .int ne])), (ym, .inl (d1, 16384, .inl ((L_store me a2 a3 j)))), (yr, .inl (d2, 4, .inl rg)), (yg, .inl (d3, 32, .inl rs))] ∧ va_S A s.heap H locs ∧ lv_has ls 6 [(5, .int (nI j)), (0, .ref y0), (1, .int a1), (2, .int a2), (3, .int a3), (4, .int 1)]) (Wg := fun H locs ls => W p l e _ s m _ below meth c H locs 0 0 _ (F0 m 71 ls [])) ?_ (1) 0 s.heap _ ls (by omega) (Nat.zero_le _) ⟨hP, hD, hS, hl⟩
          rintro j H locs ls hj ⟨hP, hD, hS, hl⟩ ih
          refine lv_iload hx hb dX1_store_71 (lv_at hl 0 rfl) ?_
          refine lv_iload hx hb dX1_store_73 (lv_at hl 5 rfl) ?_
          refine lv_icmp_ge (tgt := 101) hx hb dX1_store_75 (by decide) (fun c_30 => ?_) (fun c_30 => ?_)
          · have hjn : j = 1 := lpc_end (by decide) hj c_30
            subst hjn
            exact W.vret hx hb hr (fun t ht hW => ⟨⟨((L_store me a2 a3 1), rs, fa, wi, ne), rfl, (by unfold F_m_store; first | (rw [if_pos c_1, if_pos c_2, if_pos c_26, if_neg c_29]; done) | (rw [if_pos c_1, if_pos c_2, if_pos c_26, if_neg c_29]; rfl)), by rw [ht]; exact hP, va_K.moved hW.alike hK, hD⟩, hS.F ht⟩) hS.2.2 dX1_store_101
          · have hlt : j < 1 := lpc_lt (by decide) hj c_30
            refine lv_aload_n hx hb dX1_store_78 rfl (lv_at hl 1 rfl) ?_
            refine va_get (D := (dC, dI)) (ci := 1) (v := .ref ym) (C := RX1) (T := TX1) (N := 12) hx hb hts (gw_lay lay_X1) hown hK hP 0 rfl rfl 1 (by decide) (hts _ (gcons mF_X1_7)) (fun _ h9 => h9) rfl dX1_store_79 ?_
            refine lv_iload_n hx hb dX1_store_82 rfl (lv_at hl 3 rfl) ?_
            refine lv_iload hx hb dX1_store_83 (lv_at hl 0 rfl) ?_
            refine lv_iadd hx hb dX1_store_85 ?_
            refine lv_iload_n hx hb dX1_store_86 rfl (lv_at hl 4 rfl) ?_
            refine lv_bipush (v := 8) hx hb dX1_store_87 (by decide) ?_
            refine lv_iload hx hb dX1_store_89 (lv_at hl 0 rfl) ?_
            refine lv_imul hx hb dX1_store_91 ?_
            refine lv_ishr hx hb dX1_store_92 ?_
            refine lv_i2b (v := (a3 >>> ((8 * (nI j)) &&& 31)).toInt8.toInt32) hx hb dX1_store_93 rfl ?_
            refine va_bast hx hb hK hP hD hS 1 0 rfl rfl (in_sto (by decide) c_26 c_29 hlt) dX1_store_94 (fun H locs hP hD hS => ?_)
            have hP : va_P (dC, dI) vwCl [(y0, .inr (1, [.int th, .ref ym, .ref yr, .ref yg, .int pcv, .int trv, .int vav, .int dnv, .int wv, .int fa, .int wi, .int ne])), (ym, .inl (d1, 16384, .inl (upd ((L_store me a2 a3 j)) (a2 + (nI j)).toNatClampNeg (vp_nar .byte ((a3 >>> ((8 * (nI j)) &&& 31)).toInt8.toInt32))))), (yr, .inl (d2, 4, .inl rg)), (yg, .inl (d3, 32, .inl rs))] H := hP
            have hD : va_D A [(y0, .inr (1, [.int th, .ref ym, .ref yr, .ref yg, .int pcv, .int trv, .int vav, .int dnv, .int wv, .int fa, .int wi, .int ne])), (ym, .inl (d1, 16384, .inl (upd ((L_store me a2 a3 j)) (a2 + (nI j)).toNatClampNeg (vp_nar .byte ((a3 >>> ((8 * (nI j)) &&& 31)).toInt8.toInt32))))), (yr, .inl (d2, 4, .inl rg)), (yg, .inl (d3, 32, .inl rs))] := hD
            refine lv_iinc (v := (nI j) + 1) (lv' := [(5, .int ((nI j) + 1)), (0, .ref y0), (1, .int a1), (2, .int a2), (3, .int a3), (4, .int 1)]) hx hb dX1_store_95 hl (k := 0) rfl rfl (by decide) rfl (fun ls hl => ?_)
            refine lv_goto (tgt := 71) hx hb dX1_store_98 (by decide) ?_
            have hl := lv_sub hl [0, 1, 2, 3, 4, 5] rfl
            have hacc : (L_store me a2 a3 (j + 1)) = upd ((L_store me a2 a3 j)) (a2 + (nI j)).toNatClampNeg (vp_nar .byte ((a3 >>> ((8 * (nI j)) &&& 31)).toInt8.toInt32)) := by show B_store me a2 a3 j (L_store me a2 a3 j) = _; unfold B_store; rfl
            rw [nI_1] at hl
            exact ih H locs ls hlt ⟨by rw [hacc]; exact hP, by rw [hacc]; exact hD, hS, by first | exact hl | (rw [hacc]; exact hl)⟩
        · refine lv_aload_n hx hb dX1_store_58 rfl (lv_at hl 1 rfl) ?_
          refine lv_bipush (v := 15) hx hb dX1_store_59 (by decide) ?_
          refine lv_iload_n hx hb dX1_store_61 rfl (lv_at hl 3 rfl) ?_
          have hFc := va_free (wc := [(y0, .inr (1, [.int th, .ref ym, .ref yr, .ref yg, .int pcv, .int trv, .int vav, .int dnv, .int wv, .int fa, .int wi, .int ne])), (ym, .inl (d1, 16384, .inl me)), (yr, .inl (d2, 4, .inl rg)), (yg, .inl (d3, 32, .inl rs))]) hD hS hA [0, 1, 2, 3] rfl
          refine va_callv (va_runV (As := [.int 15, .int a2]) (rest := []) ⟨hx, hb, hml, hown, hts⟩ (c_m_fail l dC dI y0 ym yr yg d1 d2 d3 s.heap.size th me rg rs pcv trv vav dnv wv fa wi ne 15 a2) (cwV 2 hts (gV mL_X1_60 mI_X1_fail mE_X1_fail mN_X1 mC_X1_fail) rfl rfl rfl (by decide +kernel) ⟨Nat.le_of_ble_eq_true rfl, Nat.le_of_ble_eq_true rfl⟩) ⟨fun a U g mk q => by obtain ⟨q0, q1, qP, qK, qD⟩ := q; exact ⟨q0, q1, qP, va_K.moved (u := U) (U := U.calling g mk a) (Vm.Alike.refl U.vm) qK, qD⟩, va_recv hK hP (ci := 1) (q0 := 0) rfl rfl, fun U hU hW => ⟨rfl, by rw [hU], by rw [hU]; exact hP, va_K.moved hW.alike hK, hD.weaken (fun _ _ _ _ => trivial)⟩⟩ rfl rfl hl.1 rfl (lv_room (Nat.le_of_ble_eq_true rfl)) dX1_store_62 ⟨Nat.zero_le _, Nat.zero_le _⟩) hS (fun q _ h => hFc q h) hFc (fun u t H1 locs ht hvm hw hB hz1 hk1 hS => ?_)
          rw [hw] at hB
          obtain ⟨hP1, hK1, hD1⟩ := hB
          rw [ht] at hP1
          obtain ⟨hP, hD⟩ := va_join (wr := []) (w1 := [(y0, .inr (1, [.int th, .ref ym, .ref yr, .ref yg, .int pcv, .int trv, .int vav, .int dnv, .int wv, .int ((F_m_fail 15 a2).1), .int ((F_m_fail 15 a2).2), .int ne])), (ym, .inl (d1, 16384, .inl me)), (yr, .inl (d2, 4, .inl rg)), (yg, .inl (d3, 32, .inl rs))]) hP hD [0, 1, 2, 3] [] rfl rfl (by decide) (by decide) hk1 hFc hP1 hD1
          generalize H1 = H at hP hS ⊢
          have hP : va_P (dC, dI) vwCl [(y0, .inr (1, [.int th, .ref ym, .ref yr, .ref yg, .int pcv, .int trv, .int vav, .int dnv, .int wv, .int ((F_m_fail 15 a2).1), .int ((F_m_fail 15 a2).2), .int ne])), (ym, .inl (d1, 16384, .inl me)), (yr, .inl (d2, 4, .inl rg)), (yg, .inl (d3, 32, .inl rs))] H := hP
          have hD : va_D A [(y0, .inr (1, [.int th, .ref ym, .ref yr, .ref yg, .int pcv, .int trv, .int vav, .int dnv, .int wv, .int ((F_m_fail 15 a2).1), .int ((F_m_fail 15 a2).2), .int ne])), (ym, .inl (d1, 16384, .inl me)), (yr, .inl (d2, 4, .inl rg)), (yg, .inl (d3, 32, .inl rs))] := hD
          refine lv_goto (tgt := 101) hx hb dX1_store_65 (by decide) ?_
          exact W.vret hx hb hr (fun t ht hW => ⟨⟨(me, rs, (F_m_fail 15 a2).1, (F_m_fail 15 a2).2, ne), rfl, (by unfold F_m_store; first | (rw [if_pos c_1, if_pos c_2, if_pos c_26, if_pos c_29]; done) | (rw [if_pos c_1, if_pos c_2, if_pos c_26, if_pos c_29]; rfl)), by rw [ht]; exact hP, va_K.moved hW.alike hK, hD⟩, hS.F ht⟩) hS.2.2 dX1_store_101
      · refine lv_aload_n hx hb dX1_store_39 rfl (lv_at hl 1 rfl) ?_
        refine lv_bipush (v := 6) hx hb dX1_store_40 (by decide) ?_
        refine lv_iload_n hx hb dX1_store_42 rfl (lv_at hl 3 rfl) ?_
        have hFc := va_free (wc := [(y0, .inr (1, [.int th, .ref ym, .ref yr, .ref yg, .int pcv, .int trv, .int vav, .int dnv, .int wv, .int fa, .int wi, .int ne])), (ym, .inl (d1, 16384, .inl me)), (yr, .inl (d2, 4, .inl rg)), (yg, .inl (d3, 32, .inl rs))]) hD hS hA [0, 1, 2, 3] rfl
        refine va_callv (va_runV (As := [.int 6, .int a2]) (rest := []) ⟨hx, hb, hml, hown, hts⟩ (c_m_fail l dC dI y0 ym yr yg d1 d2 d3 s.heap.size th me rg rs pcv trv vav dnv wv fa wi ne 6 a2) (cwV 2 hts (gV mL_X1_60 mI_X1_fail mE_X1_fail mN_X1 mC_X1_fail) rfl rfl rfl (by decide +kernel) ⟨Nat.le_of_ble_eq_true rfl, Nat.le_of_ble_eq_true rfl⟩) ⟨fun a U g mk q => by obtain ⟨q0, q1, qP, qK, qD⟩ := q; exact ⟨q0, q1, qP, va_K.moved (u := U) (U := U.calling g mk a) (Vm.Alike.refl U.vm) qK, qD⟩, va_recv hK hP (ci := 1) (q0 := 0) rfl rfl, fun U hU hW => ⟨rfl, by rw [hU], by rw [hU]; exact hP, va_K.moved hW.alike hK, hD.weaken (fun _ _ _ _ => trivial)⟩⟩ rfl rfl hl.1 rfl (lv_room (Nat.le_of_ble_eq_true rfl)) dX1_store_43 ⟨Nat.zero_le _, Nat.zero_le _⟩) hS (fun q _ h => hFc q h) hFc (fun u t H1 locs ht hvm hw hB hz1 hk1 hS => ?_)
        rw [hw] at hB
        obtain ⟨hP1, hK1, hD1⟩ := hB
        rw [ht] at hP1
        obtain ⟨hP, hD⟩ := va_join (wr := []) (w1 := [(y0, .inr (1, [.int th, .ref ym, .ref yr, .ref yg, .int pcv, .int trv, .int vav, .int dnv, .int wv, .int ((F_m_fail 6 a2).1), .int ((F_m_fail 6 a2).2), .int ne])), (ym, .inl (d1, 16384, .inl me)), (yr, .inl (d2, 4, .inl rg)), (yg, .inl (d3, 32, .inl rs))]) hP hD [0, 1, 2, 3] [] rfl rfl (by decide) (by decide) hk1 hFc hP1 hD1
        generalize H1 = H at hP hS ⊢
        have hP : va_P (dC, dI) vwCl [(y0, .inr (1, [.int th, .ref ym, .ref yr, .ref yg, .int pcv, .int trv, .int vav, .int dnv, .int wv, .int ((F_m_fail 6 a2).1), .int ((F_m_fail 6 a2).2), .int ne])), (ym, .inl (d1, 16384, .inl me)), (yr, .inl (d2, 4, .inl rg)), (yg, .inl (d3, 32, .inl rs))] H := hP
        have hD : va_D A [(y0, .inr (1, [.int th, .ref ym, .ref yr, .ref yg, .int pcv, .int trv, .int vav, .int dnv, .int wv, .int ((F_m_fail 6 a2).1), .int ((F_m_fail 6 a2).2), .int ne])), (ym, .inl (d1, 16384, .inl me)), (yr, .inl (d2, 4, .inl rg)), (yg, .inl (d3, 32, .inl rs))] := hD
        refine lv_goto (tgt := 101) hx hb dX1_store_46 (by decide) ?_
        exact W.vret hx hb hr (fun t ht hW => ⟨⟨(me, rs, (F_m_fail 6 a2).1, (F_m_fail 6 a2).2, ne), rfl, (by unfold F_m_store; first | (rw [if_pos c_1, if_pos c_2, if_neg c_26]; done) | (rw [if_pos c_1, if_pos c_2, if_neg c_26]; rfl)), by rw [ht]; exact hP, va_K.moved hW.alike hK, hD⟩, hS.F ht⟩) hS.2.2 dX1_store_101
  · refine lv_aload_n hx hb dX1_store_5 rfl (lv_at hl 0 rfl) ?_
    have hFc := va_free (wc := [(y0, .inr (1, [.int th, .ref ym, .ref yr, .ref yg, .int pcv, .int trv, .int vav, .int dnv, .int wv, .int fa, .int wi, .int ne])), (ym, .inl (d1, 16384, .inl me)), (yr, .inl (d2, 4, .inl rg)), (yg, .inl (d3, 32, .inl rs))]) hD hS hA [0, 1, 2, 3] rfl
    refine va_callv (va_runV (As := []) (rest := []) ⟨hx, hb, hml, hown, hts⟩ (c_m_strange l dC dI y0 ym yr yg d1 d2 d3 s.heap.size th me rg rs pcv trv vav dnv wv fa wi ne) (cwV 0 hts (gV mL_X1_71 mI_X1_strange mE_X1_strange mN_X1 mC_X1_strange) rfl rfl rfl (by decide +kernel) ⟨Nat.le_of_ble_eq_true rfl, Nat.le_of_ble_eq_true rfl⟩) ⟨fun a U g mk q => by obtain ⟨q0, q1, qP, qK, qD⟩ := q; exact ⟨q0, q1, qP, va_K.moved (u := U) (U := U.calling g mk a) (Vm.Alike.refl U.vm) qK, qD⟩, va_recv hK hP (ci := 1) (q0 := 0) rfl rfl, fun U hU hW => ⟨rfl, by rw [hU], by rw [hU]; exact hP, va_K.moved hW.alike hK, hD.weaken (fun _ _ _ _ => trivial)⟩⟩ rfl rfl hl.1 rfl (lv_room (Nat.le_of_ble_eq_true rfl)) dX1_store_6 ⟨Nat.zero_le _, Nat.zero_le _⟩) hS (fun q _ h => hFc q h) hFc (fun u t H1 locs ht hvm hw hB hz1 hk1 hS => ?_)
    rw [hw] at hB
    obtain ⟨hP1, hK1, hD1⟩ := hB
    rw [ht] at hP1
    obtain ⟨hP, hD⟩ := va_join (wr := []) (w1 := [(y0, .inr (1, [.int th, .ref ym, .ref yr, .ref yg, .int pcv, .int trv, .int vav, .int dnv, .int wv, .int ((F_m_strange wv).1), .int ((F_m_strange wv).2), .int ne])), (ym, .inl (d1, 16384, .inl me)), (yr, .inl (d2, 4, .inl rg)), (yg, .inl (d3, 32, .inl rs))]) hP hD [0, 1, 2, 3] [] rfl rfl (by decide) (by decide) hk1 hFc hP1 hD1
    generalize H1 = H at hP hS ⊢
    have hP : va_P (dC, dI) vwCl [(y0, .inr (1, [.int th, .ref ym, .ref yr, .ref yg, .int pcv, .int trv, .int vav, .int dnv, .int wv, .int ((F_m_strange wv).1), .int ((F_m_strange wv).2), .int ne])), (ym, .inl (d1, 16384, .inl me)), (yr, .inl (d2, 4, .inl rg)), (yg, .inl (d3, 32, .inl rs))] H := hP
    have hD : va_D A [(y0, .inr (1, [.int th, .ref ym, .ref yr, .ref yg, .int pcv, .int trv, .int vav, .int dnv, .int wv, .int ((F_m_strange wv).1), .int ((F_m_strange wv).2), .int ne])), (ym, .inl (d1, 16384, .inl me)), (yr, .inl (d2, 4, .inl rg)), (yg, .inl (d3, 32, .inl rs))] := hD
    exact W.vret hx hb hr (fun t ht hW => ⟨⟨(me, rs, (F_m_strange wv).1, (F_m_strange wv).2, ne), rfl, (by unfold F_m_store; first | (rw [if_neg c_1]; done) | (rw [if_neg c_1]; rfl)), by rw [ht]; exact hP, va_K.moved hW.alike hK, hD⟩, hS.F ht⟩) hS.2.2 dX1_store_9
def F_m_immediate (me : Nat → Int32) (rg : Nat → Int32) (rs : Nat → Int32) (pcv : Int32) (wv : Int32) (fa : Int32) (wi : Int32) (ne : Int32) (a1 : Int32) (a2 : Int32) (a3 : Int32) : (Nat → Int32) × (Nat → Int32) × Int32 × Int32 × Int32 :=
  if a1 = 1 then
    if a3 = 0 then
      if a1 = 5 then
        if a3 = 32 then
          (me, F_m_put wv rs (F_m_worked a1 a2 (F_m_part wv 20 5) 1), fa, wi, ne)
        else
          (me, F_m_put wv rs (F_m_worked a1 a2 (F_m_part wv 20 5) 0), fa, wi, ne)
      else
        (me, F_m_put wv rs (F_m_worked a1 a2 (F_m_part wv 20 5) 0), fa, wi, ne)
    else
      (me, rs, (F_m_strange wv).1, (F_m_strange wv).2, ne)
  else
    if a1 = 5 then
      if a3 = 0 then
        if a3 = 32 then
          (me, F_m_put wv rs (F_m_worked a1 a2 (F_m_part wv 20 5) 1), fa, wi, ne)
        else
          (me, F_m_put wv rs (F_m_worked a1 a2 (F_m_part wv 20 5) 0), fa, wi, ne)
      else
        if a3 = 32 then
          (me, F_m_put wv rs (F_m_worked a1 a2 (F_m_part wv 20 5) 1), fa, wi, ne)
        else
          (me, rs, (F_m_strange wv).1, (F_m_strange wv).2, ne)
    else
      (me, F_m_put wv rs (F_m_worked a1 a2 (F_m_i wv) 0), fa, wi, ne)
set_option maxHeartbeats 4000000 in
set_option maxRecDepth 100000 in
theorem c_m_immediate (l : Launch) (dC : Nat → ClassId) (dI : Nat → Nat → Nat) (y0 ym yr yg : Nat) (d1 d2 d3 : ClassId) (sz : Nat) (th : Int32) (me : Nat → Int32) (rg : Nat → Int32) (rs : Nat → Int32) (pcv : Int32) (trv : Int32) (vav : Int32) (dnv : Int32) (wv : Int32) (fa : Int32) (wi : Int32) (ne : Int32) (a1 : Int32) (a2 : Int32) (a3 : Int32)  : Met l yX1_immediate wsX1_immediate ({ frames := 2, cells := 0, slots := 0, locals := 48 }) (va_Pc [.ref y0, .int a1, .int a2, .int a3] (fun U => U.heap.size = sz ∧ va_P (dC, dI) vwCl [(y0, .inr (1, [.int th, .ref ym, .ref yr, .ref yg, .int pcv, .int trv, .int vav, .int dnv, .int wv, .int fa, .int wi, .int ne])), (ym, .inl (d1, 16384, .inl me)), (yr, .inl (d2, 4, .inl rg)), (yg, .inl (d3, 32, .inl rs))] U.heap ∧ va_K (dC, dI) vwCl [(d1, .byte), (d2, .int), (d3, .int)] U ∧ va_D (fun _ => True) [(y0, .inr (1, [.int th, .ref ym, .ref yr, .ref yg, .int pcv, .int trv, .int vav, .int dnv, .int wv, .int fa, .int wi, .int ne])), (ym, .inl (d1, 16384, .inl me)), (yr, .inl (d2, 4, .inl rg)), (yg, .inl (d3, 32, .inl rs))])) (va_Qv (fun u : (Nat → Int32) × (Nat → Int32) × Int32 × Int32 × Int32 => u = F_m_immediate me rg rs pcv wv fa wi ne a1 a2 a3) (fun (u : (Nat → Int32) × (Nat → Int32) × Int32 × Int32 × Int32) (t : State) => va_P (dC, dI) vwCl [(y0, .inr (1, [.int th, .ref ym, .ref yr, .ref yg, .int pcv, .int trv, .int vav, .int dnv, .int wv, .int u.2.2.1, .int u.2.2.2.1, .int u.2.2.2.2])), (ym, .inl (d1, 16384, .inl u.1)), (yr, .inl (d2, 4, .inl rg)), (yg, .inl (d3, 32, .inl u.2.1))] t.heap ∧ va_K (dC, dI) vwCl [(d1, .byte), (d2, .int), (d3, .int)] t ∧ va_D (va_A [(y0, .inr (1, [.int th, .ref ym, .ref yr, .ref yg, .int pcv, .int trv, .int vav, .int dnv, .int wv, .int fa, .int wi, .int ne])), (ym, .inl (d1, 16384, .inl me)), (yr, .inl (d2, 4, .inl rg)), (yg, .inl (d3, 32, .inl rs))] sz) [(y0, .inr (1, [.int th, .ref ym, .ref yr, .ref yg, .int pcv, .int trv, .int vav, .int dnv, .int wv, .int u.2.2.1, .int u.2.2.2.1, .int u.2.2.2.2])), (ym, .inl (d1, 16384, .inl u.1)), (yr, .inl (d2, 4, .inl rg)), (yg, .inl (d3, 32, .inl u.2.1))]) (va_A [(y0, .inr (1, [.int th, .ref ym, .ref yr, .ref yg, .int pcv, .int trv, .int vav, .int dnv, .int wv, .int fa, .int wi, .int ne])), (ym, .inl (d1, 16384, .inl me)), (yr, .inl (d2, 4, .inl rg)), (yg, .inl (d3, 32, .inl rs))] sz)) 0 0 (va_A [(y0, .inr (1, [.int th, .ref ym, .ref yr, .ref yg, .int pcv, .int trv, .int vav, .int dnv, .int wv, .int fa, .int wi, .int ne])), (ym, .inl (d1, 16384, .inl me)), (yr, .inl (d2, 4, .inl rg)), (yg, .inl (d3, 32, .inl rs))] sz) := by
  refine Met.ofW (cc := cX1_immediate) (maxL := 5) (ret := none) (by decide) rfl ?_
  intro p e s m args below meth c s₁ B hml hv
  obtain ⟨rfl, hsz, hP, hK, hD0⟩ := hv
  have hx := B.exec
  have hb := B.bytes
  have hr := B.returns
  have hts := atoms_spec (ws := wsX1_immediate) B.pre
  have hown : s.vm.findClass RX1 = some m.cls := findClass_of_methodNamed B.named
  have hlocks := B.notSynchronized
  subst hsz
  have hD := hD0.self (sz := s.heap.size)
  generalize hAe : va_A [(y0, .inr (1, [.int th, .ref ym, .ref yr, .ref yg, .int pcv, .int trv, .int vav, .int dnv, .int wv, .int fa, .int wi, .int ne])), (ym, .inl (d1, 16384, .inl me)), (yr, .inl (d2, 4, .inl rg)), (yg, .inl (d3, 32, .inl rs))] s.heap.size = A at hD ⊢
  have hA : ∀ q : Nat, s.heap.size ≤ q → A q := fun q h => by rw [← hAe]; exact Or.inr h
  have hS : va_S A s.heap s.heap [] := va_S.rf
  have hP : va_P (dC, dI) vwCl [(y0, .inr (1, [.int th, .ref ym, .ref yr, .ref yg, .int pcv, .int trv, .int vav, .int dnv, .int wv, .int fa, .int wi, .int ne])), (ym, .inl (d1, 16384, .inl me)), (yr, .inl (d2, 4, .inl rg)), (yg, .inl (d3, 32, .inl rs))] s.heap := hP
  have hl := lv_entry ([.ref y0, .int a1, .int a2, .int a3]) (n := 5) (Nat.le_of_ble_eq_true rfl)
  rw [lg_entry_eq]
  generalize (lg_sl ([.ref y0, .int a1, .int a2, .int a3]) ++ List.replicate (5 - (lg_sl ([.ref y0, .int a1, .int a2, .int a3])).length) Slot.unset).toArray = ls at hl ⊢
  have hl : lv_has ls 5 [(0, .ref y0), (1, .int a1), (2, .int a2), (3, .int a3)] := hl
  refine lv_iload_n hx hb dX1_immediate_0 rfl (lv_at hl 1 rfl) ?_
  refine lv_iconst (v := 1) hx hb dX1_immediate_1 (by decide) ?_
  refine lv_icmp_eq (tgt := 10) hx hb dX1_immediate_2 (by decide) (fun c_1 => ?_) (fun c_1 => ?_)
  · refine lv_iconst (v := 1) hx hb dX1_immediate_10 (by decide) ?_
    refine lv_goto (tgt := 15) hx hb dX1_immediate_11 (by decide) ?_
    refine lv_istore (lv' := [(4, .int 1), (0, .ref y0), (1, .int a1), (2, .int a2), (3, .int a3)]) hx hb dX1_immediate_15 hl (by decide) rfl (fun ls hl => ?_)
    refine lv_iload_n hx hb dX1_immediate_17 rfl (lv_at hl 2 rfl) ?_
    refine lv_iconst (v := 1) hx hb dX1_immediate_18 (by decide) ?_
    refine lv_icmp_ne (tgt := 26) hx hb dX1_immediate_19 (by decide) (fun c_2 => ?_) (fun c_2 => ?_)
    · exact absurd c_1 c_2
    · refine lv_iload_n hx hb dX1_immediate_22 rfl (lv_at hl 4 rfl) ?_
      refine lv_if_ne (tgt := 41) hx hb dX1_immediate_23 (by decide) (fun c_3 => ?_) (fun c_3 => ?_)
      · refine lv_aload_n hx hb dX1_immediate_41 rfl (lv_at hl 1 rfl) ?_
        have hFc := va_free (wc := [(y0, .inr (1, [.int th, .ref ym, .ref yr, .ref yg, .int pcv, .int trv, .int vav, .int dnv, .int wv, .int fa, .int wi, .int ne])), (ym, .inl (d1, 16384, .inl me)), (yr, .inl (d2, 4, .inl rg)), (yg, .inl (d3, 32, .inl rs))]) hD hS hA [0, 1, 2, 3] rfl
        refine va_callv (va_runV (As := []) (rest := []) ⟨hx, hb, hml, hown, hts⟩ (c_m_strange l dC dI y0 ym yr yg d1 d2 d3 s.heap.size th me rg rs pcv trv vav dnv wv fa wi ne) (cwV 0 hts (gV mL_X1_71 mI_X1_strange mE_X1_strange mN_X1 mC_X1_strange) rfl rfl rfl (by decide +kernel) ⟨Nat.le_of_ble_eq_true rfl, Nat.le_of_ble_eq_true rfl⟩) ⟨fun a U g mk q => by obtain ⟨q0, q1, qP, qK, qD⟩ := q; exact ⟨q0, q1, qP, va_K.moved (u := U) (U := U.calling g mk a) (Vm.Alike.refl U.vm) qK, qD⟩, va_recv hK hP (ci := 1) (q0 := 0) rfl rfl, fun U hU hW => ⟨rfl, by rw [hU], by rw [hU]; exact hP, va_K.moved hW.alike hK, hD.weaken (fun _ _ _ _ => trivial)⟩⟩ rfl rfl hl.1 rfl (lv_room (Nat.le_of_ble_eq_true rfl)) dX1_immediate_42 ⟨Nat.zero_le _, Nat.zero_le _⟩) hS (fun q _ h => hFc q h) hFc (fun u t H1 locs ht hvm hw hB hz1 hk1 hS => ?_)
        rw [hw] at hB
        obtain ⟨hP1, hK1, hD1⟩ := hB
        rw [ht] at hP1
        obtain ⟨hP, hD⟩ := va_join (wr := []) (w1 := [(y0, .inr (1, [.int th, .ref ym, .ref yr, .ref yg, .int pcv, .int trv, .int vav, .int dnv, .int wv, .int ((F_m_strange wv).1), .int ((F_m_strange wv).2), .int ne])), (ym, .inl (d1, 16384, .inl me)), (yr, .inl (d2, 4, .inl rg)), (yg, .inl (d3, 32, .inl rs))]) hP hD [0, 1, 2, 3] [] rfl rfl (by decide) (by decide) hk1 hFc hP1 hD1
        generalize H1 = H at hP hS ⊢
        have hP : va_P (dC, dI) vwCl [(y0, .inr (1, [.int th, .ref ym, .ref yr, .ref yg, .int pcv, .int trv, .int vav, .int dnv, .int wv, .int ((F_m_strange wv).1), .int ((F_m_strange wv).2), .int ne])), (ym, .inl (d1, 16384, .inl me)), (yr, .inl (d2, 4, .inl rg)), (yg, .inl (d3, 32, .inl rs))] H := hP
        have hD : va_D A [(y0, .inr (1, [.int th, .ref ym, .ref yr, .ref yg, .int pcv, .int trv, .int vav, .int dnv, .int wv, .int ((F_m_strange wv).1), .int ((F_m_strange wv).2), .int ne])), (ym, .inl (d1, 16384, .inl me)), (yr, .inl (d2, 4, .inl rg)), (yg, .inl (d3, 32, .inl rs))] := hD
        refine lv_goto (tgt := 92) hx hb dX1_immediate_45 (by decide) ?_
        exact W.vret hx hb hr (fun t ht hW => ⟨⟨(me, rs, (F_m_strange wv).1, (F_m_strange wv).2, ne), rfl, (by unfold F_m_immediate; first | (rw [if_pos c_1, if_neg c_3]; done) | (rw [if_pos c_1, if_neg c_3]; rfl)), by rw [ht]; exact hP, va_K.moved hW.alike hK, hD⟩, hS.F ht⟩) hS.2.2 dX1_immediate_92
      · refine lv_iload_n hx hb dX1_immediate_26 rfl (lv_at hl 2 rfl) ?_
        refine lv_iconst (v := 5) hx hb dX1_immediate_27 (by decide) ?_
        refine lv_icmp_ne (tgt := 48) hx hb dX1_immediate_28 (by decide) (fun c_7 => ?_) (fun c_7 => ?_)
        · refine lv_aload_n hx hb dX1_immediate_48 rfl (lv_at hl 1 rfl) ?_
          refine lv_iload_n hx hb dX1_immediate_49 rfl (lv_at hl 2 rfl) ?_
          refine lv_iload_n hx hb dX1_immediate_50 rfl (lv_at hl 3 rfl) ?_
          refine lv_iload hx hb dX1_immediate_51 (lv_at hl 0 rfl) ?_
          refine lv_if_eq (tgt := 66) hx hb dX1_immediate_53 (by decide) (fun c_8 => ?_) (fun c_8 => ?_)
          · exact absurd c_8 (by decide)
          · refine lv_aload_n hx hb dX1_immediate_56 rfl (lv_at hl 1 rfl) ?_
            refine lv_bipush (v := 20) hx hb dX1_immediate_57 (by decide) ?_
            refine lv_iconst (v := 5) hx hb dX1_immediate_59 (by decide) ?_
            refine vp_callSi (W.runV (As := [.int 20, .int 5]) (rest := [.int a2, .int a1, .ref y0]) ⟨hx, hb, hml, hown, hts⟩ (c_m_part l dC dI y0 ym yr yg d1 d2 d3 th me rg rs pcv trv vav dnv wv fa wi ne 20 5) (cwV 2 hts (gV mL_X1_33 mI_X1_part mE_X1_part mN_X1 mC_X1_part) rfl rfl rfl (by decide +kernel) ⟨Nat.le_of_ble_eq_true rfl, Nat.le_of_ble_eq_true rfl⟩) ⟨fun a U g mk q => by obtain ⟨q0, qP, qK⟩ := q; exact ⟨q0, qP, va_K.moved (u := U) (U := U.calling g mk a) (Vm.Alike.refl U.vm) qK⟩, va_recv hK hP (ci := 1) (q0 := 0) rfl rfl, fun U hU hW => ⟨rfl, by rw [hU]; exact hP, va_K.moved hW.alike hK⟩⟩ rfl rfl hl.1 rfl (lv_room (Nat.le_of_ble_eq_true rfl)) dX1_immediate_60 ⟨Nat.zero_le _, Nat.zero_le _⟩) (fun r_9 hw => ?_)
            rw [hw]
            clear hw r_9
            refine lv_goto (tgt := 70) hx hb dX1_immediate_63 (by decide) ?_
            refine lv_iload_n hx hb dX1_immediate_70 rfl (lv_at hl 2 rfl) ?_
            refine lv_iconst (v := 5) hx hb dX1_immediate_71 (by decide) ?_
            refine lv_icmp_ne (tgt := 85) hx hb dX1_immediate_72 (by decide) (fun c_10 => ?_) (fun c_10 => ?_)
            · refine lv_iconst (v := 0) hx hb dX1_immediate_85 (by decide) ?_
              refine vp_callSi (W.runS (As := [.int a1, .int a2, .int (F_m_part wv 20 5), .int 0]) (rest := [.ref y0]) ⟨hx, hb, hml, hown, hts⟩ (c_m_worked l a1 a2 (F_m_part wv 20 5) 0) (cwS 4 hts (gS mL_X1_95 mS_X1_worked mN_X1 mC_X1_worked) rfl rfl rfl (by decide +kernel) ⟨Nat.le_of_ble_eq_true rfl, Nat.le_of_ble_eq_true rfl⟩) preEq rfl rfl hl.1 rfl (lv_room (Nat.le_of_ble_eq_true rfl)) dX1_immediate_86 ⟨Nat.zero_le _, Nat.zero_le _⟩) (fun r_11 hw => ?_)
              rw [hw]
              clear hw r_11
              have hFc := va_free (wc := [(y0, .inr (1, [.int th, .ref ym, .ref yr, .ref yg, .int pcv, .int trv, .int vav, .int dnv, .int wv, .int fa, .int wi, .int ne])), (ym, .inl (d1, 16384, .inl me)), (yr, .inl (d2, 4, .inl rg)), (yg, .inl (d3, 32, .inl rs))]) hD hS hA [0, 1, 2, 3] rfl
              refine va_callv (va_runV (As := [.int (F_m_worked a1 a2 (F_m_part wv 20 5) 0)]) (rest := []) ⟨hx, hb, hml, hown, hts⟩ (c_m_put l dC dI y0 ym yr yg d1 d2 d3 s.heap.size th me rg rs pcv trv vav dnv wv fa wi ne (F_m_worked a1 a2 (F_m_part wv 20 5) 0)) (cwV 1 hts (gV mL_X1_67 mI_X1_put mE_X1_put mN_X1 mC_X1_put) rfl rfl rfl (by decide +kernel) ⟨Nat.le_of_ble_eq_true rfl, Nat.le_of_ble_eq_true rfl⟩) ⟨fun a U g mk q => by obtain ⟨q0, q1, qP, qK, qD⟩ := q; exact ⟨q0, q1, qP, va_K.moved (u := U) (U := U.calling g mk a) (Vm.Alike.refl U.vm) qK, qD⟩, va_recv hK hP (ci := 1) (q0 := 0) rfl rfl, fun U hU hW => ⟨rfl, by rw [hU], by rw [hU]; exact hP, va_K.moved hW.alike hK, hD.weaken (fun _ _ _ _ => trivial)⟩⟩ rfl rfl hl.1 rfl (lv_room (Nat.le_of_ble_eq_true rfl)) dX1_immediate_89 ⟨Nat.zero_le _, Nat.zero_le _⟩) hS (fun q _ h => hFc q h) hFc (fun u t H1 locs ht hvm hw hB hz1 hk1 hS => ?_)
              rw [hw] at hB
              obtain ⟨hP1, hK1, hD1⟩ := hB
              rw [ht] at hP1
              obtain ⟨hP, hD⟩ := va_join (wr := []) (w1 := [(y0, .inr (1, [.int th, .ref ym, .ref yr, .ref yg, .int pcv, .int trv, .int vav, .int dnv, .int wv, .int fa, .int wi, .int ne])), (ym, .inl (d1, 16384, .inl me)), (yr, .inl (d2, 4, .inl rg)), (yg, .inl (d3, 32, .inl (F_m_put wv rs (F_m_worked a1 a2 (F_m_part wv 20 5) 0))))]) hP hD [0, 1, 2, 3] [] rfl rfl (by decide) (by decide) hk1 hFc hP1 hD1
              generalize H1 = H at hP hS ⊢
              have hP : va_P (dC, dI) vwCl [(y0, .inr (1, [.int th, .ref ym, .ref yr, .ref yg, .int pcv, .int trv, .int vav, .int dnv, .int wv, .int fa, .int wi, .int ne])), (ym, .inl (d1, 16384, .inl me)), (yr, .inl (d2, 4, .inl rg)), (yg, .inl (d3, 32, .inl (F_m_put wv rs (F_m_worked a1 a2 (F_m_part wv 20 5) 0))))] H := hP
              have hD : va_D A [(y0, .inr (1, [.int th, .ref ym, .ref yr, .ref yg, .int pcv, .int trv, .int vav, .int dnv, .int wv, .int fa, .int wi, .int ne])), (ym, .inl (d1, 16384, .inl me)), (yr, .inl (d2, 4, .inl rg)), (yg, .inl (d3, 32, .inl (F_m_put wv rs (F_m_worked a1 a2 (F_m_part wv 20 5) 0))))] := hD
              exact W.vret hx hb hr (fun t ht hW => ⟨⟨(me, F_m_put wv rs (F_m_worked a1 a2 (F_m_part wv 20 5) 0), fa, wi, ne), rfl, (by unfold F_m_immediate; first | (rw [if_pos c_1, if_pos c_3, if_neg c_7]; done) | (rw [if_pos c_1, if_pos c_3, if_neg c_7]; rfl)), by rw [ht]; exact hP, va_K.moved hW.alike hK, hD⟩, hS.F ht⟩) hS.2.2 dX1_immediate_92
            · exact absurd c_10 c_7
        · refine lv_iload_n hx hb dX1_immediate_31 rfl (lv_at hl 4 rfl) ?_
          refine lv_if_eq (tgt := 48) hx hb dX1_immediate_32 (by decide) (fun c_13 => ?_) (fun c_13 => ?_)
          · refine lv_aload_n hx hb dX1_immediate_48 rfl (lv_at hl 1 rfl) ?_
            refine lv_iload_n hx hb dX1_immediate_49 rfl (lv_at hl 2 rfl) ?_
            refine lv_iload_n hx hb dX1_immediate_50 rfl (lv_at hl 3 rfl) ?_
            refine lv_iload hx hb dX1_immediate_51 (lv_at hl 0 rfl) ?_
            refine lv_if_eq (tgt := 66) hx hb dX1_immediate_53 (by decide) (fun c_14 => ?_) (fun c_14 => ?_)
            · exact absurd c_14 (by decide)
            · refine lv_aload_n hx hb dX1_immediate_56 rfl (lv_at hl 1 rfl) ?_
              refine lv_bipush (v := 20) hx hb dX1_immediate_57 (by decide) ?_
              refine lv_iconst (v := 5) hx hb dX1_immediate_59 (by decide) ?_
              refine vp_callSi (W.runV (As := [.int 20, .int 5]) (rest := [.int a2, .int a1, .ref y0]) ⟨hx, hb, hml, hown, hts⟩ (c_m_part l dC dI y0 ym yr yg d1 d2 d3 th me rg rs pcv trv vav dnv wv fa wi ne 20 5) (cwV 2 hts (gV mL_X1_33 mI_X1_part mE_X1_part mN_X1 mC_X1_part) rfl rfl rfl (by decide +kernel) ⟨Nat.le_of_ble_eq_true rfl, Nat.le_of_ble_eq_true rfl⟩) ⟨fun a U g mk q => by obtain ⟨q0, qP, qK⟩ := q; exact ⟨q0, qP, va_K.moved (u := U) (U := U.calling g mk a) (Vm.Alike.refl U.vm) qK⟩, va_recv hK hP (ci := 1) (q0 := 0) rfl rfl, fun U hU hW => ⟨rfl, by rw [hU]; exact hP, va_K.moved hW.alike hK⟩⟩ rfl rfl hl.1 rfl (lv_room (Nat.le_of_ble_eq_true rfl)) dX1_immediate_60 ⟨Nat.zero_le _, Nat.zero_le _⟩) (fun r_15 hw => ?_)
              rw [hw]
              clear hw r_15
              refine lv_goto (tgt := 70) hx hb dX1_immediate_63 (by decide) ?_
              refine lv_iload_n hx hb dX1_immediate_70 rfl (lv_at hl 2 rfl) ?_
              refine lv_iconst (v := 5) hx hb dX1_immediate_71 (by decide) ?_
              refine lv_icmp_ne (tgt := 85) hx hb dX1_immediate_72 (by decide) (fun c_16 => ?_) (fun c_16 => ?_)
              · exact absurd c_7 c_16
              · refine lv_iload_n hx hb dX1_immediate_75 rfl (lv_at hl 4 rfl) ?_
                refine lv_bipush (v := 32) hx hb dX1_immediate_76 (by decide) ?_
                refine lv_icmp_ne (tgt := 85) hx hb dX1_immediate_78 (by decide) (fun c_17 => ?_) (fun c_17 => ?_)
                · refine lv_iconst (v := 0) hx hb dX1_immediate_85 (by decide) ?_
                  refine vp_callSi (W.runS (As := [.int a1, .int a2, .int (F_m_part wv 20 5), .int 0]) (rest := [.ref y0]) ⟨hx, hb, hml, hown, hts⟩ (c_m_worked l a1 a2 (F_m_part wv 20 5) 0) (cwS 4 hts (gS mL_X1_95 mS_X1_worked mN_X1 mC_X1_worked) rfl rfl rfl (by decide +kernel) ⟨Nat.le_of_ble_eq_true rfl, Nat.le_of_ble_eq_true rfl⟩) preEq rfl rfl hl.1 rfl (lv_room (Nat.le_of_ble_eq_true rfl)) dX1_immediate_86 ⟨Nat.zero_le _, Nat.zero_le _⟩) (fun r_18 hw => ?_)
                  rw [hw]
                  clear hw r_18
                  have hFc := va_free (wc := [(y0, .inr (1, [.int th, .ref ym, .ref yr, .ref yg, .int pcv, .int trv, .int vav, .int dnv, .int wv, .int fa, .int wi, .int ne])), (ym, .inl (d1, 16384, .inl me)), (yr, .inl (d2, 4, .inl rg)), (yg, .inl (d3, 32, .inl rs))]) hD hS hA [0, 1, 2, 3] rfl
                  refine va_callv (va_runV (As := [.int (F_m_worked a1 a2 (F_m_part wv 20 5) 0)]) (rest := []) ⟨hx, hb, hml, hown, hts⟩ (c_m_put l dC dI y0 ym yr yg d1 d2 d3 s.heap.size th me rg rs pcv trv vav dnv wv fa wi ne (F_m_worked a1 a2 (F_m_part wv 20 5) 0)) (cwV 1 hts (gV mL_X1_67 mI_X1_put mE_X1_put mN_X1 mC_X1_put) rfl rfl rfl (by decide +kernel) ⟨Nat.le_of_ble_eq_true rfl, Nat.le_of_ble_eq_true rfl⟩) ⟨fun a U g mk q => by obtain ⟨q0, q1, qP, qK, qD⟩ := q; exact ⟨q0, q1, qP, va_K.moved (u := U) (U := U.calling g mk a) (Vm.Alike.refl U.vm) qK, qD⟩, va_recv hK hP (ci := 1) (q0 := 0) rfl rfl, fun U hU hW => ⟨rfl, by rw [hU], by rw [hU]; exact hP, va_K.moved hW.alike hK, hD.weaken (fun _ _ _ _ => trivial)⟩⟩ rfl rfl hl.1 rfl (lv_room (Nat.le_of_ble_eq_true rfl)) dX1_immediate_89 ⟨Nat.zero_le _, Nat.zero_le _⟩) hS (fun q _ h => hFc q h) hFc (fun u t H1 locs ht hvm hw hB hz1 hk1 hS => ?_)
                  rw [hw] at hB
                  obtain ⟨hP1, hK1, hD1⟩ := hB
                  rw [ht] at hP1
                  obtain ⟨hP, hD⟩ := va_join (wr := []) (w1 := [(y0, .inr (1, [.int th, .ref ym, .ref yr, .ref yg, .int pcv, .int trv, .int vav, .int dnv, .int wv, .int fa, .int wi, .int ne])), (ym, .inl (d1, 16384, .inl me)), (yr, .inl (d2, 4, .inl rg)), (yg, .inl (d3, 32, .inl (F_m_put wv rs (F_m_worked a1 a2 (F_m_part wv 20 5) 0))))]) hP hD [0, 1, 2, 3] [] rfl rfl (by decide) (by decide) hk1 hFc hP1 hD1
                  generalize H1 = H at hP hS ⊢
                  have hP : va_P (dC, dI) vwCl [(y0, .inr (1, [.int th, .ref ym, .ref yr, .ref yg, .int pcv, .int trv, .int vav, .int dnv, .int wv, .int fa, .int wi, .int ne])), (ym, .inl (d1, 16384, .inl me)), (yr, .inl (d2, 4, .inl rg)), (yg, .inl (d3, 32, .inl (F_m_put wv rs (F_m_worked a1 a2 (F_m_part wv 20 5) 0))))] H := hP
                  have hD : va_D A [(y0, .inr (1, [.int th, .ref ym, .ref yr, .ref yg, .int pcv, .int trv, .int vav, .int dnv, .int wv, .int fa, .int wi, .int ne])), (ym, .inl (d1, 16384, .inl me)), (yr, .inl (d2, 4, .inl rg)), (yg, .inl (d3, 32, .inl (F_m_put wv rs (F_m_worked a1 a2 (F_m_part wv 20 5) 0))))] := hD
                  exact W.vret hx hb hr (fun t ht hW => ⟨⟨(me, F_m_put wv rs (F_m_worked a1 a2 (F_m_part wv 20 5) 0), fa, wi, ne), rfl, (by unfold F_m_immediate; first | (rw [if_pos c_1, if_pos c_3, if_pos c_7, if_neg c_17]; done) | (rw [if_pos c_1, if_pos c_3, if_pos c_7, if_neg c_17]; rfl)), by rw [ht]; exact hP, va_K.moved hW.alike hK, hD⟩, hS.F ht⟩) hS.2.2 dX1_immediate_92
                · refine lv_iconst (v := 1) hx hb dX1_immediate_81 (by decide) ?_
                  refine lv_goto (tgt := 86) hx hb dX1_immediate_82 (by decide) ?_
                  refine vp_callSi (W.runS (As := [.int a1, .int a2, .int (F_m_part wv 20 5), .int 1]) (rest := [.ref y0]) ⟨hx, hb, hml, hown, hts⟩ (c_m_worked l a1 a2 (F_m_part wv 20 5) 1) (cwS 4 hts (gS mL_X1_95 mS_X1_worked mN_X1 mC_X1_worked) rfl rfl rfl (by decide +kernel) ⟨Nat.le_of_ble_eq_true rfl, Nat.le_of_ble_eq_true rfl⟩) preEq rfl rfl hl.1 rfl (lv_room (Nat.le_of_ble_eq_true rfl)) dX1_immediate_86 ⟨Nat.zero_le _, Nat.zero_le _⟩) (fun r_20 hw => ?_)
                  rw [hw]
                  clear hw r_20
                  have hFc := va_free (wc := [(y0, .inr (1, [.int th, .ref ym, .ref yr, .ref yg, .int pcv, .int trv, .int vav, .int dnv, .int wv, .int fa, .int wi, .int ne])), (ym, .inl (d1, 16384, .inl me)), (yr, .inl (d2, 4, .inl rg)), (yg, .inl (d3, 32, .inl rs))]) hD hS hA [0, 1, 2, 3] rfl
                  refine va_callv (va_runV (As := [.int (F_m_worked a1 a2 (F_m_part wv 20 5) 1)]) (rest := []) ⟨hx, hb, hml, hown, hts⟩ (c_m_put l dC dI y0 ym yr yg d1 d2 d3 s.heap.size th me rg rs pcv trv vav dnv wv fa wi ne (F_m_worked a1 a2 (F_m_part wv 20 5) 1)) (cwV 1 hts (gV mL_X1_67 mI_X1_put mE_X1_put mN_X1 mC_X1_put) rfl rfl rfl (by decide +kernel) ⟨Nat.le_of_ble_eq_true rfl, Nat.le_of_ble_eq_true rfl⟩) ⟨fun a U g mk q => by obtain ⟨q0, q1, qP, qK, qD⟩ := q; exact ⟨q0, q1, qP, va_K.moved (u := U) (U := U.calling g mk a) (Vm.Alike.refl U.vm) qK, qD⟩, va_recv hK hP (ci := 1) (q0 := 0) rfl rfl, fun U hU hW => ⟨rfl, by rw [hU], by rw [hU]; exact hP, va_K.moved hW.alike hK, hD.weaken (fun _ _ _ _ => trivial)⟩⟩ rfl rfl hl.1 rfl (lv_room (Nat.le_of_ble_eq_true rfl)) dX1_immediate_89 ⟨Nat.zero_le _, Nat.zero_le _⟩) hS (fun q _ h => hFc q h) hFc (fun u t H1 locs ht hvm hw hB hz1 hk1 hS => ?_)
                  rw [hw] at hB
                  obtain ⟨hP1, hK1, hD1⟩ := hB
                  rw [ht] at hP1
                  obtain ⟨hP, hD⟩ := va_join (wr := []) (w1 := [(y0, .inr (1, [.int th, .ref ym, .ref yr, .ref yg, .int pcv, .int trv, .int vav, .int dnv, .int wv, .int fa, .int wi, .int ne])), (ym, .inl (d1, 16384, .inl me)), (yr, .inl (d2, 4, .inl rg)), (yg, .inl (d3, 32, .inl (F_m_put wv rs (F_m_worked a1 a2 (F_m_part wv 20 5) 1))))]) hP hD [0, 1, 2, 3] [] rfl rfl (by decide) (by decide) hk1 hFc hP1 hD1
                  generalize H1 = H at hP hS ⊢
                  have hP : va_P (dC, dI) vwCl [(y0, .inr (1, [.int th, .ref ym, .ref yr, .ref yg, .int pcv, .int trv, .int vav, .int dnv, .int wv, .int fa, .int wi, .int ne])), (ym, .inl (d1, 16384, .inl me)), (yr, .inl (d2, 4, .inl rg)), (yg, .inl (d3, 32, .inl (F_m_put wv rs (F_m_worked a1 a2 (F_m_part wv 20 5) 1))))] H := hP
                  have hD : va_D A [(y0, .inr (1, [.int th, .ref ym, .ref yr, .ref yg, .int pcv, .int trv, .int vav, .int dnv, .int wv, .int fa, .int wi, .int ne])), (ym, .inl (d1, 16384, .inl me)), (yr, .inl (d2, 4, .inl rg)), (yg, .inl (d3, 32, .inl (F_m_put wv rs (F_m_worked a1 a2 (F_m_part wv 20 5) 1))))] := hD
                  exact W.vret hx hb hr (fun t ht hW => ⟨⟨(me, F_m_put wv rs (F_m_worked a1 a2 (F_m_part wv 20 5) 1), fa, wi, ne), rfl, (by unfold F_m_immediate; first | (rw [if_pos c_1, if_pos c_3, if_pos c_7, if_pos c_17]; done) | (rw [if_pos c_1, if_pos c_3, if_pos c_7, if_pos c_17]; rfl)), by rw [ht]; exact hP, va_K.moved hW.alike hK, hD⟩, hS.F ht⟩) hS.2.2 dX1_immediate_92
          · exact absurd c_3 c_13
  · refine lv_iload_n hx hb dX1_immediate_5 rfl (lv_at hl 1 rfl) ?_
    refine lv_iconst (v := 5) hx hb dX1_immediate_6 (by decide) ?_
    refine lv_icmp_ne (tgt := 14) hx hb dX1_immediate_7 (by decide) (fun c_22 => ?_) (fun c_22 => ?_)
    · refine lv_iconst (v := 0) hx hb dX1_immediate_14 (by decide) ?_
      refine lv_istore (lv' := [(4, .int 0), (0, .ref y0), (1, .int a1), (2, .int a2), (3, .int a3)]) hx hb dX1_immediate_15 hl (by decide) rfl (fun ls hl => ?_)
      refine lv_iload_n hx hb dX1_immediate_17 rfl (lv_at hl 2 rfl) ?_
      refine lv_iconst (v := 1) hx hb dX1_immediate_18 (by decide) ?_
      refine lv_icmp_ne (tgt := 26) hx hb dX1_immediate_19 (by decide) (fun c_23 => ?_) (fun c_23 => ?_)
      · refine lv_iload_n hx hb dX1_immediate_26 rfl (lv_at hl 2 rfl) ?_
        refine lv_iconst (v := 5) hx hb dX1_immediate_27 (by decide) ?_
        refine lv_icmp_ne (tgt := 48) hx hb dX1_immediate_28 (by decide) (fun c_24 => ?_) (fun c_24 => ?_)
        · refine lv_aload_n hx hb dX1_immediate_48 rfl (lv_at hl 1 rfl) ?_
          refine lv_iload_n hx hb dX1_immediate_49 rfl (lv_at hl 2 rfl) ?_
          refine lv_iload_n hx hb dX1_immediate_50 rfl (lv_at hl 3 rfl) ?_
          refine lv_iload hx hb dX1_immediate_51 (lv_at hl 0 rfl) ?_
          refine lv_if_eq (tgt := 66) hx hb dX1_immediate_53 (by decide) (fun c_25 => ?_) (fun c_25 => ?_)
          · refine lv_aload_n hx hb dX1_immediate_66 rfl (lv_at hl 1 rfl) ?_
            refine vp_callSi (W.runV (As := []) (rest := [.int a2, .int a1, .ref y0]) ⟨hx, hb, hml, hown, hts⟩ (c_m_i l dC dI y0 ym yr yg d1 d2 d3 th me rg rs pcv trv vav dnv wv fa wi ne) (cwV 0 hts (gV mL_X1_92 mI_X1_i mE_X1_i mN_X1 mC_X1_i) rfl rfl rfl (by decide +kernel) ⟨Nat.le_of_ble_eq_true rfl, Nat.le_of_ble_eq_true rfl⟩) ⟨fun a U g mk q => by obtain ⟨q0, qP, qK⟩ := q; exact ⟨q0, qP, va_K.moved (u := U) (U := U.calling g mk a) (Vm.Alike.refl U.vm) qK⟩, va_recv hK hP (ci := 1) (q0 := 0) rfl rfl, fun U hU hW => ⟨rfl, by rw [hU]; exact hP, va_K.moved hW.alike hK⟩⟩ rfl rfl hl.1 rfl (lv_room (Nat.le_of_ble_eq_true rfl)) dX1_immediate_67 ⟨Nat.zero_le _, Nat.zero_le _⟩) (fun r_26 hw => ?_)
            rw [hw]
            clear hw r_26
            refine lv_iload_n hx hb dX1_immediate_70 rfl (lv_at hl 2 rfl) ?_
            refine lv_iconst (v := 5) hx hb dX1_immediate_71 (by decide) ?_
            refine lv_icmp_ne (tgt := 85) hx hb dX1_immediate_72 (by decide) (fun c_27 => ?_) (fun c_27 => ?_)
            · refine lv_iconst (v := 0) hx hb dX1_immediate_85 (by decide) ?_
              refine vp_callSi (W.runS (As := [.int a1, .int a2, .int (F_m_i wv), .int 0]) (rest := [.ref y0]) ⟨hx, hb, hml, hown, hts⟩ (c_m_worked l a1 a2 (F_m_i wv) 0) (cwS 4 hts (gS mL_X1_95 mS_X1_worked mN_X1 mC_X1_worked) rfl rfl rfl (by decide +kernel) ⟨Nat.le_of_ble_eq_true rfl, Nat.le_of_ble_eq_true rfl⟩) preEq rfl rfl hl.1 rfl (lv_room (Nat.le_of_ble_eq_true rfl)) dX1_immediate_86 ⟨Nat.zero_le _, Nat.zero_le _⟩) (fun r_28 hw => ?_)
              rw [hw]
              clear hw r_28
              have hFc := va_free (wc := [(y0, .inr (1, [.int th, .ref ym, .ref yr, .ref yg, .int pcv, .int trv, .int vav, .int dnv, .int wv, .int fa, .int wi, .int ne])), (ym, .inl (d1, 16384, .inl me)), (yr, .inl (d2, 4, .inl rg)), (yg, .inl (d3, 32, .inl rs))]) hD hS hA [0, 1, 2, 3] rfl
              refine va_callv (va_runV (As := [.int (F_m_worked a1 a2 (F_m_i wv) 0)]) (rest := []) ⟨hx, hb, hml, hown, hts⟩ (c_m_put l dC dI y0 ym yr yg d1 d2 d3 s.heap.size th me rg rs pcv trv vav dnv wv fa wi ne (F_m_worked a1 a2 (F_m_i wv) 0)) (cwV 1 hts (gV mL_X1_67 mI_X1_put mE_X1_put mN_X1 mC_X1_put) rfl rfl rfl (by decide +kernel) ⟨Nat.le_of_ble_eq_true rfl, Nat.le_of_ble_eq_true rfl⟩) ⟨fun a U g mk q => by obtain ⟨q0, q1, qP, qK, qD⟩ := q; exact ⟨q0, q1, qP, va_K.moved (u := U) (U := U.calling g mk a) (Vm.Alike.refl U.vm) qK, qD⟩, va_recv hK hP (ci := 1) (q0 := 0) rfl rfl, fun U hU hW => ⟨rfl, by rw [hU], by rw [hU]; exact hP, va_K.moved hW.alike hK, hD.weaken (fun _ _ _ _ => trivial)⟩⟩ rfl rfl hl.1 rfl (lv_room (Nat.le_of_ble_eq_true rfl)) dX1_immediate_89 ⟨Nat.zero_le _, Nat.zero_le _⟩) hS (fun q _ h => hFc q h) hFc (fun u t H1 locs ht hvm hw hB hz1 hk1 hS => ?_)
              rw [hw] at hB
              obtain ⟨hP1, hK1, hD1⟩ := hB
              rw [ht] at hP1
              obtain ⟨hP, hD⟩ := va_join (wr := []) (w1 := [(y0, .inr (1, [.int th, .ref ym, .ref yr, .ref yg, .int pcv, .int trv, .int vav, .int dnv, .int wv, .int fa, .int wi, .int ne])), (ym, .inl (d1, 16384, .inl me)), (yr, .inl (d2, 4, .inl rg)), (yg, .inl (d3, 32, .inl (F_m_put wv rs (F_m_worked a1 a2 (F_m_i wv) 0))))]) hP hD [0, 1, 2, 3] [] rfl rfl (by decide) (by decide) hk1 hFc hP1 hD1
              generalize H1 = H at hP hS ⊢
              have hP : va_P (dC, dI) vwCl [(y0, .inr (1, [.int th, .ref ym, .ref yr, .ref yg, .int pcv, .int trv, .int vav, .int dnv, .int wv, .int fa, .int wi, .int ne])), (ym, .inl (d1, 16384, .inl me)), (yr, .inl (d2, 4, .inl rg)), (yg, .inl (d3, 32, .inl (F_m_put wv rs (F_m_worked a1 a2 (F_m_i wv) 0))))] H := hP
              have hD : va_D A [(y0, .inr (1, [.int th, .ref ym, .ref yr, .ref yg, .int pcv, .int trv, .int vav, .int dnv, .int wv, .int fa, .int wi, .int ne])), (ym, .inl (d1, 16384, .inl me)), (yr, .inl (d2, 4, .inl rg)), (yg, .inl (d3, 32, .inl (F_m_put wv rs (F_m_worked a1 a2 (F_m_i wv) 0))))] := hD
              exact W.vret hx hb hr (fun t ht hW => ⟨⟨(me, F_m_put wv rs (F_m_worked a1 a2 (F_m_i wv) 0), fa, wi, ne), rfl, (by unfold F_m_immediate; first | (rw [if_neg c_1, if_neg c_22]; done) | (rw [if_neg c_1, if_neg c_22]; rfl)), by rw [ht]; exact hP, va_K.moved hW.alike hK, hD⟩, hS.F ht⟩) hS.2.2 dX1_immediate_92
            · exact absurd c_27 c_22
          · exact absurd (by decide) c_25
        · exact absurd c_24 c_22
      · exact absurd c_23 c_1
    · refine lv_iconst (v := 1) hx hb dX1_immediate_10 (by decide) ?_
      refine lv_goto (tgt := 15) hx hb dX1_immediate_11 (by decide) ?_
      refine lv_istore (lv' := [(4, .int 1), (0, .ref y0), (1, .int a1), (2, .int a2), (3, .int a3)]) hx hb dX1_immediate_15 hl (by decide) rfl (fun ls hl => ?_)
      refine lv_iload_n hx hb dX1_immediate_17 rfl (lv_at hl 2 rfl) ?_
      refine lv_iconst (v := 1) hx hb dX1_immediate_18 (by decide) ?_
      refine lv_icmp_ne (tgt := 26) hx hb dX1_immediate_19 (by decide) (fun c_30 => ?_) (fun c_30 => ?_)
      · refine lv_iload_n hx hb dX1_immediate_26 rfl (lv_at hl 2 rfl) ?_
        refine lv_iconst (v := 5) hx hb dX1_immediate_27 (by decide) ?_
        refine lv_icmp_ne (tgt := 48) hx hb dX1_immediate_28 (by decide) (fun c_31 => ?_) (fun c_31 => ?_)
        · exact absurd c_22 c_31
        · refine lv_iload_n hx hb dX1_immediate_31 rfl (lv_at hl 4 rfl) ?_
          refine lv_if_eq (tgt := 48) hx hb dX1_immediate_32 (by decide) (fun c_32 => ?_) (fun c_32 => ?_)
          · refine lv_aload_n hx hb dX1_immediate_48 rfl (lv_at hl 1 rfl) ?_
            refine lv_iload_n hx hb dX1_immediate_49 rfl (lv_at hl 2 rfl) ?_
            refine lv_iload_n hx hb dX1_immediate_50 rfl (lv_at hl 3 rfl) ?_
            refine lv_iload hx hb dX1_immediate_51 (lv_at hl 0 rfl) ?_
            refine lv_if_eq (tgt := 66) hx hb dX1_immediate_53 (by decide) (fun c_33 => ?_) (fun c_33 => ?_)
            · exact absurd c_33 (by decide)
            · refine lv_aload_n hx hb dX1_immediate_56 rfl (lv_at hl 1 rfl) ?_
              refine lv_bipush (v := 20) hx hb dX1_immediate_57 (by decide) ?_
              refine lv_iconst (v := 5) hx hb dX1_immediate_59 (by decide) ?_
              refine vp_callSi (W.runV (As := [.int 20, .int 5]) (rest := [.int a2, .int a1, .ref y0]) ⟨hx, hb, hml, hown, hts⟩ (c_m_part l dC dI y0 ym yr yg d1 d2 d3 th me rg rs pcv trv vav dnv wv fa wi ne 20 5) (cwV 2 hts (gV mL_X1_33 mI_X1_part mE_X1_part mN_X1 mC_X1_part) rfl rfl rfl (by decide +kernel) ⟨Nat.le_of_ble_eq_true rfl, Nat.le_of_ble_eq_true rfl⟩) ⟨fun a U g mk q => by obtain ⟨q0, qP, qK⟩ := q; exact ⟨q0, qP, va_K.moved (u := U) (U := U.calling g mk a) (Vm.Alike.refl U.vm) qK⟩, va_recv hK hP (ci := 1) (q0 := 0) rfl rfl, fun U hU hW => ⟨rfl, by rw [hU]; exact hP, va_K.moved hW.alike hK⟩⟩ rfl rfl hl.1 rfl (lv_room (Nat.le_of_ble_eq_true rfl)) dX1_immediate_60 ⟨Nat.zero_le _, Nat.zero_le _⟩) (fun r_34 hw => ?_)
              rw [hw]
              clear hw r_34
              refine lv_goto (tgt := 70) hx hb dX1_immediate_63 (by decide) ?_
              refine lv_iload_n hx hb dX1_immediate_70 rfl (lv_at hl 2 rfl) ?_
              refine lv_iconst (v := 5) hx hb dX1_immediate_71 (by decide) ?_
              refine lv_icmp_ne (tgt := 85) hx hb dX1_immediate_72 (by decide) (fun c_35 => ?_) (fun c_35 => ?_)
              · exact absurd c_22 c_35
              · refine lv_iload_n hx hb dX1_immediate_75 rfl (lv_at hl 4 rfl) ?_
                refine lv_bipush (v := 32) hx hb dX1_immediate_76 (by decide) ?_
                refine lv_icmp_ne (tgt := 85) hx hb dX1_immediate_78 (by decide) (fun c_36 => ?_) (fun c_36 => ?_)
                · refine lv_iconst (v := 0) hx hb dX1_immediate_85 (by decide) ?_
                  refine vp_callSi (W.runS (As := [.int a1, .int a2, .int (F_m_part wv 20 5), .int 0]) (rest := [.ref y0]) ⟨hx, hb, hml, hown, hts⟩ (c_m_worked l a1 a2 (F_m_part wv 20 5) 0) (cwS 4 hts (gS mL_X1_95 mS_X1_worked mN_X1 mC_X1_worked) rfl rfl rfl (by decide +kernel) ⟨Nat.le_of_ble_eq_true rfl, Nat.le_of_ble_eq_true rfl⟩) preEq rfl rfl hl.1 rfl (lv_room (Nat.le_of_ble_eq_true rfl)) dX1_immediate_86 ⟨Nat.zero_le _, Nat.zero_le _⟩) (fun r_37 hw => ?_)
                  rw [hw]
                  clear hw r_37
                  have hFc := va_free (wc := [(y0, .inr (1, [.int th, .ref ym, .ref yr, .ref yg, .int pcv, .int trv, .int vav, .int dnv, .int wv, .int fa, .int wi, .int ne])), (ym, .inl (d1, 16384, .inl me)), (yr, .inl (d2, 4, .inl rg)), (yg, .inl (d3, 32, .inl rs))]) hD hS hA [0, 1, 2, 3] rfl
                  refine va_callv (va_runV (As := [.int (F_m_worked a1 a2 (F_m_part wv 20 5) 0)]) (rest := []) ⟨hx, hb, hml, hown, hts⟩ (c_m_put l dC dI y0 ym yr yg d1 d2 d3 s.heap.size th me rg rs pcv trv vav dnv wv fa wi ne (F_m_worked a1 a2 (F_m_part wv 20 5) 0)) (cwV 1 hts (gV mL_X1_67 mI_X1_put mE_X1_put mN_X1 mC_X1_put) rfl rfl rfl (by decide +kernel) ⟨Nat.le_of_ble_eq_true rfl, Nat.le_of_ble_eq_true rfl⟩) ⟨fun a U g mk q => by obtain ⟨q0, q1, qP, qK, qD⟩ := q; exact ⟨q0, q1, qP, va_K.moved (u := U) (U := U.calling g mk a) (Vm.Alike.refl U.vm) qK, qD⟩, va_recv hK hP (ci := 1) (q0 := 0) rfl rfl, fun U hU hW => ⟨rfl, by rw [hU], by rw [hU]; exact hP, va_K.moved hW.alike hK, hD.weaken (fun _ _ _ _ => trivial)⟩⟩ rfl rfl hl.1 rfl (lv_room (Nat.le_of_ble_eq_true rfl)) dX1_immediate_89 ⟨Nat.zero_le _, Nat.zero_le _⟩) hS (fun q _ h => hFc q h) hFc (fun u t H1 locs ht hvm hw hB hz1 hk1 hS => ?_)
                  rw [hw] at hB
                  obtain ⟨hP1, hK1, hD1⟩ := hB
                  rw [ht] at hP1
                  obtain ⟨hP, hD⟩ := va_join (wr := []) (w1 := [(y0, .inr (1, [.int th, .ref ym, .ref yr, .ref yg, .int pcv, .int trv, .int vav, .int dnv, .int wv, .int fa, .int wi, .int ne])), (ym, .inl (d1, 16384, .inl me)), (yr, .inl (d2, 4, .inl rg)), (yg, .inl (d3, 32, .inl (F_m_put wv rs (F_m_worked a1 a2 (F_m_part wv 20 5) 0))))]) hP hD [0, 1, 2, 3] [] rfl rfl (by decide) (by decide) hk1 hFc hP1 hD1
                  generalize H1 = H at hP hS ⊢
                  have hP : va_P (dC, dI) vwCl [(y0, .inr (1, [.int th, .ref ym, .ref yr, .ref yg, .int pcv, .int trv, .int vav, .int dnv, .int wv, .int fa, .int wi, .int ne])), (ym, .inl (d1, 16384, .inl me)), (yr, .inl (d2, 4, .inl rg)), (yg, .inl (d3, 32, .inl (F_m_put wv rs (F_m_worked a1 a2 (F_m_part wv 20 5) 0))))] H := hP
                  have hD : va_D A [(y0, .inr (1, [.int th, .ref ym, .ref yr, .ref yg, .int pcv, .int trv, .int vav, .int dnv, .int wv, .int fa, .int wi, .int ne])), (ym, .inl (d1, 16384, .inl me)), (yr, .inl (d2, 4, .inl rg)), (yg, .inl (d3, 32, .inl (F_m_put wv rs (F_m_worked a1 a2 (F_m_part wv 20 5) 0))))] := hD
                  exact W.vret hx hb hr (fun t ht hW => ⟨⟨(me, F_m_put wv rs (F_m_worked a1 a2 (F_m_part wv 20 5) 0), fa, wi, ne), rfl, (by unfold F_m_immediate; first | (rw [if_neg c_1, if_pos c_22, if_pos c_32, if_neg c_36]; done) | (rw [if_neg c_1, if_pos c_22, if_pos c_32, if_neg c_36]; rfl)), by rw [ht]; exact hP, va_K.moved hW.alike hK, hD⟩, hS.F ht⟩) hS.2.2 dX1_immediate_92
                · refine lv_iconst (v := 1) hx hb dX1_immediate_81 (by decide) ?_
                  refine lv_goto (tgt := 86) hx hb dX1_immediate_82 (by decide) ?_
                  refine vp_callSi (W.runS (As := [.int a1, .int a2, .int (F_m_part wv 20 5), .int 1]) (rest := [.ref y0]) ⟨hx, hb, hml, hown, hts⟩ (c_m_worked l a1 a2 (F_m_part wv 20 5) 1) (cwS 4 hts (gS mL_X1_95 mS_X1_worked mN_X1 mC_X1_worked) rfl rfl rfl (by decide +kernel) ⟨Nat.le_of_ble_eq_true rfl, Nat.le_of_ble_eq_true rfl⟩) preEq rfl rfl hl.1 rfl (lv_room (Nat.le_of_ble_eq_true rfl)) dX1_immediate_86 ⟨Nat.zero_le _, Nat.zero_le _⟩) (fun r_39 hw => ?_)
                  rw [hw]
                  clear hw r_39
                  have hFc := va_free (wc := [(y0, .inr (1, [.int th, .ref ym, .ref yr, .ref yg, .int pcv, .int trv, .int vav, .int dnv, .int wv, .int fa, .int wi, .int ne])), (ym, .inl (d1, 16384, .inl me)), (yr, .inl (d2, 4, .inl rg)), (yg, .inl (d3, 32, .inl rs))]) hD hS hA [0, 1, 2, 3] rfl
                  refine va_callv (va_runV (As := [.int (F_m_worked a1 a2 (F_m_part wv 20 5) 1)]) (rest := []) ⟨hx, hb, hml, hown, hts⟩ (c_m_put l dC dI y0 ym yr yg d1 d2 d3 s.heap.size th me rg rs pcv trv vav dnv wv fa wi ne (F_m_worked a1 a2 (F_m_part wv 20 5) 1)) (cwV 1 hts (gV mL_X1_67 mI_X1_put mE_X1_put mN_X1 mC_X1_put) rfl rfl rfl (by decide +kernel) ⟨Nat.le_of_ble_eq_true rfl, Nat.le_of_ble_eq_true rfl⟩) ⟨fun a U g mk q => by obtain ⟨q0, q1, qP, qK, qD⟩ := q; exact ⟨q0, q1, qP, va_K.moved (u := U) (U := U.calling g mk a) (Vm.Alike.refl U.vm) qK, qD⟩, va_recv hK hP (ci := 1) (q0 := 0) rfl rfl, fun U hU hW => ⟨rfl, by rw [hU], by rw [hU]; exact hP, va_K.moved hW.alike hK, hD.weaken (fun _ _ _ _ => trivial)⟩⟩ rfl rfl hl.1 rfl (lv_room (Nat.le_of_ble_eq_true rfl)) dX1_immediate_89 ⟨Nat.zero_le _, Nat.zero_le _⟩) hS (fun q _ h => hFc q h) hFc (fun u t H1 locs ht hvm hw hB hz1 hk1 hS => ?_)
                  rw [hw] at hB
                  obtain ⟨hP1, hK1, hD1⟩ := hB
                  rw [ht] at hP1
                  obtain ⟨hP, hD⟩ := va_join (wr := []) (w1 := [(y0, .inr (1, [.int th, .ref ym, .ref yr, .ref yg, .int pcv, .int trv, .int vav, .int dnv, .int wv, .int fa, .int wi, .int ne])), (ym, .inl (d1, 16384, .inl me)), (yr, .inl (d2, 4, .inl rg)), (yg, .inl (d3, 32, .inl (F_m_put wv rs (F_m_worked a1 a2 (F_m_part wv 20 5) 1))))]) hP hD [0, 1, 2, 3] [] rfl rfl (by decide) (by decide) hk1 hFc hP1 hD1
                  generalize H1 = H at hP hS ⊢
                  have hP : va_P (dC, dI) vwCl [(y0, .inr (1, [.int th, .ref ym, .ref yr, .ref yg, .int pcv, .int trv, .int vav, .int dnv, .int wv, .int fa, .int wi, .int ne])), (ym, .inl (d1, 16384, .inl me)), (yr, .inl (d2, 4, .inl rg)), (yg, .inl (d3, 32, .inl (F_m_put wv rs (F_m_worked a1 a2 (F_m_part wv 20 5) 1))))] H := hP
                  have hD : va_D A [(y0, .inr (1, [.int th, .ref ym, .ref yr, .ref yg, .int pcv, .int trv, .int vav, .int dnv, .int wv, .int fa, .int wi, .int ne])), (ym, .inl (d1, 16384, .inl me)), (yr, .inl (d2, 4, .inl rg)), (yg, .inl (d3, 32, .inl (F_m_put wv rs (F_m_worked a1 a2 (F_m_part wv 20 5) 1))))] := hD
                  exact W.vret hx hb hr (fun t ht hW => ⟨⟨(me, F_m_put wv rs (F_m_worked a1 a2 (F_m_part wv 20 5) 1), fa, wi, ne), rfl, (by unfold F_m_immediate; first | (rw [if_neg c_1, if_pos c_22, if_pos c_32, if_pos c_36]; done) | (rw [if_neg c_1, if_pos c_22, if_pos c_32, if_pos c_36]; rfl)), by rw [ht]; exact hP, va_K.moved hW.alike hK, hD⟩, hS.F ht⟩) hS.2.2 dX1_immediate_92
          · refine lv_iload_n hx hb dX1_immediate_35 rfl (lv_at hl 4 rfl) ?_
            refine lv_bipush (v := 32) hx hb dX1_immediate_36 (by decide) ?_
            refine lv_icmp_eq (tgt := 48) hx hb dX1_immediate_38 (by decide) (fun c_41 => ?_) (fun c_41 => ?_)
            · refine lv_aload_n hx hb dX1_immediate_48 rfl (lv_at hl 1 rfl) ?_
              refine lv_iload_n hx hb dX1_immediate_49 rfl (lv_at hl 2 rfl) ?_
              refine lv_iload_n hx hb dX1_immediate_50 rfl (lv_at hl 3 rfl) ?_
              refine lv_iload hx hb dX1_immediate_51 (lv_at hl 0 rfl) ?_
              refine lv_if_eq (tgt := 66) hx hb dX1_immediate_53 (by decide) (fun c_42 => ?_) (fun c_42 => ?_)
              · exact absurd c_42 (by decide)
              · refine lv_aload_n hx hb dX1_immediate_56 rfl (lv_at hl 1 rfl) ?_
                refine lv_bipush (v := 20) hx hb dX1_immediate_57 (by decide) ?_
                refine lv_iconst (v := 5) hx hb dX1_immediate_59 (by decide) ?_
                refine vp_callSi (W.runV (As := [.int 20, .int 5]) (rest := [.int a2, .int a1, .ref y0]) ⟨hx, hb, hml, hown, hts⟩ (c_m_part l dC dI y0 ym yr yg d1 d2 d3 th me rg rs pcv trv vav dnv wv fa wi ne 20 5) (cwV 2 hts (gV mL_X1_33 mI_X1_part mE_X1_part mN_X1 mC_X1_part) rfl rfl rfl (by decide +kernel) ⟨Nat.le_of_ble_eq_true rfl, Nat.le_of_ble_eq_true rfl⟩) ⟨fun a U g mk q => by obtain ⟨q0, qP, qK⟩ := q; exact ⟨q0, qP, va_K.moved (u := U) (U := U.calling g mk a) (Vm.Alike.refl U.vm) qK⟩, va_recv hK hP (ci := 1) (q0 := 0) rfl rfl, fun U hU hW => ⟨rfl, by rw [hU]; exact hP, va_K.moved hW.alike hK⟩⟩ rfl rfl hl.1 rfl (lv_room (Nat.le_of_ble_eq_true rfl)) dX1_immediate_60 ⟨Nat.zero_le _, Nat.zero_le _⟩) (fun r_43 hw => ?_)
                rw [hw]
                clear hw r_43
                refine lv_goto (tgt := 70) hx hb dX1_immediate_63 (by decide) ?_
                refine lv_iload_n hx hb dX1_immediate_70 rfl (lv_at hl 2 rfl) ?_
                refine lv_iconst (v := 5) hx hb dX1_immediate_71 (by decide) ?_
                refine lv_icmp_ne (tgt := 85) hx hb dX1_immediate_72 (by decide) (fun c_44 => ?_) (fun c_44 => ?_)
                · exact absurd c_22 c_44
                · refine lv_iload_n hx hb dX1_immediate_75 rfl (lv_at hl 4 rfl) ?_
                  refine lv_bipush (v := 32) hx hb dX1_immediate_76 (by decide) ?_
                  refine lv_icmp_ne (tgt := 85) hx hb dX1_immediate_78 (by decide) (fun c_45 => ?_) (fun c_45 => ?_)
                  · exact absurd c_41 c_45
                  · refine lv_iconst (v := 1) hx hb dX1_immediate_81 (by decide) ?_
                    refine lv_goto (tgt := 86) hx hb dX1_immediate_82 (by decide) ?_
                    refine vp_callSi (W.runS (As := [.int a1, .int a2, .int (F_m_part wv 20 5), .int 1]) (rest := [.ref y0]) ⟨hx, hb, hml, hown, hts⟩ (c_m_worked l a1 a2 (F_m_part wv 20 5) 1) (cwS 4 hts (gS mL_X1_95 mS_X1_worked mN_X1 mC_X1_worked) rfl rfl rfl (by decide +kernel) ⟨Nat.le_of_ble_eq_true rfl, Nat.le_of_ble_eq_true rfl⟩) preEq rfl rfl hl.1 rfl (lv_room (Nat.le_of_ble_eq_true rfl)) dX1_immediate_86 ⟨Nat.zero_le _, Nat.zero_le _⟩) (fun r_46 hw => ?_)
                    rw [hw]
                    clear hw r_46
                    have hFc := va_free (wc := [(y0, .inr (1, [.int th, .ref ym, .ref yr, .ref yg, .int pcv, .int trv, .int vav, .int dnv, .int wv, .int fa, .int wi, .int ne])), (ym, .inl (d1, 16384, .inl me)), (yr, .inl (d2, 4, .inl rg)), (yg, .inl (d3, 32, .inl rs))]) hD hS hA [0, 1, 2, 3] rfl
                    refine va_callv (va_runV (As := [.int (F_m_worked a1 a2 (F_m_part wv 20 5) 1)]) (rest := []) ⟨hx, hb, hml, hown, hts⟩ (c_m_put l dC dI y0 ym yr yg d1 d2 d3 s.heap.size th me rg rs pcv trv vav dnv wv fa wi ne (F_m_worked a1 a2 (F_m_part wv 20 5) 1)) (cwV 1 hts (gV mL_X1_67 mI_X1_put mE_X1_put mN_X1 mC_X1_put) rfl rfl rfl (by decide +kernel) ⟨Nat.le_of_ble_eq_true rfl, Nat.le_of_ble_eq_true rfl⟩) ⟨fun a U g mk q => by obtain ⟨q0, q1, qP, qK, qD⟩ := q; exact ⟨q0, q1, qP, va_K.moved (u := U) (U := U.calling g mk a) (Vm.Alike.refl U.vm) qK, qD⟩, va_recv hK hP (ci := 1) (q0 := 0) rfl rfl, fun U hU hW => ⟨rfl, by rw [hU], by rw [hU]; exact hP, va_K.moved hW.alike hK, hD.weaken (fun _ _ _ _ => trivial)⟩⟩ rfl rfl hl.1 rfl (lv_room (Nat.le_of_ble_eq_true rfl)) dX1_immediate_89 ⟨Nat.zero_le _, Nat.zero_le _⟩) hS (fun q _ h => hFc q h) hFc (fun u t H1 locs ht hvm hw hB hz1 hk1 hS => ?_)
                    rw [hw] at hB
                    obtain ⟨hP1, hK1, hD1⟩ := hB
                    rw [ht] at hP1
                    obtain ⟨hP, hD⟩ := va_join (wr := []) (w1 := [(y0, .inr (1, [.int th, .ref ym, .ref yr, .ref yg, .int pcv, .int trv, .int vav, .int dnv, .int wv, .int fa, .int wi, .int ne])), (ym, .inl (d1, 16384, .inl me)), (yr, .inl (d2, 4, .inl rg)), (yg, .inl (d3, 32, .inl (F_m_put wv rs (F_m_worked a1 a2 (F_m_part wv 20 5) 1))))]) hP hD [0, 1, 2, 3] [] rfl rfl (by decide) (by decide) hk1 hFc hP1 hD1
                    generalize H1 = H at hP hS ⊢
                    have hP : va_P (dC, dI) vwCl [(y0, .inr (1, [.int th, .ref ym, .ref yr, .ref yg, .int pcv, .int trv, .int vav, .int dnv, .int wv, .int fa, .int wi, .int ne])), (ym, .inl (d1, 16384, .inl me)), (yr, .inl (d2, 4, .inl rg)), (yg, .inl (d3, 32, .inl (F_m_put wv rs (F_m_worked a1 a2 (F_m_part wv 20 5) 1))))] H := hP
                    have hD : va_D A [(y0, .inr (1, [.int th, .ref ym, .ref yr, .ref yg, .int pcv, .int trv, .int vav, .int dnv, .int wv, .int fa, .int wi, .int ne])), (ym, .inl (d1, 16384, .inl me)), (yr, .inl (d2, 4, .inl rg)), (yg, .inl (d3, 32, .inl (F_m_put wv rs (F_m_worked a1 a2 (F_m_part wv 20 5) 1))))] := hD
                    exact W.vret hx hb hr (fun t ht hW => ⟨⟨(me, F_m_put wv rs (F_m_worked a1 a2 (F_m_part wv 20 5) 1), fa, wi, ne), rfl, (by unfold F_m_immediate; first | (rw [if_neg c_1, if_pos c_22, if_neg c_32, if_pos c_41]; done) | (rw [if_neg c_1, if_pos c_22, if_neg c_32, if_pos c_41]; rfl)), by rw [ht]; exact hP, va_K.moved hW.alike hK, hD⟩, hS.F ht⟩) hS.2.2 dX1_immediate_92
            · refine lv_aload_n hx hb dX1_immediate_41 rfl (lv_at hl 1 rfl) ?_
              have hFc := va_free (wc := [(y0, .inr (1, [.int th, .ref ym, .ref yr, .ref yg, .int pcv, .int trv, .int vav, .int dnv, .int wv, .int fa, .int wi, .int ne])), (ym, .inl (d1, 16384, .inl me)), (yr, .inl (d2, 4, .inl rg)), (yg, .inl (d3, 32, .inl rs))]) hD hS hA [0, 1, 2, 3] rfl
              refine va_callv (va_runV (As := []) (rest := []) ⟨hx, hb, hml, hown, hts⟩ (c_m_strange l dC dI y0 ym yr yg d1 d2 d3 s.heap.size th me rg rs pcv trv vav dnv wv fa wi ne) (cwV 0 hts (gV mL_X1_71 mI_X1_strange mE_X1_strange mN_X1 mC_X1_strange) rfl rfl rfl (by decide +kernel) ⟨Nat.le_of_ble_eq_true rfl, Nat.le_of_ble_eq_true rfl⟩) ⟨fun a U g mk q => by obtain ⟨q0, q1, qP, qK, qD⟩ := q; exact ⟨q0, q1, qP, va_K.moved (u := U) (U := U.calling g mk a) (Vm.Alike.refl U.vm) qK, qD⟩, va_recv hK hP (ci := 1) (q0 := 0) rfl rfl, fun U hU hW => ⟨rfl, by rw [hU], by rw [hU]; exact hP, va_K.moved hW.alike hK, hD.weaken (fun _ _ _ _ => trivial)⟩⟩ rfl rfl hl.1 rfl (lv_room (Nat.le_of_ble_eq_true rfl)) dX1_immediate_42 ⟨Nat.zero_le _, Nat.zero_le _⟩) hS (fun q _ h => hFc q h) hFc (fun u t H1 locs ht hvm hw hB hz1 hk1 hS => ?_)
              rw [hw] at hB
              obtain ⟨hP1, hK1, hD1⟩ := hB
              rw [ht] at hP1
              obtain ⟨hP, hD⟩ := va_join (wr := []) (w1 := [(y0, .inr (1, [.int th, .ref ym, .ref yr, .ref yg, .int pcv, .int trv, .int vav, .int dnv, .int wv, .int ((F_m_strange wv).1), .int ((F_m_strange wv).2), .int ne])), (ym, .inl (d1, 16384, .inl me)), (yr, .inl (d2, 4, .inl rg)), (yg, .inl (d3, 32, .inl rs))]) hP hD [0, 1, 2, 3] [] rfl rfl (by decide) (by decide) hk1 hFc hP1 hD1
              generalize H1 = H at hP hS ⊢
              have hP : va_P (dC, dI) vwCl [(y0, .inr (1, [.int th, .ref ym, .ref yr, .ref yg, .int pcv, .int trv, .int vav, .int dnv, .int wv, .int ((F_m_strange wv).1), .int ((F_m_strange wv).2), .int ne])), (ym, .inl (d1, 16384, .inl me)), (yr, .inl (d2, 4, .inl rg)), (yg, .inl (d3, 32, .inl rs))] H := hP
              have hD : va_D A [(y0, .inr (1, [.int th, .ref ym, .ref yr, .ref yg, .int pcv, .int trv, .int vav, .int dnv, .int wv, .int ((F_m_strange wv).1), .int ((F_m_strange wv).2), .int ne])), (ym, .inl (d1, 16384, .inl me)), (yr, .inl (d2, 4, .inl rg)), (yg, .inl (d3, 32, .inl rs))] := hD
              refine lv_goto (tgt := 92) hx hb dX1_immediate_45 (by decide) ?_
              exact W.vret hx hb hr (fun t ht hW => ⟨⟨(me, rs, (F_m_strange wv).1, (F_m_strange wv).2, ne), rfl, (by unfold F_m_immediate; first | (rw [if_neg c_1, if_pos c_22, if_neg c_32, if_neg c_41]; done) | (rw [if_neg c_1, if_pos c_22, if_neg c_32, if_neg c_41]; rfl)), by rw [ht]; exact hP, va_K.moved hW.alike hK, hD⟩, hS.F ht⟩) hS.2.2 dX1_immediate_92
      · exact absurd c_30 c_1
def F_m_both (me : Nat → Int32) (rg : Nat → Int32) (rs : Nat → Int32) (pcv : Int32) (wv : Int32) (fa : Int32) (wi : Int32) (ne : Int32) (a1 : Int32) (a2 : Int32) (a3 : Int32) (a4 : Int32) : (Nat → Int32) × (Nat → Int32) × Int32 × Int32 × Int32 :=
  if a4 = 1 then
    (me, F_m_put wv rs (F_m_multiplied a1 a2 a3), fa, wi, ne)
  else
    if a4 = 0 then
      if a4 = 32 then
        (me, F_m_put wv rs (F_m_worked a1 a2 a3 1), fa, wi, ne)
      else
        (me, F_m_put wv rs (F_m_worked a1 a2 a3 0), fa, wi, ne)
    else
      if a4 = 32 then
        if a1 = 0 then
          (me, F_m_put wv rs (F_m_worked a1 a2 a3 1), fa, wi, ne)
        else
          if a1 = 5 then
            (me, F_m_put wv rs (F_m_worked a1 a2 a3 1), fa, wi, ne)
          else
            (me, rs, (F_m_strange wv).1, (F_m_strange wv).2, ne)
      else
        (me, rs, (F_m_strange wv).1, (F_m_strange wv).2, ne)
set_option maxHeartbeats 4000000 in
set_option maxRecDepth 100000 in
theorem c_m_both (l : Launch) (dC : Nat → ClassId) (dI : Nat → Nat → Nat) (y0 ym yr yg : Nat) (d1 d2 d3 : ClassId) (sz : Nat) (th : Int32) (me : Nat → Int32) (rg : Nat → Int32) (rs : Nat → Int32) (pcv : Int32) (trv : Int32) (vav : Int32) (dnv : Int32) (wv : Int32) (fa : Int32) (wi : Int32) (ne : Int32) (a1 : Int32) (a2 : Int32) (a3 : Int32) (a4 : Int32)  : Met l yX1_both wsX1_both ({ frames := 4, cells := 0, slots := 0, locals := 99 }) (va_Pc [.ref y0, .int a1, .int a2, .int a3, .int a4] (fun U => U.heap.size = sz ∧ va_P (dC, dI) vwCl [(y0, .inr (1, [.int th, .ref ym, .ref yr, .ref yg, .int pcv, .int trv, .int vav, .int dnv, .int wv, .int fa, .int wi, .int ne])), (ym, .inl (d1, 16384, .inl me)), (yr, .inl (d2, 4, .inl rg)), (yg, .inl (d3, 32, .inl rs))] U.heap ∧ va_K (dC, dI) vwCl [(d1, .byte), (d2, .int), (d3, .int)] U ∧ va_D (fun _ => True) [(y0, .inr (1, [.int th, .ref ym, .ref yr, .ref yg, .int pcv, .int trv, .int vav, .int dnv, .int wv, .int fa, .int wi, .int ne])), (ym, .inl (d1, 16384, .inl me)), (yr, .inl (d2, 4, .inl rg)), (yg, .inl (d3, 32, .inl rs))])) (va_Qv (fun u : (Nat → Int32) × (Nat → Int32) × Int32 × Int32 × Int32 => u = F_m_both me rg rs pcv wv fa wi ne a1 a2 a3 a4) (fun (u : (Nat → Int32) × (Nat → Int32) × Int32 × Int32 × Int32) (t : State) => va_P (dC, dI) vwCl [(y0, .inr (1, [.int th, .ref ym, .ref yr, .ref yg, .int pcv, .int trv, .int vav, .int dnv, .int wv, .int u.2.2.1, .int u.2.2.2.1, .int u.2.2.2.2])), (ym, .inl (d1, 16384, .inl u.1)), (yr, .inl (d2, 4, .inl rg)), (yg, .inl (d3, 32, .inl u.2.1))] t.heap ∧ va_K (dC, dI) vwCl [(d1, .byte), (d2, .int), (d3, .int)] t ∧ va_D (va_A [(y0, .inr (1, [.int th, .ref ym, .ref yr, .ref yg, .int pcv, .int trv, .int vav, .int dnv, .int wv, .int fa, .int wi, .int ne])), (ym, .inl (d1, 16384, .inl me)), (yr, .inl (d2, 4, .inl rg)), (yg, .inl (d3, 32, .inl rs))] sz) [(y0, .inr (1, [.int th, .ref ym, .ref yr, .ref yg, .int pcv, .int trv, .int vav, .int dnv, .int wv, .int u.2.2.1, .int u.2.2.2.1, .int u.2.2.2.2])), (ym, .inl (d1, 16384, .inl u.1)), (yr, .inl (d2, 4, .inl rg)), (yg, .inl (d3, 32, .inl u.2.1))]) (va_A [(y0, .inr (1, [.int th, .ref ym, .ref yr, .ref yg, .int pcv, .int trv, .int vav, .int dnv, .int wv, .int fa, .int wi, .int ne])), (ym, .inl (d1, 16384, .inl me)), (yr, .inl (d2, 4, .inl rg)), (yg, .inl (d3, 32, .inl rs))] sz)) 0 0 (va_A [(y0, .inr (1, [.int th, .ref ym, .ref yr, .ref yg, .int pcv, .int trv, .int vav, .int dnv, .int wv, .int fa, .int wi, .int ne])), (ym, .inl (d1, 16384, .inl me)), (yr, .inl (d2, 4, .inl rg)), (yg, .inl (d3, 32, .inl rs))] sz) := by
  refine Met.ofW (cc := cX1_both) (maxL := 5) (ret := none) (by decide) rfl ?_
  intro p e s m args below meth c s₁ B hml hv
  obtain ⟨rfl, hsz, hP, hK, hD0⟩ := hv
  have hx := B.exec
  have hb := B.bytes
  have hr := B.returns
  have hts := atoms_spec (ws := wsX1_both) B.pre
  have hown : s.vm.findClass RX1 = some m.cls := findClass_of_methodNamed B.named
  have hlocks := B.notSynchronized
  subst hsz
  have hD := hD0.self (sz := s.heap.size)
  generalize hAe : va_A [(y0, .inr (1, [.int th, .ref ym, .ref yr, .ref yg, .int pcv, .int trv, .int vav, .int dnv, .int wv, .int fa, .int wi, .int ne])), (ym, .inl (d1, 16384, .inl me)), (yr, .inl (d2, 4, .inl rg)), (yg, .inl (d3, 32, .inl rs))] s.heap.size = A at hD ⊢
  have hA : ∀ q : Nat, s.heap.size ≤ q → A q := fun q h => by rw [← hAe]; exact Or.inr h
  have hS : va_S A s.heap s.heap [] := va_S.rf
  have hP : va_P (dC, dI) vwCl [(y0, .inr (1, [.int th, .ref ym, .ref yr, .ref yg, .int pcv, .int trv, .int vav, .int dnv, .int wv, .int fa, .int wi, .int ne])), (ym, .inl (d1, 16384, .inl me)), (yr, .inl (d2, 4, .inl rg)), (yg, .inl (d3, 32, .inl rs))] s.heap := hP
  have hl := lv_entry ([.ref y0, .int a1, .int a2, .int a3, .int a4]) (n := 5) (Nat.le_of_ble_eq_true rfl)
  rw [lg_entry_eq]
  generalize (lg_sl ([.ref y0, .int a1, .int a2, .int a3, .int a4]) ++ List.replicate (5 - (lg_sl ([.ref y0, .int a1, .int a2, .int a3, .int a4])).length) Slot.unset).toArray = ls at hl ⊢
  have hl : lv_has ls 5 [(0, .ref y0), (1, .int a1), (2, .int a2), (3, .int a3), (4, .int a4)] := hl
  refine lv_iload hx hb dX1_both_0 (lv_at hl 4 rfl) ?_
  refine lv_iconst (v := 1) hx hb dX1_both_2 (by decide) ?_
  refine lv_icmp_ne (tgt := 19) hx hb dX1_both_3 (by decide) (fun c_1 => ?_) (fun c_1 => ?_)
  · refine lv_iload hx hb dX1_both_19 (lv_at hl 4 rfl) ?_
    refine lv_if_eq (tgt := 40) hx hb dX1_both_21 (by decide) (fun c_2 => ?_) (fun c_2 => ?_)
    · refine lv_aload_n hx hb dX1_both_40 rfl (lv_at hl 0 rfl) ?_
      refine lv_iload_n hx hb dX1_both_41 rfl (lv_at hl 1 rfl) ?_
      refine lv_iload_n hx hb dX1_both_42 rfl (lv_at hl 2 rfl) ?_
      refine lv_iload_n hx hb dX1_both_43 rfl (lv_at hl 3 rfl) ?_
      refine lv_iload hx hb dX1_both_44 (lv_at hl 4 rfl) ?_
      refine lv_bipush (v := 32) hx hb dX1_both_46 (by decide) ?_
      refine lv_icmp_ne (tgt := 55) hx hb dX1_both_48 (by decide) (fun c_3 => ?_) (fun c_3 => ?_)
      · refine lv_iconst (v := 0) hx hb dX1_both_55 (by decide) ?_
        refine vp_callSi (W.runS (As := [.int a1, .int a2, .int a3, .int 0]) (rest := [.ref y0]) ⟨hx, hb, hml, hown, hts⟩ (c_m_worked l a1 a2 a3 0) (cwS 4 hts (gS mL_X1_95 mS_X1_worked mN_X1 mC_X1_worked) rfl rfl rfl (by decide +kernel) ⟨Nat.le_of_ble_eq_true rfl, Nat.le_of_ble_eq_true rfl⟩) preEq rfl rfl hl.1 rfl (lv_room (Nat.le_of_ble_eq_true rfl)) dX1_both_56 ⟨Nat.zero_le _, Nat.zero_le _⟩) (fun r_4 hw => ?_)
        rw [hw]
        clear hw r_4
        have hFc := va_free (wc := [(y0, .inr (1, [.int th, .ref ym, .ref yr, .ref yg, .int pcv, .int trv, .int vav, .int dnv, .int wv, .int fa, .int wi, .int ne])), (ym, .inl (d1, 16384, .inl me)), (yr, .inl (d2, 4, .inl rg)), (yg, .inl (d3, 32, .inl rs))]) hD hS hA [0, 1, 2, 3] rfl
        refine va_callv (va_runV (As := [.int (F_m_worked a1 a2 a3 0)]) (rest := []) ⟨hx, hb, hml, hown, hts⟩ (c_m_put l dC dI y0 ym yr yg d1 d2 d3 s.heap.size th me rg rs pcv trv vav dnv wv fa wi ne (F_m_worked a1 a2 a3 0)) (cwV 1 hts (gV mL_X1_67 mI_X1_put mE_X1_put mN_X1 mC_X1_put) rfl rfl rfl (by decide +kernel) ⟨Nat.le_of_ble_eq_true rfl, Nat.le_of_ble_eq_true rfl⟩) ⟨fun a U g mk q => by obtain ⟨q0, q1, qP, qK, qD⟩ := q; exact ⟨q0, q1, qP, va_K.moved (u := U) (U := U.calling g mk a) (Vm.Alike.refl U.vm) qK, qD⟩, va_recv hK hP (ci := 1) (q0 := 0) rfl rfl, fun U hU hW => ⟨rfl, by rw [hU], by rw [hU]; exact hP, va_K.moved hW.alike hK, hD.weaken (fun _ _ _ _ => trivial)⟩⟩ rfl rfl hl.1 rfl (lv_room (Nat.le_of_ble_eq_true rfl)) dX1_both_59 ⟨Nat.zero_le _, Nat.zero_le _⟩) hS (fun q _ h => hFc q h) hFc (fun u t H1 locs ht hvm hw hB hz1 hk1 hS => ?_)
        rw [hw] at hB
        obtain ⟨hP1, hK1, hD1⟩ := hB
        rw [ht] at hP1
        obtain ⟨hP, hD⟩ := va_join (wr := []) (w1 := [(y0, .inr (1, [.int th, .ref ym, .ref yr, .ref yg, .int pcv, .int trv, .int vav, .int dnv, .int wv, .int fa, .int wi, .int ne])), (ym, .inl (d1, 16384, .inl me)), (yr, .inl (d2, 4, .inl rg)), (yg, .inl (d3, 32, .inl (F_m_put wv rs (F_m_worked a1 a2 a3 0))))]) hP hD [0, 1, 2, 3] [] rfl rfl (by decide) (by decide) hk1 hFc hP1 hD1
        generalize H1 = H at hP hS ⊢
        have hP : va_P (dC, dI) vwCl [(y0, .inr (1, [.int th, .ref ym, .ref yr, .ref yg, .int pcv, .int trv, .int vav, .int dnv, .int wv, .int fa, .int wi, .int ne])), (ym, .inl (d1, 16384, .inl me)), (yr, .inl (d2, 4, .inl rg)), (yg, .inl (d3, 32, .inl (F_m_put wv rs (F_m_worked a1 a2 a3 0))))] H := hP
        have hD : va_D A [(y0, .inr (1, [.int th, .ref ym, .ref yr, .ref yg, .int pcv, .int trv, .int vav, .int dnv, .int wv, .int fa, .int wi, .int ne])), (ym, .inl (d1, 16384, .inl me)), (yr, .inl (d2, 4, .inl rg)), (yg, .inl (d3, 32, .inl (F_m_put wv rs (F_m_worked a1 a2 a3 0))))] := hD
        refine lv_goto (tgt := 69) hx hb dX1_both_62 (by decide) ?_
        exact W.vret hx hb hr (fun t ht hW => ⟨⟨(me, F_m_put wv rs (F_m_worked a1 a2 a3 0), fa, wi, ne), rfl, (by unfold F_m_both; first | (rw [if_neg c_1, if_pos c_2, if_neg c_3]; done) | (rw [if_neg c_1, if_pos c_2, if_neg c_3]; rfl)), by rw [ht]; exact hP, va_K.moved hW.alike hK, hD⟩, hS.F ht⟩) hS.2.2 dX1_both_69
      · refine lv_iconst (v := 1) hx hb dX1_both_51 (by decide) ?_
        refine lv_goto (tgt := 56) hx hb dX1_both_52 (by decide) ?_
        refine vp_callSi (W.runS (As := [.int a1, .int a2, .int a3, .int 1]) (rest := [.ref y0]) ⟨hx, hb, hml, hown, hts⟩ (c_m_worked l a1 a2 a3 1) (cwS 4 hts (gS mL_X1_95 mS_X1_worked mN_X1 mC_X1_worked) rfl rfl rfl (by decide +kernel) ⟨Nat.le_of_ble_eq_true rfl, Nat.le_of_ble_eq_true rfl⟩) preEq rfl rfl hl.1 rfl (lv_room (Nat.le_of_ble_eq_true rfl)) dX1_both_56 ⟨Nat.zero_le _, Nat.zero_le _⟩) (fun r_6 hw => ?_)
        rw [hw]
        clear hw r_6
        have hFc := va_free (wc := [(y0, .inr (1, [.int th, .ref ym, .ref yr, .ref yg, .int pcv, .int trv, .int vav, .int dnv, .int wv, .int fa, .int wi, .int ne])), (ym, .inl (d1, 16384, .inl me)), (yr, .inl (d2, 4, .inl rg)), (yg, .inl (d3, 32, .inl rs))]) hD hS hA [0, 1, 2, 3] rfl
        refine va_callv (va_runV (As := [.int (F_m_worked a1 a2 a3 1)]) (rest := []) ⟨hx, hb, hml, hown, hts⟩ (c_m_put l dC dI y0 ym yr yg d1 d2 d3 s.heap.size th me rg rs pcv trv vav dnv wv fa wi ne (F_m_worked a1 a2 a3 1)) (cwV 1 hts (gV mL_X1_67 mI_X1_put mE_X1_put mN_X1 mC_X1_put) rfl rfl rfl (by decide +kernel) ⟨Nat.le_of_ble_eq_true rfl, Nat.le_of_ble_eq_true rfl⟩) ⟨fun a U g mk q => by obtain ⟨q0, q1, qP, qK, qD⟩ := q; exact ⟨q0, q1, qP, va_K.moved (u := U) (U := U.calling g mk a) (Vm.Alike.refl U.vm) qK, qD⟩, va_recv hK hP (ci := 1) (q0 := 0) rfl rfl, fun U hU hW => ⟨rfl, by rw [hU], by rw [hU]; exact hP, va_K.moved hW.alike hK, hD.weaken (fun _ _ _ _ => trivial)⟩⟩ rfl rfl hl.1 rfl (lv_room (Nat.le_of_ble_eq_true rfl)) dX1_both_59 ⟨Nat.zero_le _, Nat.zero_le _⟩) hS (fun q _ h => hFc q h) hFc (fun u t H1 locs ht hvm hw hB hz1 hk1 hS => ?_)
        rw [hw] at hB
        obtain ⟨hP1, hK1, hD1⟩ := hB
        rw [ht] at hP1
        obtain ⟨hP, hD⟩ := va_join (wr := []) (w1 := [(y0, .inr (1, [.int th, .ref ym, .ref yr, .ref yg, .int pcv, .int trv, .int vav, .int dnv, .int wv, .int fa, .int wi, .int ne])), (ym, .inl (d1, 16384, .inl me)), (yr, .inl (d2, 4, .inl rg)), (yg, .inl (d3, 32, .inl (F_m_put wv rs (F_m_worked a1 a2 a3 1))))]) hP hD [0, 1, 2, 3] [] rfl rfl (by decide) (by decide) hk1 hFc hP1 hD1
        generalize H1 = H at hP hS ⊢
        have hP : va_P (dC, dI) vwCl [(y0, .inr (1, [.int th, .ref ym, .ref yr, .ref yg, .int pcv, .int trv, .int vav, .int dnv, .int wv, .int fa, .int wi, .int ne])), (ym, .inl (d1, 16384, .inl me)), (yr, .inl (d2, 4, .inl rg)), (yg, .inl (d3, 32, .inl (F_m_put wv rs (F_m_worked a1 a2 a3 1))))] H := hP
        have hD : va_D A [(y0, .inr (1, [.int th, .ref ym, .ref yr, .ref yg, .int pcv, .int trv, .int vav, .int dnv, .int wv, .int fa, .int wi, .int ne])), (ym, .inl (d1, 16384, .inl me)), (yr, .inl (d2, 4, .inl rg)), (yg, .inl (d3, 32, .inl (F_m_put wv rs (F_m_worked a1 a2 a3 1))))] := hD
        refine lv_goto (tgt := 69) hx hb dX1_both_62 (by decide) ?_
        exact W.vret hx hb hr (fun t ht hW => ⟨⟨(me, F_m_put wv rs (F_m_worked a1 a2 a3 1), fa, wi, ne), rfl, (by unfold F_m_both; first | (rw [if_neg c_1, if_pos c_2, if_pos c_3]; done) | (rw [if_neg c_1, if_pos c_2, if_pos c_3]; rfl)), by rw [ht]; exact hP, va_K.moved hW.alike hK, hD⟩, hS.F ht⟩) hS.2.2 dX1_both_69
    · refine lv_iload hx hb dX1_both_24 (lv_at hl 4 rfl) ?_
      refine lv_bipush (v := 32) hx hb dX1_both_26 (by decide) ?_
      refine lv_icmp_ne (tgt := 65) hx hb dX1_both_28 (by decide) (fun c_8 => ?_) (fun c_8 => ?_)
      · refine lv_aload_n hx hb dX1_both_65 rfl (lv_at hl 0 rfl) ?_
        have hFc := va_free (wc := [(y0, .inr (1, [.int th, .ref ym, .ref yr, .ref yg, .int pcv, .int trv, .int vav, .int dnv, .int wv, .int fa, .int wi, .int ne])), (ym, .inl (d1, 16384, .inl me)), (yr, .inl (d2, 4, .inl rg)), (yg, .inl (d3, 32, .inl rs))]) hD hS hA [0, 1, 2, 3] rfl
        refine va_callv (va_runV (As := []) (rest := []) ⟨hx, hb, hml, hown, hts⟩ (c_m_strange l dC dI y0 ym yr yg d1 d2 d3 s.heap.size th me rg rs pcv trv vav dnv wv fa wi ne) (cwV 0 hts (gV mL_X1_71 mI_X1_strange mE_X1_strange mN_X1 mC_X1_strange) rfl rfl rfl (by decide +kernel) ⟨Nat.le_of_ble_eq_true rfl, Nat.le_of_ble_eq_true rfl⟩) ⟨fun a U g mk q => by obtain ⟨q0, q1, qP, qK, qD⟩ := q; exact ⟨q0, q1, qP, va_K.moved (u := U) (U := U.calling g mk a) (Vm.Alike.refl U.vm) qK, qD⟩, va_recv hK hP (ci := 1) (q0 := 0) rfl rfl, fun U hU hW => ⟨rfl, by rw [hU], by rw [hU]; exact hP, va_K.moved hW.alike hK, hD.weaken (fun _ _ _ _ => trivial)⟩⟩ rfl rfl hl.1 rfl (lv_room (Nat.le_of_ble_eq_true rfl)) dX1_both_66 ⟨Nat.zero_le _, Nat.zero_le _⟩) hS (fun q _ h => hFc q h) hFc (fun u t H1 locs ht hvm hw hB hz1 hk1 hS => ?_)
        rw [hw] at hB
        obtain ⟨hP1, hK1, hD1⟩ := hB
        rw [ht] at hP1
        obtain ⟨hP, hD⟩ := va_join (wr := []) (w1 := [(y0, .inr (1, [.int th, .ref ym, .ref yr, .ref yg, .int pcv, .int trv, .int vav, .int dnv, .int wv, .int ((F_m_strange wv).1), .int ((F_m_strange wv).2), .int ne])), (ym, .inl (d1, 16384, .inl me)), (yr, .inl (d2, 4, .inl rg)), (yg, .inl (d3, 32, .inl rs))]) hP hD [0, 1, 2, 3] [] rfl rfl (by decide) (by decide) hk1 hFc hP1 hD1
        generalize H1 = H at hP hS ⊢
        have hP : va_P (dC, dI) vwCl [(y0, .inr (1, [.int th, .ref ym, .ref yr, .ref yg, .int pcv, .int trv, .int vav, .int dnv, .int wv, .int ((F_m_strange wv).1), .int ((F_m_strange wv).2), .int ne])), (ym, .inl (d1, 16384, .inl me)), (yr, .inl (d2, 4, .inl rg)), (yg, .inl (d3, 32, .inl rs))] H := hP
        have hD : va_D A [(y0, .inr (1, [.int th, .ref ym, .ref yr, .ref yg, .int pcv, .int trv, .int vav, .int dnv, .int wv, .int ((F_m_strange wv).1), .int ((F_m_strange wv).2), .int ne])), (ym, .inl (d1, 16384, .inl me)), (yr, .inl (d2, 4, .inl rg)), (yg, .inl (d3, 32, .inl rs))] := hD
        exact W.vret hx hb hr (fun t ht hW => ⟨⟨(me, rs, (F_m_strange wv).1, (F_m_strange wv).2, ne), rfl, (by unfold F_m_both; first | (rw [if_neg c_1, if_neg c_2, if_neg c_8]; done) | (rw [if_neg c_1, if_neg c_2, if_neg c_8]; rfl)), by rw [ht]; exact hP, va_K.moved hW.alike hK, hD⟩, hS.F ht⟩) hS.2.2 dX1_both_69
      · refine lv_iload_n hx hb dX1_both_31 rfl (lv_at hl 1 rfl) ?_
        refine lv_if_eq (tgt := 40) hx hb dX1_both_32 (by decide) (fun c_12 => ?_) (fun c_12 => ?_)
        · refine lv_aload_n hx hb dX1_both_40 rfl (lv_at hl 0 rfl) ?_
          refine lv_iload_n hx hb dX1_both_41 rfl (lv_at hl 1 rfl) ?_
          refine lv_iload_n hx hb dX1_both_42 rfl (lv_at hl 2 rfl) ?_
          refine lv_iload_n hx hb dX1_both_43 rfl (lv_at hl 3 rfl) ?_
          refine lv_iload hx hb dX1_both_44 (lv_at hl 4 rfl) ?_
          refine lv_bipush (v := 32) hx hb dX1_both_46 (by decide) ?_
          refine lv_icmp_ne (tgt := 55) hx hb dX1_both_48 (by decide) (fun c_13 => ?_) (fun c_13 => ?_)
          · exact absurd c_8 c_13
          · refine lv_iconst (v := 1) hx hb dX1_both_51 (by decide) ?_
            refine lv_goto (tgt := 56) hx hb dX1_both_52 (by decide) ?_
            refine vp_callSi (W.runS (As := [.int a1, .int a2, .int a3, .int 1]) (rest := [.ref y0]) ⟨hx, hb, hml, hown, hts⟩ (c_m_worked l a1 a2 a3 1) (cwS 4 hts (gS mL_X1_95 mS_X1_worked mN_X1 mC_X1_worked) rfl rfl rfl (by decide +kernel) ⟨Nat.le_of_ble_eq_true rfl, Nat.le_of_ble_eq_true rfl⟩) preEq rfl rfl hl.1 rfl (lv_room (Nat.le_of_ble_eq_true rfl)) dX1_both_56 ⟨Nat.zero_le _, Nat.zero_le _⟩) (fun r_14 hw => ?_)
            rw [hw]
            clear hw r_14
            have hFc := va_free (wc := [(y0, .inr (1, [.int th, .ref ym, .ref yr, .ref yg, .int pcv, .int trv, .int vav, .int dnv, .int wv, .int fa, .int wi, .int ne])), (ym, .inl (d1, 16384, .inl me)), (yr, .inl (d2, 4, .inl rg)), (yg, .inl (d3, 32, .inl rs))]) hD hS hA [0, 1, 2, 3] rfl
            refine va_callv (va_runV (As := [.int (F_m_worked a1 a2 a3 1)]) (rest := []) ⟨hx, hb, hml, hown, hts⟩ (c_m_put l dC dI y0 ym yr yg d1 d2 d3 s.heap.size th me rg rs pcv trv vav dnv wv fa wi ne (F_m_worked a1 a2 a3 1)) (cwV 1 hts (gV mL_X1_67 mI_X1_put mE_X1_put mN_X1 mC_X1_put) rfl rfl rfl (by decide +kernel) ⟨Nat.le_of_ble_eq_true rfl, Nat.le_of_ble_eq_true rfl⟩) ⟨fun a U g mk q => by obtain ⟨q0, q1, qP, qK, qD⟩ := q; exact ⟨q0, q1, qP, va_K.moved (u := U) (U := U.calling g mk a) (Vm.Alike.refl U.vm) qK, qD⟩, va_recv hK hP (ci := 1) (q0 := 0) rfl rfl, fun U hU hW => ⟨rfl, by rw [hU], by rw [hU]; exact hP, va_K.moved hW.alike hK, hD.weaken (fun _ _ _ _ => trivial)⟩⟩ rfl rfl hl.1 rfl (lv_room (Nat.le_of_ble_eq_true rfl)) dX1_both_59 ⟨Nat.zero_le _, Nat.zero_le _⟩) hS (fun q _ h => hFc q h) hFc (fun u t H1 locs ht hvm hw hB hz1 hk1 hS => ?_)
            rw [hw] at hB
            obtain ⟨hP1, hK1, hD1⟩ := hB
            rw [ht] at hP1
            obtain ⟨hP, hD⟩ := va_join (wr := []) (w1 := [(y0, .inr (1, [.int th, .ref ym, .ref yr, .ref yg, .int pcv, .int trv, .int vav, .int dnv, .int wv, .int fa, .int wi, .int ne])), (ym, .inl (d1, 16384, .inl me)), (yr, .inl (d2, 4, .inl rg)), (yg, .inl (d3, 32, .inl (F_m_put wv rs (F_m_worked a1 a2 a3 1))))]) hP hD [0, 1, 2, 3] [] rfl rfl (by decide) (by decide) hk1 hFc hP1 hD1
            generalize H1 = H at hP hS ⊢
            have hP : va_P (dC, dI) vwCl [(y0, .inr (1, [.int th, .ref ym, .ref yr, .ref yg, .int pcv, .int trv, .int vav, .int dnv, .int wv, .int fa, .int wi, .int ne])), (ym, .inl (d1, 16384, .inl me)), (yr, .inl (d2, 4, .inl rg)), (yg, .inl (d3, 32, .inl (F_m_put wv rs (F_m_worked a1 a2 a3 1))))] H := hP
            have hD : va_D A [(y0, .inr (1, [.int th, .ref ym, .ref yr, .ref yg, .int pcv, .int trv, .int vav, .int dnv, .int wv, .int fa, .int wi, .int ne])), (ym, .inl (d1, 16384, .inl me)), (yr, .inl (d2, 4, .inl rg)), (yg, .inl (d3, 32, .inl (F_m_put wv rs (F_m_worked a1 a2 a3 1))))] := hD
            refine lv_goto (tgt := 69) hx hb dX1_both_62 (by decide) ?_
            exact W.vret hx hb hr (fun t ht hW => ⟨⟨(me, F_m_put wv rs (F_m_worked a1 a2 a3 1), fa, wi, ne), rfl, (by unfold F_m_both; first | (rw [if_neg c_1, if_neg c_2, if_pos c_8, if_pos c_12]; done) | (rw [if_neg c_1, if_neg c_2, if_pos c_8, if_pos c_12]; rfl)), by rw [ht]; exact hP, va_K.moved hW.alike hK, hD⟩, hS.F ht⟩) hS.2.2 dX1_both_69
        · refine lv_iload_n hx hb dX1_both_35 rfl (lv_at hl 1 rfl) ?_
          refine lv_iconst (v := 5) hx hb dX1_both_36 (by decide) ?_
          refine lv_icmp_ne (tgt := 65) hx hb dX1_both_37 (by decide) (fun c_16 => ?_) (fun c_16 => ?_)
          · refine lv_aload_n hx hb dX1_both_65 rfl (lv_at hl 0 rfl) ?_
            have hFc := va_free (wc := [(y0, .inr (1, [.int th, .ref ym, .ref yr, .ref yg, .int pcv, .int trv, .int vav, .int dnv, .int wv, .int fa, .int wi, .int ne])), (ym, .inl (d1, 16384, .inl me)), (yr, .inl (d2, 4, .inl rg)), (yg, .inl (d3, 32, .inl rs))]) hD hS hA [0, 1, 2, 3] rfl
            refine va_callv (va_runV (As := []) (rest := []) ⟨hx, hb, hml, hown, hts⟩ (c_m_strange l dC dI y0 ym yr yg d1 d2 d3 s.heap.size th me rg rs pcv trv vav dnv wv fa wi ne) (cwV 0 hts (gV mL_X1_71 mI_X1_strange mE_X1_strange mN_X1 mC_X1_strange) rfl rfl rfl (by decide +kernel) ⟨Nat.le_of_ble_eq_true rfl, Nat.le_of_ble_eq_true rfl⟩) ⟨fun a U g mk q => by obtain ⟨q0, q1, qP, qK, qD⟩ := q; exact ⟨q0, q1, qP, va_K.moved (u := U) (U := U.calling g mk a) (Vm.Alike.refl U.vm) qK, qD⟩, va_recv hK hP (ci := 1) (q0 := 0) rfl rfl, fun U hU hW => ⟨rfl, by rw [hU], by rw [hU]; exact hP, va_K.moved hW.alike hK, hD.weaken (fun _ _ _ _ => trivial)⟩⟩ rfl rfl hl.1 rfl (lv_room (Nat.le_of_ble_eq_true rfl)) dX1_both_66 ⟨Nat.zero_le _, Nat.zero_le _⟩) hS (fun q _ h => hFc q h) hFc (fun u t H1 locs ht hvm hw hB hz1 hk1 hS => ?_)
            rw [hw] at hB
            obtain ⟨hP1, hK1, hD1⟩ := hB
            rw [ht] at hP1
            obtain ⟨hP, hD⟩ := va_join (wr := []) (w1 := [(y0, .inr (1, [.int th, .ref ym, .ref yr, .ref yg, .int pcv, .int trv, .int vav, .int dnv, .int wv, .int ((F_m_strange wv).1), .int ((F_m_strange wv).2), .int ne])), (ym, .inl (d1, 16384, .inl me)), (yr, .inl (d2, 4, .inl rg)), (yg, .inl (d3, 32, .inl rs))]) hP hD [0, 1, 2, 3] [] rfl rfl (by decide) (by decide) hk1 hFc hP1 hD1
            generalize H1 = H at hP hS ⊢
            have hP : va_P (dC, dI) vwCl [(y0, .inr (1, [.int th, .ref ym, .ref yr, .ref yg, .int pcv, .int trv, .int vav, .int dnv, .int wv, .int ((F_m_strange wv).1), .int ((F_m_strange wv).2), .int ne])), (ym, .inl (d1, 16384, .inl me)), (yr, .inl (d2, 4, .inl rg)), (yg, .inl (d3, 32, .inl rs))] H := hP
            have hD : va_D A [(y0, .inr (1, [.int th, .ref ym, .ref yr, .ref yg, .int pcv, .int trv, .int vav, .int dnv, .int wv, .int ((F_m_strange wv).1), .int ((F_m_strange wv).2), .int ne])), (ym, .inl (d1, 16384, .inl me)), (yr, .inl (d2, 4, .inl rg)), (yg, .inl (d3, 32, .inl rs))] := hD
            exact W.vret hx hb hr (fun t ht hW => ⟨⟨(me, rs, (F_m_strange wv).1, (F_m_strange wv).2, ne), rfl, (by unfold F_m_both; first | (rw [if_neg c_1, if_neg c_2, if_pos c_8, if_neg c_12, if_neg c_16]; done) | (rw [if_neg c_1, if_neg c_2, if_pos c_8, if_neg c_12, if_neg c_16]; rfl)), by rw [ht]; exact hP, va_K.moved hW.alike hK, hD⟩, hS.F ht⟩) hS.2.2 dX1_both_69
          · refine lv_aload_n hx hb dX1_both_40 rfl (lv_at hl 0 rfl) ?_
            refine lv_iload_n hx hb dX1_both_41 rfl (lv_at hl 1 rfl) ?_
            refine lv_iload_n hx hb dX1_both_42 rfl (lv_at hl 2 rfl) ?_
            refine lv_iload_n hx hb dX1_both_43 rfl (lv_at hl 3 rfl) ?_
            refine lv_iload hx hb dX1_both_44 (lv_at hl 4 rfl) ?_
            refine lv_bipush (v := 32) hx hb dX1_both_46 (by decide) ?_
            refine lv_icmp_ne (tgt := 55) hx hb dX1_both_48 (by decide) (fun c_20 => ?_) (fun c_20 => ?_)
            · exact absurd c_8 c_20
            · refine lv_iconst (v := 1) hx hb dX1_both_51 (by decide) ?_
              refine lv_goto (tgt := 56) hx hb dX1_both_52 (by decide) ?_
              refine vp_callSi (W.runS (As := [.int a1, .int a2, .int a3, .int 1]) (rest := [.ref y0]) ⟨hx, hb, hml, hown, hts⟩ (c_m_worked l a1 a2 a3 1) (cwS 4 hts (gS mL_X1_95 mS_X1_worked mN_X1 mC_X1_worked) rfl rfl rfl (by decide +kernel) ⟨Nat.le_of_ble_eq_true rfl, Nat.le_of_ble_eq_true rfl⟩) preEq rfl rfl hl.1 rfl (lv_room (Nat.le_of_ble_eq_true rfl)) dX1_both_56 ⟨Nat.zero_le _, Nat.zero_le _⟩) (fun r_21 hw => ?_)
              rw [hw]
              clear hw r_21
              have hFc := va_free (wc := [(y0, .inr (1, [.int th, .ref ym, .ref yr, .ref yg, .int pcv, .int trv, .int vav, .int dnv, .int wv, .int fa, .int wi, .int ne])), (ym, .inl (d1, 16384, .inl me)), (yr, .inl (d2, 4, .inl rg)), (yg, .inl (d3, 32, .inl rs))]) hD hS hA [0, 1, 2, 3] rfl
              refine va_callv (va_runV (As := [.int (F_m_worked a1 a2 a3 1)]) (rest := []) ⟨hx, hb, hml, hown, hts⟩ (c_m_put l dC dI y0 ym yr yg d1 d2 d3 s.heap.size th me rg rs pcv trv vav dnv wv fa wi ne (F_m_worked a1 a2 a3 1)) (cwV 1 hts (gV mL_X1_67 mI_X1_put mE_X1_put mN_X1 mC_X1_put) rfl rfl rfl (by decide +kernel) ⟨Nat.le_of_ble_eq_true rfl, Nat.le_of_ble_eq_true rfl⟩) ⟨fun a U g mk q => by obtain ⟨q0, q1, qP, qK, qD⟩ := q; exact ⟨q0, q1, qP, va_K.moved (u := U) (U := U.calling g mk a) (Vm.Alike.refl U.vm) qK, qD⟩, va_recv hK hP (ci := 1) (q0 := 0) rfl rfl, fun U hU hW => ⟨rfl, by rw [hU], by rw [hU]; exact hP, va_K.moved hW.alike hK, hD.weaken (fun _ _ _ _ => trivial)⟩⟩ rfl rfl hl.1 rfl (lv_room (Nat.le_of_ble_eq_true rfl)) dX1_both_59 ⟨Nat.zero_le _, Nat.zero_le _⟩) hS (fun q _ h => hFc q h) hFc (fun u t H1 locs ht hvm hw hB hz1 hk1 hS => ?_)
              rw [hw] at hB
              obtain ⟨hP1, hK1, hD1⟩ := hB
              rw [ht] at hP1
              obtain ⟨hP, hD⟩ := va_join (wr := []) (w1 := [(y0, .inr (1, [.int th, .ref ym, .ref yr, .ref yg, .int pcv, .int trv, .int vav, .int dnv, .int wv, .int fa, .int wi, .int ne])), (ym, .inl (d1, 16384, .inl me)), (yr, .inl (d2, 4, .inl rg)), (yg, .inl (d3, 32, .inl (F_m_put wv rs (F_m_worked a1 a2 a3 1))))]) hP hD [0, 1, 2, 3] [] rfl rfl (by decide) (by decide) hk1 hFc hP1 hD1
              generalize H1 = H at hP hS ⊢
              have hP : va_P (dC, dI) vwCl [(y0, .inr (1, [.int th, .ref ym, .ref yr, .ref yg, .int pcv, .int trv, .int vav, .int dnv, .int wv, .int fa, .int wi, .int ne])), (ym, .inl (d1, 16384, .inl me)), (yr, .inl (d2, 4, .inl rg)), (yg, .inl (d3, 32, .inl (F_m_put wv rs (F_m_worked a1 a2 a3 1))))] H := hP
              have hD : va_D A [(y0, .inr (1, [.int th, .ref ym, .ref yr, .ref yg, .int pcv, .int trv, .int vav, .int dnv, .int wv, .int fa, .int wi, .int ne])), (ym, .inl (d1, 16384, .inl me)), (yr, .inl (d2, 4, .inl rg)), (yg, .inl (d3, 32, .inl (F_m_put wv rs (F_m_worked a1 a2 a3 1))))] := hD
              refine lv_goto (tgt := 69) hx hb dX1_both_62 (by decide) ?_
              exact W.vret hx hb hr (fun t ht hW => ⟨⟨(me, F_m_put wv rs (F_m_worked a1 a2 a3 1), fa, wi, ne), rfl, (by unfold F_m_both; first | (rw [if_neg c_1, if_neg c_2, if_pos c_8, if_neg c_12, if_pos c_16]; done) | (rw [if_neg c_1, if_neg c_2, if_pos c_8, if_neg c_12, if_pos c_16]; rfl)), by rw [ht]; exact hP, va_K.moved hW.alike hK, hD⟩, hS.F ht⟩) hS.2.2 dX1_both_69
  · refine lv_aload_n hx hb dX1_both_6 rfl (lv_at hl 0 rfl) ?_
    refine lv_iload_n hx hb dX1_both_7 rfl (lv_at hl 1 rfl) ?_
    refine lv_iload_n hx hb dX1_both_8 rfl (lv_at hl 2 rfl) ?_
    refine lv_iload_n hx hb dX1_both_9 rfl (lv_at hl 3 rfl) ?_
    refine vp_callSi (W.runS (As := [.int a1, .int a2, .int a3]) (rest := [.ref y0]) ⟨hx, hb, hml, hown, hts⟩ (c_m_multiplied l a1 a2 a3) (cwS 3 hts (gS mL_X1_99 mS_X1_multiplied mN_X1 mC_X1_multiplied) rfl rfl rfl (by decide +kernel) ⟨Nat.le_of_ble_eq_true rfl, Nat.le_of_ble_eq_true rfl⟩) preEq rfl rfl hl.1 rfl (lv_room (Nat.le_of_ble_eq_true rfl)) dX1_both_10 ⟨Nat.zero_le _, Nat.zero_le _⟩) (fun r_23 hw => ?_)
    rw [hw]
    clear hw r_23
    have hFc := va_free (wc := [(y0, .inr (1, [.int th, .ref ym, .ref yr, .ref yg, .int pcv, .int trv, .int vav, .int dnv, .int wv, .int fa, .int wi, .int ne])), (ym, .inl (d1, 16384, .inl me)), (yr, .inl (d2, 4, .inl rg)), (yg, .inl (d3, 32, .inl rs))]) hD hS hA [0, 1, 2, 3] rfl
    refine va_callv (va_runV (As := [.int (F_m_multiplied a1 a2 a3)]) (rest := []) ⟨hx, hb, hml, hown, hts⟩ (c_m_put l dC dI y0 ym yr yg d1 d2 d3 s.heap.size th me rg rs pcv trv vav dnv wv fa wi ne (F_m_multiplied a1 a2 a3)) (cwV 1 hts (gV mL_X1_67 mI_X1_put mE_X1_put mN_X1 mC_X1_put) rfl rfl rfl (by decide +kernel) ⟨Nat.le_of_ble_eq_true rfl, Nat.le_of_ble_eq_true rfl⟩) ⟨fun a U g mk q => by obtain ⟨q0, q1, qP, qK, qD⟩ := q; exact ⟨q0, q1, qP, va_K.moved (u := U) (U := U.calling g mk a) (Vm.Alike.refl U.vm) qK, qD⟩, va_recv hK hP (ci := 1) (q0 := 0) rfl rfl, fun U hU hW => ⟨rfl, by rw [hU], by rw [hU]; exact hP, va_K.moved hW.alike hK, hD.weaken (fun _ _ _ _ => trivial)⟩⟩ rfl rfl hl.1 rfl (lv_room (Nat.le_of_ble_eq_true rfl)) dX1_both_13 ⟨Nat.zero_le _, Nat.zero_le _⟩) hS (fun q _ h => hFc q h) hFc (fun u t H1 locs ht hvm hw hB hz1 hk1 hS => ?_)
    rw [hw] at hB
    obtain ⟨hP1, hK1, hD1⟩ := hB
    rw [ht] at hP1
    obtain ⟨hP, hD⟩ := va_join (wr := []) (w1 := [(y0, .inr (1, [.int th, .ref ym, .ref yr, .ref yg, .int pcv, .int trv, .int vav, .int dnv, .int wv, .int fa, .int wi, .int ne])), (ym, .inl (d1, 16384, .inl me)), (yr, .inl (d2, 4, .inl rg)), (yg, .inl (d3, 32, .inl (F_m_put wv rs (F_m_multiplied a1 a2 a3))))]) hP hD [0, 1, 2, 3] [] rfl rfl (by decide) (by decide) hk1 hFc hP1 hD1
    generalize H1 = H at hP hS ⊢
    have hP : va_P (dC, dI) vwCl [(y0, .inr (1, [.int th, .ref ym, .ref yr, .ref yg, .int pcv, .int trv, .int vav, .int dnv, .int wv, .int fa, .int wi, .int ne])), (ym, .inl (d1, 16384, .inl me)), (yr, .inl (d2, 4, .inl rg)), (yg, .inl (d3, 32, .inl (F_m_put wv rs (F_m_multiplied a1 a2 a3))))] H := hP
    have hD : va_D A [(y0, .inr (1, [.int th, .ref ym, .ref yr, .ref yg, .int pcv, .int trv, .int vav, .int dnv, .int wv, .int fa, .int wi, .int ne])), (ym, .inl (d1, 16384, .inl me)), (yr, .inl (d2, 4, .inl rg)), (yg, .inl (d3, 32, .inl (F_m_put wv rs (F_m_multiplied a1 a2 a3))))] := hD
    refine lv_goto (tgt := 69) hx hb dX1_both_16 (by decide) ?_
    exact W.vret hx hb hr (fun t ht hW => ⟨⟨(me, F_m_put wv rs (F_m_multiplied a1 a2 a3), fa, wi, ne), rfl, (by unfold F_m_both; first | (rw [if_pos c_1]; done) | (rw [if_pos c_1]; rfl)), by rw [ht]; exact hP, va_K.moved hW.alike hK, hD⟩, hS.F ht⟩) hS.2.2 dX1_both_69
