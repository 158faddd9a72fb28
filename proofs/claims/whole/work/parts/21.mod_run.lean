abbrev stM : Type := (Nat → Int32) × (Nat → Int32) × Int32 × Int32 × Int32 × Int32 × Int32 × Int32
/-- n steps, until one fails: how many were done, whether none failed, and the state -/
def runM (rg : Nat → Int32) : Nat → stM → Nat × Bool × stM
  | 0, u => (0, true, u)
  | k + 1, u => if (F_m_step u.1 rg u.2.1 u.2.2.1 u.2.2.2.1 u.2.2.2.2.1 u.2.2.2.2.2.1 u.2.2.2.2.2.2.1 u.2.2.2.2.2.2.2).1 = 0 then (0, false, (F_m_step u.1 rg u.2.1 u.2.2.1 u.2.2.2.1 u.2.2.2.2.1 u.2.2.2.2.2.1 u.2.2.2.2.2.2.1 u.2.2.2.2.2.2.2).2) else ((runM rg k (F_m_step u.1 rg u.2.1 u.2.2.1 u.2.2.2.1 u.2.2.2.2.1 u.2.2.2.2.2.1 u.2.2.2.2.2.2.1 u.2.2.2.2.2.2.2).2).1 + 1, (runM rg k (F_m_step u.1 rg u.2.1 u.2.2.1 u.2.2.2.1 u.2.2.2.2.1 u.2.2.2.2.2.1 u.2.2.2.2.2.2.1 u.2.2.2.2.2.2.2).2).2)
theorem runM_no {rg : Nat → Int32} {n j k : Nat} {u0 u v : stM} {r : Int32} (hw : (r, v) = F_m_step u.1 rg u.2.1 u.2.2.1 u.2.2.2.1 u.2.2.2.2.1 u.2.2.2.2.2.1 u.2.2.2.2.2.2.1 u.2.2.2.2.2.2.2) (h0 : r = 0) (hk : n - j = k + 1) (h : runM rg n u0 = (j + (runM rg (n - j) u).1, (runM rg (n - j) u).2)) : runM rg n u0 = (j, false, v) := by
  rw [h, hk]
  unfold runM
  rw [← hw, if_pos h0]
  rfl
theorem runM_go {rg : Nat → Int32} {n j k : Nat} {u0 u v : stM} {r : Int32} (hw : (r, v) = F_m_step u.1 rg u.2.1 u.2.2.1 u.2.2.2.1 u.2.2.2.2.1 u.2.2.2.2.2.1 u.2.2.2.2.2.2.1 u.2.2.2.2.2.2.2) (h0 : ¬ r = 0) (hk : n - j = k + 1) (h : runM rg n u0 = (j + (runM rg (n - j) u).1, (runM rg (n - j) u).2)) : runM rg n u0 = (j + 1 + (runM rg (n - (j + 1)) v).1, (runM rg (n - (j + 1)) v).2) := by
  have e : n - (j + 1) = k := by omega
  rw [h, hk, e]
  conv => lhs; unfold runM
  rw [← hw, if_neg h0]
  show (j + ((runM rg k v).1 + 1), (runM rg k v).2) = _
  rw [show j + ((runM rg k v).1 + 1) = j + 1 + (runM rg k v).1 by omega]
set_option maxHeartbeats 4000000 in
set_option maxRecDepth 100000 in
theorem c_m_run (l : Launch) (dC : Nat → ClassId) (dI : Nat → Nat → Nat) (y0 ym yr yg : Nat) (d1 d2 d3 : ClassId) (sz : Nat) (th : Int32) (me : Nat → Int32) (rg : Nat → Int32) (rs : Nat → Int32) (pcv : Int32) (trv : Int32) (vav : Int32) (dnv : Int32) (wv : Int32) (fa : Int32) (wi : Int32) (ne : Int32) (a1 : Int32) : Met l yX1_run wsX1_run ({ frames := 7, cells := 0, slots := 0, locals := 167 }) (va_Pc [.ref y0, .int a1] (fun U => U.heap.size = sz ∧ va_P (dC, dI) vwCl [(y0, .inr (1, [.int th, .ref ym, .ref yr, .ref yg, .int pcv, .int trv, .int vav, .int dnv, .int wv, .int fa, .int wi, .int ne])), (ym, .inl (d1, 16384, .inl me)), (yr, .inl (d2, 4, .inl rg)), (yg, .inl (d3, 32, .inl rs))] U.heap ∧ va_K (dC, dI) vwCl [(d1, .byte), (d2, .int), (d3, .int)] U ∧ va_D (fun _ => True) [(y0, .inr (1, [.int th, .ref ym, .ref yr, .ref yg, .int pcv, .int trv, .int vav, .int dnv, .int wv, .int fa, .int wi, .int ne])), (ym, .inl (d1, 16384, .inl me)), (yr, .inl (d2, 4, .inl rg)), (yg, .inl (d3, 32, .inl rs))])) (va_Qi (fun (r : Int32) (u : Int32 × ((Nat → Int32) × (Nat → Int32) × Int32 × Int32 × Int32 × Int32 × Int32 × Int32) × Int32 × Int32) => ((a1 < 0 ∨ ¬ a1 ≤ 2000) ∧ r = 0 ∧ u = (1, (me, rs, pcv, dnv, wv, fa, wi, ne), trv, vav)) ∨ ((¬ a1 < 0 ∧ a1 ≤ 2000) ∧ r = nI (runM rg a1.toNatClampNeg (me, rs, pcv, dnv, wv, fa, wi, ne)).1 ∧ u = (0, (runM rg a1.toNatClampNeg (me, rs, pcv, dnv, wv, fa, wi, ne)).2.2, (if (runM rg a1.toNatClampNeg (me, rs, pcv, dnv, wv, fa, wi, ne)).2.1 = true then (-1) else (runM rg a1.toNatClampNeg (me, rs, pcv, dnv, wv, fa, wi, ne)).2.2.2.2.2.2.2.1), (if (runM rg a1.toNatClampNeg (me, rs, pcv, dnv, wv, fa, wi, ne)).2.1 = true then 0 else (runM rg a1.toNatClampNeg (me, rs, pcv, dnv, wv, fa, wi, ne)).2.2.2.2.2.2.2.2.1)))) (fun (u : Int32 × ((Nat → Int32) × (Nat → Int32) × Int32 × Int32 × Int32 × Int32 × Int32 × Int32) × Int32 × Int32) (t : State) => va_P (dC, dI) vwCl [(y0, .inr (1, [.int u.1, .ref ym, .ref yr, .ref yg, .int u.2.1.2.2.1, .int u.2.2.1, .int u.2.2.2, .int u.2.1.2.2.2.1, .int u.2.1.2.2.2.2.1, .int u.2.1.2.2.2.2.2.1, .int u.2.1.2.2.2.2.2.2.1, .int u.2.1.2.2.2.2.2.2.2])), (ym, .inl (d1, 16384, .inl u.2.1.1)), (yr, .inl (d2, 4, .inl rg)), (yg, .inl (d3, 32, .inl u.2.1.2.1))] t.heap ∧ va_K (dC, dI) vwCl [(d1, .byte), (d2, .int), (d3, .int)] t ∧ va_D (va_A [(y0, .inr (1, [.int th, .ref ym, .ref yr, .ref yg, .int pcv, .int trv, .int vav, .int dnv, .int wv, .int fa, .int wi, .int ne])), (ym, .inl (d1, 16384, .inl me)), (yr, .inl (d2, 4, .inl rg)), (yg, .inl (d3, 32, .inl rs))] sz) [(y0, .inr (1, [.int u.1, .ref ym, .ref yr, .ref yg, .int u.2.1.2.2.1, .int u.2.2.1, .int u.2.2.2, .int u.2.1.2.2.2.1, .int u.2.1.2.2.2.2.1, .int u.2.1.2.2.2.2.2.1, .int u.2.1.2.2.2.2.2.2.1, .int u.2.1.2.2.2.2.2.2.2])), (ym, .inl (d1, 16384, .inl u.2.1.1)), (yr, .inl (d2, 4, .inl rg)), (yg, .inl (d3, 32, .inl u.2.1.2.1))]) (va_A [(y0, .inr (1, [.int th, .ref ym, .ref yr, .ref yg, .int pcv, .int trv, .int vav, .int dnv, .int wv, .int fa, .int wi, .int ne])), (ym, .inl (d1, 16384, .inl me)), (yr, .inl (d2, 4, .inl rg)), (yg, .inl (d3, 32, .inl rs))] sz)) 0 0 (va_A [(y0, .inr (1, [.int th, .ref ym, .ref yr, .ref yg, .int pcv, .int trv, .int vav, .int dnv, .int wv, .int fa, .int wi, .int ne])), (ym, .inl (d1, 16384, .inl me)), (yr, .inl (d2, 4, .inl rg)), (yg, .inl (d3, 32, .inl rs))] sz) := by
  refine Met.ofW (cc := cX1_run) (maxL := 4) (ret := (some .int)) (by decide) rfl ?_
  intro p e s m args below meth c s₁ B hml hv
  obtain ⟨rfl, hsz, hP, hK, hD0⟩ := hv
  have hx := B.exec
  have hb := B.bytes
  have hr := B.returns
  have hts := atoms_spec (ws := wsX1_run) B.pre
  have hown : s.vm.findClass RX1 = some m.cls := findClass_of_methodNamed B.named
  have hlocks := B.notSynchronized
  subst hsz
  have hD := hD0.self (sz := s.heap.size)
  generalize hAe : va_A [(y0, .inr (1, [.int th, .ref ym, .ref yr, .ref yg, .int pcv, .int trv, .int vav, .int dnv, .int wv, .int fa, .int wi, .int ne])), (ym, .inl (d1, 16384, .inl me)), (yr, .inl (d2, 4, .inl rg)), (yg, .inl (d3, 32, .inl rs))] s.heap.size = A at hD ⊢
  have hA : ∀ q : Nat, s.heap.size ≤ q → A q := fun q h => by rw [← hAe]; exact Or.inr h
  have hS : va_S A s.heap s.heap [] := va_S.rf
  have hP : va_P (dC, dI) vwCl [(y0, .inr (1, [.int th, .ref ym, .ref yr, .ref yg, .int pcv, .int trv, .int vav, .int dnv, .int wv, .int fa, .int wi, .int ne])), (ym, .inl (d1, 16384, .inl me)), (yr, .inl (d2, 4, .inl rg)), (yg, .inl (d3, 32, .inl rs))] s.heap := hP
  have hl := lv_entry ([.ref y0, .int a1]) (n := 4) (Nat.le_of_ble_eq_true rfl)
  rw [lg_entry_eq]
  generalize (lg_sl ([.ref y0, .int a1]) ++ List.replicate (4 - (lg_sl ([.ref y0, .int a1])).length) Slot.unset).toArray = ls at hl ⊢
  have hl : lv_has ls 4 [(0, .ref y0), (1, .int a1)] := hl
  refine lv_aload_n hx hb dX1_run_0 rfl (lv_at hl 0 rfl) ?_
  refine lv_iload_n hx hb dX1_run_1 rfl (lv_at hl 1 rfl) ?_
  refine lv_if_lt (tgt := 12) hx hb dX1_run_2 (by decide) (fun c_1 => ?_) (fun c_1 => ?_)
  · refine lv_iconst (v := 1) hx hb dX1_run_12 (by decide) ?_
    refine lv_goto (tgt := 17) hx hb dX1_run_13 (by decide) ?_
    refine va_put (D := (dC, dI)) (ci := 1) (v := .int 1) (ty := .int) (C := RX1) (T := TX1) (N := 12) hx hb hts (gw_lay lay_X1) tyX1 tyX1_ok nmX1 hown hK hP hD hS 0 rfl rfl 0 (by decide) (hts _ (gcons mF_X1_24)) (fun _ h9 => h9) rfl (by decide +kernel) rfl rfl (Nat.le_of_ble_eq_true rfl) dX1_run_17 (fun H locs hP hD hS => ?_)
    have hP : va_P (dC, dI) vwCl [(y0, .inr (1, [.int 1, .ref ym, .ref yr, .ref yg, .int pcv, .int trv, .int vav, .int dnv, .int wv, .int fa, .int wi, .int ne])), (ym, .inl (d1, 16384, .inl me)), (yr, .inl (d2, 4, .inl rg)), (yg, .inl (d3, 32, .inl rs))] H := hP
    have hD : va_D A [(y0, .inr (1, [.int 1, .ref ym, .ref yr, .ref yg, .int pcv, .int trv, .int vav, .int dnv, .int wv, .int fa, .int wi, .int ne])), (ym, .inl (d1, 16384, .inl me)), (yr, .inl (d2, 4, .inl rg)), (yg, .inl (d3, 32, .inl rs))] := hD
    refine lv_aload_n hx hb dX1_run_20 rfl (lv_at hl 0 rfl) ?_
    refine va_get (D := (dC, dI)) (ci := 1) (v := .int 1) (C := RX1) (T := TX1) (N := 12) hx hb hts (gw_lay lay_X1) hown hK hP 0 rfl rfl 0 (by decide) (hts _ (gcons mF_X1_24)) (fun _ h9 => h9) rfl dX1_run_21 ?_
    refine lv_if_le (tgt := 29) hx hb dX1_run_24 (by decide) (fun c_2 => ?_) (fun c_2 => ?_)
    · exact absurd c_2 (by decide)
    · refine lv_iconst (v := 0) hx hb dX1_run_27 (by decide) ?_
      exact W.iret (v := 0) hx hb hr (fun t ht hW => ⟨⟨_, (1, (me, rs, pcv, dnv, wv, fa, wi, ne), trv, vav), rfl, Or.inl ⟨Or.inl c_1, rfl, rfl⟩, by rw [ht]; exact hP, va_K.moved hW.alike hK, hD⟩, hS.F ht⟩) hS.2.2 dX1_run_28
  · refine lv_iload_n hx hb dX1_run_5 rfl (lv_at hl 1 rfl) ?_
    refine lv_sipush (v := 2000) hx hb dX1_run_6 (by decide) ?_
    refine lv_icmp_le (tgt := 16) hx hb dX1_run_9 (by decide) (fun c_3 => ?_) (fun c_3 => ?_)
    · refine lv_iconst (v := 0) hx hb dX1_run_16 (by decide) ?_
      refine va_put (D := (dC, dI)) (ci := 1) (v := .int 0) (ty := .int) (C := RX1) (T := TX1) (N := 12) hx hb hts (gw_lay lay_X1) tyX1 tyX1_ok nmX1 hown hK hP hD hS 0 rfl rfl 0 (by decide) (hts _ (gcons mF_X1_24)) (fun _ h9 => h9) rfl (by decide +kernel) rfl rfl (Nat.le_of_ble_eq_true rfl) dX1_run_17 (fun H locs hP hD hS => ?_)
      have hP : va_P (dC, dI) vwCl [(y0, .inr (1, [.int 0, .ref ym, .ref yr, .ref yg, .int pcv, .int trv, .int vav, .int dnv, .int wv, .int fa, .int wi, .int ne])), (ym, .inl (d1, 16384, .inl me)), (yr, .inl (d2, 4, .inl rg)), (yg, .inl (d3, 32, .inl rs))] H := hP
      have hD : va_D A [(y0, .inr (1, [.int 0, .ref ym, .ref yr, .ref yg, .int pcv, .int trv, .int vav, .int dnv, .int wv, .int fa, .int wi, .int ne])), (ym, .inl (d1, 16384, .inl me)), (yr, .inl (d2, 4, .inl rg)), (yg, .inl (d3, 32, .inl rs))] := hD
      refine lv_aload_n hx hb dX1_run_20 rfl (lv_at hl 0 rfl) ?_
      refine va_get (D := (dC, dI)) (ci := 1) (v := .int 0) (C := RX1) (T := TX1) (N := 12) hx hb hts (gw_lay lay_X1) hown hK hP 0 rfl rfl 0 (by decide) (hts _ (gcons mF_X1_24)) (fun _ h9 => h9) rfl dX1_run_21 ?_
      refine lv_if_le (tgt := 29) hx hb dX1_run_24 (by decide) (fun c_4 => ?_) (fun c_4 => ?_)
      · refine lv_aload_n hx hb dX1_run_29 rfl (lv_at hl 0 rfl) ?_
        refine lv_iconst (v := (-1)) hx hb dX1_run_30 (by decide) ?_
        refine va_put (D := (dC, dI)) (ci := 1) (v := .int ((-1))) (ty := .int) (C := RX1) (T := TX1) (N := 12) hx hb hts (gw_lay lay_X1) tyX1 tyX1_ok nmX1 hown hK hP hD hS 0 rfl rfl 5 (by decide) (hts _ (gcons mF_X1_20)) (fun _ h9 => h9) rfl (by decide +kernel) rfl rfl (Nat.le_of_ble_eq_true rfl) dX1_run_31 (fun H locs hP hD hS => ?_)
        have hP : va_P (dC, dI) vwCl [(y0, .inr (1, [.int 0, .ref ym, .ref yr, .ref yg, .int pcv, .int ((-1)), .int vav, .int dnv, .int wv, .int fa, .int wi, .int ne])), (ym, .inl (d1, 16384, .inl me)), (yr, .inl (d2, 4, .inl rg)), (yg, .inl (d3, 32, .inl rs))] H := hP
        have hD : va_D A [(y0, .inr (1, [.int 0, .ref ym, .ref yr, .ref yg, .int pcv, .int ((-1)), .int vav, .int dnv, .int wv, .int fa, .int wi, .int ne])), (ym, .inl (d1, 16384, .inl me)), (yr, .inl (d2, 4, .inl rg)), (yg, .inl (d3, 32, .inl rs))] := hD
        refine lv_aload_n hx hb dX1_run_34 rfl (lv_at hl 0 rfl) ?_
        refine lv_iconst (v := 0) hx hb dX1_run_35 (by decide) ?_
        refine va_put (D := (dC, dI)) (ci := 1) (v := .int 0) (ty := .int) (C := RX1) (T := TX1) (N := 12) hx hb hts (gw_lay lay_X1) tyX1 tyX1_ok nmX1 hown hK hP hD hS 0 rfl rfl 6 (by decide) (hts _ (gcons mF_X1_136)) (fun _ h9 => h9) rfl (by decide +kernel) rfl rfl (Nat.le_of_ble_eq_true rfl) dX1_run_36 (fun H locs hP hD hS => ?_)
        have hP : va_P (dC, dI) vwCl [(y0, .inr (1, [.int 0, .ref ym, .ref yr, .ref yg, .int pcv, .int ((-1)), .int 0, .int dnv, .int wv, .int fa, .int wi, .int ne])), (ym, .inl (d1, 16384, .inl me)), (yr, .inl (d2, 4, .inl rg)), (yg, .inl (d3, 32, .inl rs))] H := hP
        have hD : va_D A [(y0, .inr (1, [.int 0, .ref ym, .ref yr, .ref yg, .int pcv, .int ((-1)), .int 0, .int dnv, .int wv, .int fa, .int wi, .int ne])), (ym, .inl (d1, 16384, .inl me)), (yr, .inl (d2, 4, .inl rg)), (yg, .inl (d3, 32, .inl rs))] := hD
        refine lv_iconst (v := 0) hx hb dX1_run_39 (by decide) ?_
        refine lv_istore_n (lv' := [(2, .int 0), (0, .ref y0), (1, .int a1)]) hx hb dX1_run_40 rfl hl (by decide) rfl (fun ls hl => ?_)
        refine lv_iconst (v := 1) hx hb dX1_run_41 (by decide) ?_
        refine lv_istore_n (lv' := [(3, .int 1), (2, .int 0), (0, .ref y0), (1, .int a1)]) hx hb dX1_run_42 rfl hl (by decide) rfl (fun ls hl => ?_)
        have hok : ¬ a1 < 0 ∧ a1 ≤ 2000 := ⟨c_1, c_3⟩
        obtain ⟨n, hn, rfl⟩ : ∃ n : Nat, n ≤ 2000 ∧ a1 = nI n := nI_of2 (by decide) c_1 c_3
        have hcl : (nI n).toNatClampNeg = n := nI_clamp (by omega)
        rw [hcl]
        have hl := lv_sub hl [1, 0, 2, 3] rfl
        refine lv_loop (n := n) (P := fun j H locs ls => ∃ (u : stM) (g : Int32), ¬ g = 0 ∧ va_P (dC, dI) vwCl [(y0, .inr (1, [.int 0, .ref ym, .ref yr, .ref yg, .int u.2.2.1, .int ((-1)), .int 0, .int u.2.2.2.1, .int u.2.2.2.2.1, .int u.2.2.2.2.2.1, .int u.2.2.2.2.2.2.1, .int u.2.2.2.2.2.2.2])), (ym, .inl (d1, 16384, .inl u.1)), (yr, .inl (d2, 4, .inl rg)), (yg, .inl (d3, 32, .inl u.2.1))] H ∧ va_D A [(y0, .inr (1, [.int 0, .ref ym, .ref yr, .ref yg, .int u.2.2.1, .int ((-1)), .int 0, .int u.2.2.2.1, .int u.2.2.2.2.1, .int u.2.2.2.2.2.1, .int u.2.2.2.2.2.2.1, .int u.2.2.2.2.2.2.2])), (ym, .inl (d1, 16384, .inl u.1)), (yr, .inl (d2, 4, .inl rg)), (yg, .inl (d3, 32, .inl u.2.1))] ∧ va_S A s.heap H locs ∧ lv_has ls 4 [(2, .int (nI j)), (3, .int g), (0, .ref y0), (1, .int (nI n))] ∧ runM rg n (me, rs, pcv, dnv, wv, fa, wi, ne) = (j + (runM rg (n - j) u).1, (runM rg (n - j) u).2)) (Wg := fun H locs ls => W p l e _ s m _ below meth c H locs 0 0 _ (F0 m 43 ls [])) ?_ n 0 H _ ls (by omega) (Nat.zero_le _) ⟨(me, rs, pcv, dnv, wv, fa, wi, ne), 1, by decide, hP, hD, hS, hl, by rw [Nat.zero_add]; rfl⟩
        rintro j H locs ls hj ⟨u, g, hg, hP, hD, hS, hl, hrun⟩ ih
        refine lv_iload_n hx hb dX1_run_43 rfl (lv_at hl 0 rfl) ?_
        refine lv_iload_n hx hb dX1_run_44 rfl (lv_at hl 3 rfl) ?_
        refine lv_icmp_ge (tgt := 72) hx hb dX1_run_45 (by decide) (fun cx => ?_) (fun cx => ?_)
        · obtain rfl : j = n := lpn_end hn hj cx
          have hrun2 : runM rg j (me, rs, pcv, dnv, wv, fa, wi, ne) = (j, true, u) := by rw [hrun, Nat.sub_self]; rfl
          refine lv_iload_n hx hb dX1_run_72 rfl (lv_at hl 1 rfl) ?_
          refine lv_if_ne (tgt := 92) hx hb dX1_run_73 (by decide) (fun cz => ?_) (fun cz => ?_)
          · refine lv_iload_n hx hb dX1_run_92 rfl (lv_at hl 0 rfl) ?_
            exact W.iret (v := nI j) hx hb hr (fun t ht hW => ⟨⟨_, (0, (u.1, u.2.1, u.2.2.1, u.2.2.2.1, u.2.2.2.2.1, u.2.2.2.2.2.1, u.2.2.2.2.2.2.1, u.2.2.2.2.2.2.2), (-1), 0), rfl, Or.inr ⟨hok, by rw [hrun2], by rw [hrun2]; rfl⟩, by rw [ht]; exact hP, va_K.moved hW.alike hK, hD⟩, hS.F ht⟩) hS.2.2 dX1_run_93
          · exact absurd cz hg
        · have hlt : j < n := lpn_lt hn hj cx
          obtain ⟨k, hk⟩ : ∃ k, n - j = k + 1 := ⟨n - j - 1, by omega⟩
          refine lv_iload_n hx hb dX1_run_48 rfl (lv_at hl 1 rfl) ?_
          refine lv_if_eq (tgt := 72) hx hb dX1_run_49 (by decide) (fun cz => absurd cz hg) (fun _ => ?_)
          refine lv_aload_n hx hb dX1_run_52 rfl (lv_at hl 2 rfl) ?_
          have hFc := va_free (wc := [(y0, .inr (1, [.int 0, .ref ym, .ref yr, .ref yg, .int u.2.2.1, .int ((-1)), .int 0, .int u.2.2.2.1, .int u.2.2.2.2.1, .int u.2.2.2.2.2.1, .int u.2.2.2.2.2.2.1, .int u.2.2.2.2.2.2.2])), (ym, .inl (d1, 16384, .inl u.1)), (yr, .inl (d2, 4, .inl rg)), (yg, .inl (d3, 32, .inl u.2.1))]) hD hS hA [0, 1, 2, 3] rfl
          refine va_calli (va_runV (As := []) (rest := []) ⟨hx, hb, hml, hown, hts⟩ (c_m_step l dC dI y0 ym yr yg d1 d2 d3 H.size 0 u.1 rg u.2.1 u.2.2.1 ((-1)) 0 u.2.2.2.1 u.2.2.2.2.1 u.2.2.2.2.2.1 u.2.2.2.2.2.2.1 u.2.2.2.2.2.2.2) (cwV 0 hts (gV mL_X1_139 mI_X1_step mE_X1_step mN_X1 mC_X1_step) rfl rfl rfl (by decide +kernel) ⟨Nat.le_of_ble_eq_true rfl, Nat.le_of_ble_eq_true rfl⟩) ⟨fun a U g mk q => by obtain ⟨q0, q1, qP, qK, qD⟩ := q; exact ⟨q0, q1, qP, va_K.moved (u := U) (U := U.calling g mk a) (Vm.Alike.refl U.vm) qK, qD⟩, va_recv hK hP (ci := 1) (q0 := 0) rfl rfl, fun U hU hW => ⟨rfl, by rw [hU], by rw [hU]; exact hP, va_K.moved hW.alike hK, hD.weaken (fun _ _ _ _ => trivial)⟩⟩ rfl rfl hl.1 rfl (lv_room (Nat.le_of_ble_eq_true rfl)) dX1_run_53 ⟨Nat.zero_le _, Nat.zero_le _⟩) hS (fun q _ h => hFc q h) hFc (fun r_5 u t H1 locs ht hvm hw hB hz1 hk1 hS => ?_)
          obtain ⟨b_6, hw⟩ := hw
          obtain ⟨me_7, rs_8, pcv_9, dnv_10, wv_11, fa_12, wi_13, ne_14⟩ := u
          obtain ⟨hP1, hK1, hD1⟩ := hB
          rw [ht] at hP1
          obtain ⟨hP, hD⟩ := va_join (wr := []) (w1 := [(y0, .inr (1, [.int 0, .ref ym, .ref yr, .ref yg, .int pcv_9, .int ((-1)), .int 0, .int dnv_10, .int wv_11, .int fa_12, .int wi_13, .int ne_14])), (ym, .inl (d1, 16384, .inl me_7)), (yr, .inl (d2, 4, .inl rg)), (yg, .inl (d3, 32, .inl rs_8))]) hP hD [0, 1, 2, 3] [] rfl rfl (by decide) (by decide) hk1 hFc hP1 hD1
          generalize H1 = H at hP hS ⊢
          have hP : va_P (dC, dI) vwCl [(y0, .inr (1, [.int 0, .ref ym, .ref yr, .ref yg, .int pcv_9, .int ((-1)), .int 0, .int dnv_10, .int wv_11, .int fa_12, .int wi_13, .int ne_14])), (ym, .inl (d1, 16384, .inl me_7)), (yr, .inl (d2, 4, .inl rg)), (yg, .inl (d3, 32, .inl rs_8))] H := hP
          have hD : va_D A [(y0, .inr (1, [.int 0, .ref ym, .ref yr, .ref yg, .int pcv_9, .int ((-1)), .int 0, .int dnv_10, .int wv_11, .int fa_12, .int wi_13, .int ne_14])), (ym, .inl (d1, 16384, .inl me_7)), (yr, .inl (d2, 4, .inl rg)), (yg, .inl (d3, 32, .inl rs_8))] := hD
          refine lv_istore_n (lv' := [(3, .int r_5), (2, .int (nI j)), (0, .ref y0), (1, .int (nI n))]) hx hb dX1_run_56 rfl hl (by decide) rfl (fun ls hl => ?_)
          refine lv_iload_n hx hb dX1_run_57 rfl (lv_at hl 0 rfl) ?_
          refine lv_if_eq (tgt := 67) hx hb dX1_run_58 (by decide) (fun cy => ?_) (fun cy => ?_)
          · have hrun2 := runM_no hw cy hk hrun
            refine lv_iload_n hx hb dX1_run_67 rfl (lv_at hl 1 rfl) ?_
            refine lv_istore_n (lv' := [(2, .int (nI j)), (3, .int r_5), (0, .ref y0), (1, .int (nI n))]) hx hb dX1_run_68 rfl hl (by decide) rfl (fun ls hl => ?_)
            refine lv_goto (tgt := 43) hx hb dX1_run_69 (by decide) ?_
            refine lv_iload_n hx hb dX1_run_43 rfl (lv_at hl 0 rfl) ?_
            refine lv_iload_n hx hb dX1_run_44 rfl (lv_at hl 3 rfl) ?_
            refine lv_icmp_ge (tgt := 72) hx hb dX1_run_45 (by decide) (fun c0 => absurd c0 cx) (fun _ => ?_)
            refine lv_iload_n hx hb dX1_run_48 rfl (lv_at hl 1 rfl) ?_
            refine lv_if_eq (tgt := 72) hx hb dX1_run_49 (by decide) (fun _ => ?_) (fun c0 => absurd cy c0)
            refine lv_iload_n hx hb dX1_run_72 rfl (lv_at hl 1 rfl) ?_
            refine lv_if_ne (tgt := 92) hx hb dX1_run_73 (by decide) (fun cz => ?_) (fun cz => ?_)
            · exact absurd cy cz
            · refine lv_aload_n hx hb dX1_run_76 rfl (lv_at hl 2 rfl) ?_
              refine lv_aload_n hx hb dX1_run_77 rfl (lv_at hl 2 rfl) ?_
              refine va_get (D := (dC, dI)) (ci := 1) (v := .int fa_12) (C := RX1) (T := TX1) (N := 12) hx hb hts (gw_lay lay_X1) hown hK hP 0 rfl rfl 9 (by decide) (hts _ (gcons mF_X1_54)) (fun _ h9 => h9) rfl dX1_run_78 ?_
              refine va_put (D := (dC, dI)) (ci := 1) (v := .int fa_12) (ty := .int) (C := RX1) (T := TX1) (N := 12) hx hb hts (gw_lay lay_X1) tyX1 tyX1_ok nmX1 hown hK hP hD hS 0 rfl rfl 5 (by decide) (hts _ (gcons mF_X1_20)) (fun _ h9 => h9) rfl (by decide +kernel) rfl rfl (Nat.le_of_ble_eq_true rfl) dX1_run_81 (fun H locs hP hD hS => ?_)
              have hP : va_P (dC, dI) vwCl [(y0, .inr (1, [.int 0, .ref ym, .ref yr, .ref yg, .int pcv_9, .int fa_12, .int 0, .int dnv_10, .int wv_11, .int fa_12, .int wi_13, .int ne_14])), (ym, .inl (d1, 16384, .inl me_7)), (yr, .inl (d2, 4, .inl rg)), (yg, .inl (d3, 32, .inl rs_8))] H := hP
              have hD : va_D A [(y0, .inr (1, [.int 0, .ref ym, .ref yr, .ref yg, .int pcv_9, .int fa_12, .int 0, .int dnv_10, .int wv_11, .int fa_12, .int wi_13, .int ne_14])), (ym, .inl (d1, 16384, .inl me_7)), (yr, .inl (d2, 4, .inl rg)), (yg, .inl (d3, 32, .inl rs_8))] := hD
              refine lv_aload_n hx hb dX1_run_84 rfl (lv_at hl 2 rfl) ?_
              refine lv_aload_n hx hb dX1_run_85 rfl (lv_at hl 2 rfl) ?_
              refine va_get (D := (dC, dI)) (ci := 1) (v := .int wi_13) (C := RX1) (T := TX1) (N := 12) hx hb hts (gw_lay lay_X1) hown hK hP 0 rfl rfl 10 (by decide) (hts _ (gcons mF_X1_57)) (fun _ h9 => h9) rfl dX1_run_86 ?_
              refine va_put (D := (dC, dI)) (ci := 1) (v := .int wi_13) (ty := .int) (C := RX1) (T := TX1) (N := 12) hx hb hts (gw_lay lay_X1) tyX1 tyX1_ok nmX1 hown hK hP hD hS 0 rfl rfl 6 (by decide) (hts _ (gcons mF_X1_136)) (fun _ h9 => h9) rfl (by decide +kernel) rfl rfl (Nat.le_of_ble_eq_true rfl) dX1_run_89 (fun H locs hP hD hS => ?_)
              have hP : va_P (dC, dI) vwCl [(y0, .inr (1, [.int 0, .ref ym, .ref yr, .ref yg, .int pcv_9, .int fa_12, .int wi_13, .int dnv_10, .int wv_11, .int fa_12, .int wi_13, .int ne_14])), (ym, .inl (d1, 16384, .inl me_7)), (yr, .inl (d2, 4, .inl rg)), (yg, .inl (d3, 32, .inl rs_8))] H := hP
              have hD : va_D A [(y0, .inr (1, [.int 0, .ref ym, .ref yr, .ref yg, .int pcv_9, .int fa_12, .int wi_13, .int dnv_10, .int wv_11, .int fa_12, .int wi_13, .int ne_14])), (ym, .inl (d1, 16384, .inl me_7)), (yr, .inl (d2, 4, .inl rg)), (yg, .inl (d3, 32, .inl rs_8))] := hD
              refine lv_iload_n hx hb dX1_run_92 rfl (lv_at hl 0 rfl) ?_
              exact W.iret (v := nI j) hx hb hr (fun t ht hW => ⟨⟨_, (0, (me_7, rs_8, pcv_9, dnv_10, wv_11, fa_12, wi_13, ne_14), fa_12, wi_13), rfl, Or.inr ⟨hok, by rw [hrun2], by rw [hrun2]; rfl⟩, by rw [ht]; exact hP, va_K.moved hW.alike hK, hD⟩, hS.F ht⟩) hS.2.2 dX1_run_93
          · refine lv_iload_n hx hb dX1_run_61 rfl (lv_at hl 1 rfl) ?_
            refine lv_iconst (v := 1) hx hb dX1_run_62 (by decide) ?_
            refine lv_iadd hx hb dX1_run_63 ?_
            refine lv_goto (tgt := 68) hx hb dX1_run_64 (by decide) ?_
            refine lv_istore_n (lv' := [(2, .int (nI j + 1)), (3, .int r_5), (0, .ref y0), (1, .int (nI n))]) hx hb dX1_run_68 rfl hl (by decide) rfl (fun ls hl => ?_)
            refine lv_goto (tgt := 43) hx hb dX1_run_69 (by decide) ?_
            rw [nI_1] at hl
            exact ih H locs ls hlt ⟨(me_7, rs_8, pcv_9, dnv_10, wv_11, fa_12, wi_13, ne_14), r_5, cy, hP, hD, hS, hl, runM_go hw cy hk hrun⟩
      · exact absurd (by decide) c_4
    · refine lv_iconst (v := 1) hx hb dX1_run_12 (by decide) ?_
      refine lv_goto (tgt := 17) hx hb dX1_run_13 (by decide) ?_
      refine va_put (D := (dC, dI)) (ci := 1) (v := .int 1) (ty := .int) (C := RX1) (T := TX1) (N := 12) hx hb hts (gw_lay lay_X1) tyX1 tyX1_ok nmX1 hown hK hP hD hS 0 rfl rfl 0 (by decide) (hts _ (gcons mF_X1_24)) (fun _ h9 => h9) rfl (by decide +kernel) rfl rfl (Nat.le_of_ble_eq_true rfl) dX1_run_17 (fun H locs hP hD hS => ?_)
      have hP : va_P (dC, dI) vwCl [(y0, .inr (1, [.int 1, .ref ym, .ref yr, .ref yg, .int pcv, .int trv, .int vav, .int dnv, .int wv, .int fa, .int wi, .int ne])), (ym, .inl (d1, 16384, .inl me)), (yr, .inl (d2, 4, .inl rg)), (yg, .inl (d3, 32, .inl rs))] H := hP
      have hD : va_D A [(y0, .inr (1, [.int 1, .ref ym, .ref yr, .ref yg, .int pcv, .int trv, .int vav, .int dnv, .int wv, .int fa, .int wi, .int ne])), (ym, .inl (d1, 16384, .inl me)), (yr, .inl (d2, 4, .inl rg)), (yg, .inl (d3, 32, .inl rs))] := hD
      refine lv_aload_n hx hb dX1_run_20 rfl (lv_at hl 0 rfl) ?_
      refine va_get (D := (dC, dI)) (ci := 1) (v := .int 1) (C := RX1) (T := TX1) (N := 12) hx hb hts (gw_lay lay_X1) hown hK hP 0 rfl rfl 0 (by decide) (hts _ (gcons mF_X1_24)) (fun _ h9 => h9) rfl dX1_run_21 ?_
      refine lv_if_le (tgt := 29) hx hb dX1_run_24 (by decide) (fun c_15 => ?_) (fun c_15 => ?_)
      · exact absurd c_15 (by decide)
      · refine lv_iconst (v := 0) hx hb dX1_run_27 (by decide) ?_
        exact W.iret (v := 0) hx hb hr (fun t ht hW => ⟨⟨_, (1, (me, rs, pcv, dnv, wv, fa, wi, ne), trv, vav), rfl, Or.inl ⟨Or.inr c_3, rfl, rfl⟩, by rw [ht]; exact hP, va_K.moved hW.alike hK, hD⟩, hS.F ht⟩) hS.2.2 dX1_run_28
