def F_m_may (rg : Nat → Int32) (a1 : Int32) (a2 : Int32) : Int32 :=
  if a1 < 0 then
    0
  else
    if (16384 : Int32) ≤ a1 then
      0
    else
      if (((rg (a1 / 4096).toNatClampNeg) / a2) - ((rg (a1 / 4096).toNatClampNeg) / a2) / 2 * 2) = 1 then
        1
      else
        0
set_option maxHeartbeats 4000000 in
set_option maxRecDepth 100000 in
theorem c_m_may (l : Launch) (dC : Nat → ClassId) (dI : Nat → Nat → Nat) (y0 ym yr yg : Nat) (d1 d2 d3 : ClassId) (th : Int32) (me : Nat → Int32) (rg : Nat → Int32) (rs : Nat → Int32) (pcv : Int32) (trv : Int32) (vav : Int32) (dnv : Int32) (wv : Int32) (fa : Int32) (wi : Int32) (ne : Int32) (a1 : Int32) (a2 : Int32) (hne : ¬ a2 = 0) : Met l yX1_may wsX1_may ({ frames := 0, cells := 0, slots := 0, locals := 0 }) (va_Pc [.ref y0, .int a1, .int a2] (fun U => va_P (dC, dI) vwCl [(y0, .inr (1, [.int th, .ref ym, .ref yr, .ref yg, .int pcv, .int trv, .int vav, .int dnv, .int wv, .int fa, .int wi, .int ne])), (ym, .inl (d1, 16384, .inl me)), (yr, .inl (d2, 4, .inl rg)), (yg, .inl (d3, 32, .inl rs))] U.heap ∧ va_K (dC, dI) vwCl [(d1, .byte), (d2, .int), (d3, .int)] U)) (vp_Si (fun r : Int32 => narrow .boolean (.int r) = .int r ∧ r = F_m_may rg a1 a2)) 0 0 (fun _ => False) := by
  refine Met.ofW (cc := cX1_may) (maxL := 4) (ret := (some .boolean)) (by decide) rfl ?_
  intro p e s m args below meth c s₁ B hml hv
  obtain ⟨rfl, hP, hK⟩ := hv
  have hx := B.exec
  have hb := B.bytes
  have hr := B.returns
  have hts := atoms_spec (ws := wsX1_may) B.pre
  have hown : s.vm.findClass RX1 = some m.cls := findClass_of_methodNamed B.named
  have hlocks := B.notSynchronized
  have hP : va_P (dC, dI) vwCl [(y0, .inr (1, [.int th, .ref ym, .ref yr, .ref yg, .int pcv, .int trv, .int vav, .int dnv, .int wv, .int fa, .int wi, .int ne])), (ym, .inl (d1, 16384, .inl me)), (yr, .inl (d2, 4, .inl rg)), (yg, .inl (d3, 32, .inl rs))] s.heap := hP
  have hl := lv_entry ([.ref y0, .int a1, .int a2]) (n := 4) (Nat.le_of_ble_eq_true rfl)
  rw [lg_entry_eq]
  generalize (lg_sl ([.ref y0, .int a1, .int a2]) ++ List.replicate (4 - (lg_sl ([.ref y0, .int a1, .int a2])).length) Slot.unset).toArray = ls at hl ⊢
  have hl : lv_has ls 4 [(0, .ref y0), (1, .int a1), (2, .int a2)] := hl
  refine lv_iload_n hx hb dX1_may_0 rfl (lv_at hl 1 rfl) ?_
  refine lv_if_lt (tgt := 15) hx hb dX1_may_1 (by decide) (fun c_1 => ?_) (fun c_1 => ?_)
  · refine lv_iconst (v := 0) hx hb dX1_may_15 (by decide) ?_
    refine lv_istore_n (lv' := [(3, .int 0), (0, .ref y0), (1, .int a1), (2, .int a2)]) hx hb dX1_may_16 rfl hl (by decide) rfl (fun ls hl => ?_)
    refine lv_iload_n hx hb dX1_may_17 rfl (lv_at hl 0 rfl) ?_
    refine lv_if_eq (tgt := 43) hx hb dX1_may_18 (by decide) (fun c_2 => ?_) (fun c_2 => ?_)
    · refine lv_iconst (v := 0) hx hb dX1_may_43 (by decide) ?_
      exact W.zret (v := 0) (ty := .boolean) hx hb hr rfl (fun t ht hW => ⟨_, rfl, ⟨rfl, (by unfold F_m_may; first | (rw [if_pos c_1]; done) | (rw [if_pos c_1]; rfl))⟩, ht⟩) (fun _ h => by cases h) dX1_may_44
    · exact absurd (by decide) c_2
  · refine lv_iload_n hx hb dX1_may_4 rfl (lv_at hl 1 rfl) ?_
    refine lv_sipush (v := 16384) hx hb dX1_may_5 (by decide) ?_
    refine lv_icmp_ge (tgt := 15) hx hb dX1_may_8 (by decide) (fun c_3 => ?_) (fun c_3 => ?_)
    · refine lv_iconst (v := 0) hx hb dX1_may_15 (by decide) ?_
      refine lv_istore_n (lv' := [(3, .int 0), (0, .ref y0), (1, .int a1), (2, .int a2)]) hx hb dX1_may_16 rfl hl (by decide) rfl (fun ls hl => ?_)
      refine lv_iload_n hx hb dX1_may_17 rfl (lv_at hl 0 rfl) ?_
      refine lv_if_eq (tgt := 43) hx hb dX1_may_18 (by decide) (fun c_4 => ?_) (fun c_4 => ?_)
      · refine lv_iconst (v := 0) hx hb dX1_may_43 (by decide) ?_
        exact W.zret (v := 0) (ty := .boolean) hx hb hr rfl (fun t ht hW => ⟨_, rfl, ⟨rfl, (by unfold F_m_may; first | (rw [if_neg c_1, if_pos c_3]; done) | (rw [if_neg c_1, if_pos c_3]; rfl))⟩, ht⟩) (fun _ h => by cases h) dX1_may_44
      · exact absurd (by decide) c_4
    · refine lv_iconst (v := 1) hx hb dX1_may_11 (by decide) ?_
      refine lv_goto (tgt := 16) hx hb dX1_may_12 (by decide) ?_
      refine lv_istore_n (lv' := [(3, .int 1), (0, .ref y0), (1, .int a1), (2, .int a2)]) hx hb dX1_may_16 rfl hl (by decide) rfl (fun ls hl => ?_)
      refine lv_iload_n hx hb dX1_may_17 rfl (lv_at hl 0 rfl) ?_
      refine lv_if_eq (tgt := 43) hx hb dX1_may_18 (by decide) (fun c_5 => ?_) (fun c_5 => ?_)
      · exact absurd c_5 (by decide)
      · refine lv_aload_n hx hb dX1_may_21 rfl (lv_at hl 1 rfl) ?_
        refine va_get (D := (dC, dI)) (ci := 1) (v := .ref yr) (C := RX1) (T := TX1) (N := 12) hx hb hts (gw_lay lay_X1) hown hK hP 0 rfl rfl 2 (by decide) (hts _ (gcons mF_X1_13)) (fun _ h9 => h9) rfl dX1_may_22 ?_
        refine lv_iload_n hx hb dX1_may_25 rfl (lv_at hl 2 rfl) ?_
        refine lv_sipush (v := 4096) hx hb dX1_may_26 (by decide) ?_
        refine lv_idiv hx hb dX1_may_29 (by decide) ?_
        refine va_iald hx hb hK hP 2 1 rfl rfl (in_may c_1 c_3) dX1_may_30 ?_
        refine lv_iload_n hx hb dX1_may_31 rfl (lv_at hl 3 rfl) ?_
        refine lv_idiv hx hb dX1_may_32 hne ?_
        refine lv_iconst (v := 2) hx hb dX1_may_33 (by decide) ?_
        refine lv_irem hx hb dX1_may_34 (by decide) ?_
        refine lv_iconst (v := 1) hx hb dX1_may_35 (by decide) ?_
        refine lv_icmp_ne (tgt := 43) hx hb dX1_may_36 (by decide) (fun c_6 => ?_) (fun c_6 => ?_)
        · refine lv_iconst (v := 0) hx hb dX1_may_43 (by decide) ?_
          exact W.zret (v := 0) (ty := .boolean) hx hb hr rfl (fun t ht hW => ⟨_, rfl, ⟨rfl, (by unfold F_m_may; first | (rw [if_neg c_1, if_neg c_3, if_neg c_6]; done) | (rw [if_neg c_1, if_neg c_3, if_neg c_6]; rfl))⟩, ht⟩) (fun _ h => by cases h) dX1_may_44
        · refine lv_iconst (v := 1) hx hb dX1_may_39 (by decide) ?_
          refine lv_goto (tgt := 44) hx hb dX1_may_40 (by decide) ?_
          exact W.zret (v := 1) (ty := .boolean) hx hb hr rfl (fun t ht hW => ⟨_, rfl, ⟨rfl, (by unfold F_m_may; first | (rw [if_neg c_1, if_neg c_3, if_pos c_6]; done) | (rw [if_neg c_1, if_neg c_3, if_pos c_6]; rfl))⟩, ht⟩) (fun _ h => by cases h) dX1_may_44
theorem mpages_of {rg : Nat → Int32} {a k : Int32} (h : ¬ F_m_may rg a k = 0) : ∃ n : Nat, n < 16384 ∧ a = nI n := by
  unfold F_m_may at h
  by_cases h1 : a < 0
  · rw [if_pos h1] at h; exact absurd rfl h
  · rw [if_neg h1] at h
    by_cases h2 : (16384 : Int32) ≤ a
    · rw [if_pos h2] at h; exact absurd rfl h
    · obtain ⟨j, hj, rfl⟩ := nI_of h1
      refine ⟨j, ?_, rfl⟩
      rcases Nat.lt_or_ge j 16384 with q | q
      · exact q
      · exact absurd (show nI 16384 ≤ nI j from nI_le q hj) h2
theorem in_mem {a1 a2 : Int32} {j : Nat} (h : 0 ≤ a1.toInt ∧ 0 ≤ a2.toInt ∧ a2.toInt ≤ 8 ∧ a1.toInt + a2.toInt ≤ 16384) (hlt : j < a2.toNatClampNeg) : vp_in (a1 + nI j) 16384 := by
  obtain ⟨a, ha, e1, e2⟩ := nI_of_toInt h.1
  have h1 : a2.toNatClampNeg = a2.toInt.toNat := rfl
  have h2 := h.2.2.2
  have h3 := h.2.2.1
  rw [e1, nI_add]
  exact vp_in_nI (by omega) (by decide)
theorem in_byt {rg : Nat → Int32} {a n k m : Int32} (hn : (n = 1 ∧ m = 0) ∨ (n = 2 ∧ m = 1) ∨ (n = 4 ∧ m = 3)) (hc : a &&& m = 0) (hm : ¬ F_m_may rg a k = 0) : 0 ≤ a.toInt ∧ 0 ≤ n.toInt ∧ n.toInt ≤ 8 ∧ a.toInt + n.toInt ≤ 16384 := by
  obtain ⟨x, hx, rfl⟩ := mpages_of hm
  have tn : (nI x).toInt = (x : Int) := nI_toInt (by omega)
  rw [tn]
  rcases hn with ⟨rfl, rfl⟩ | ⟨rfl, rfl⟩ | ⟨rfl, rfl⟩
  · have e1 : (1 : Int32).toInt = 1 := rfl
    rw [e1]
    omega
  · have e1 : (2 : Int32).toInt = 2 := rfl
    rw [e1]
    have h5 : nI x &&& 1 = nI (x % 2 ^ 1) := pk_andN (by omega) 1 (by decide)
    rw [h5] at hc
    have h7 : x % 2 ^ 1 = 0 := by
      rcases Nat.eq_zero_or_pos (x % 2 ^ 1) with q | q
      · exact q
      · exact absurd hc (nI_ne0 q (by omega))
    omega
  · have e1 : (4 : Int32).toInt = 4 := rfl
    rw [e1]
    have h5 : nI x &&& 3 = nI (x % 2 ^ 2) := pk_andN (by omega) 2 (by decide)
    rw [h5] at hc
    have h7 : x % 2 ^ 2 = 0 := by
      rcases Nat.eq_zero_or_pos (x % 2 ^ 2) with q | q
      · exact q
      · exact absurd hc (nI_ne0 q (by omega))
    omega
theorem in_sto {rg : Nat → Int32} {a n k : Int32} {N j : Nat} (hn : (N = 1 ∧ n = 1) ∨ (N = 2 ∧ n = 2) ∨ (N = 4 ∧ n = 4)) (hc : a &&& (n - 1) = 0) (hm : ¬ F_m_may rg a k = 0) (hlt : j < N) : vp_in (a + nI j) 16384 := by
  have h := in_byt (n := n) (m := n - 1) (by rcases hn with ⟨-, rfl⟩ | ⟨-, rfl⟩ | ⟨-, rfl⟩ <;> decide) hc hm
  refine in_mem h ?_
  rcases hn with ⟨rfl, rfl⟩ | ⟨rfl, rfl⟩ | ⟨rfl, rfl⟩ <;> exact hlt
theorem in_mpoke {a1 a2 : Int32} {j : Nat} (h1 : ¬ a2 < 1) (h2 : ¬ (8 : Int32) < a2) (h3 : ¬ a1 < 0) (h4 : a1 ≤ 16384 - a2) (hlt : j < a2.toNatClampNeg) : vp_in (a1 + nI j) 16384 := in_mem (in_poke h1 (Int32.not_lt.mp h2) h3 h4) hlt
theorem vp_ix {a : Int32} {n : Nat} (h1 : 0 ≤ a.toInt) (h2 : a.toInt < n) : vp_in a n := vp_in_iff.mpr ⟨h1, h2⟩
theorem in_mpeek {a : Int32} (h1 : ¬ a < 0) (h2 : ¬ (16384 : Int32) ≤ a) : vp_in a 16384 := by
  rw [Int32.lt_iff_toInt_lt] at h1
  rw [Int32.le_iff_toInt_le] at h2
  have e0 : (0 : Int32).toInt = 0 := rfl
  have e1 : (16384 : Int32).toInt = 16384 := rfl
  exact vp_ix (by omega) (by omega)
theorem in_mpage {a : Int32} (h1 : ¬ a < 0) (h2 : ¬ (3 : Int32) < a) : vp_in a 4 := by
  rw [Int32.lt_iff_toInt_lt] at h1 h2
  have e0 : (0 : Int32).toInt = 0 := rfl
  have e1 : (3 : Int32).toInt = 3 := rfl
  exact vp_ix (by omega) (by omega)
theorem in_mreg {a : Int32} (h1 : ¬ a < 0) (h2q : a ≤ 31) : vp_in a 32 := by
  have h2 := Int32.not_lt.mpr h2q
  rw [Int32.lt_iff_toInt_lt] at h1 h2
  have e0 : (0 : Int32).toInt = 0 := rfl
  have e1 : (31 : Int32).toInt = 31 := rfl
  exact vp_ix (by omega) (by omega)
theorem in_mreg2 {a : Int32} (h1 : ¬ a < 0) (h2 : ¬ (32 : Int32) ≤ a) : vp_in a 32 := by
  rw [Int32.lt_iff_toInt_lt] at h1
  rw [Int32.le_iff_toInt_le] at h2
  have e0 : (0 : Int32).toInt = 0 := rfl
  have e1 : (32 : Int32).toInt = 32 := rfl
  exact vp_ix (by omega) (by omega)
def B_bytes (me : Nat → Int32) (a1 : Int32) (j : Nat) (acc : Int32) : Int32 :=
  (acc) ||| (((me (a1 + (nI j)).toNatClampNeg) &&& 255) <<< ((8 * (nI j)) &&& 31))
def L_bytes (me : Nat → Int32) (a1 : Int32) : Nat → Int32
  | 0 => 0
  | j + 1 => B_bytes me a1 j (L_bytes me a1 j)
def F_m_bytes (me : Nat → Int32) (a1 : Int32) (a2 : Int32) : Int32 :=
  (L_bytes me a1 (a2.toNatClampNeg))
set_option maxHeartbeats 4000000 in
set_option maxRecDepth 100000 in
theorem c_m_bytes (l : Launch) (dC : Nat → ClassId) (dI : Nat → Nat → Nat) (y0 ym yr yg : Nat) (d1 d2 d3 : ClassId) (th : Int32) (me : Nat → Int32) (rg : Nat → Int32) (rs : Nat → Int32) (pcv : Int32) (trv : Int32) (vav : Int32) (dnv : Int32) (wv : Int32) (fa : Int32) (wi : Int32) (ne : Int32) (a1 : Int32) (a2 : Int32) (hpb : 0 ≤ a1.toInt ∧ 0 ≤ a2.toInt ∧ a2.toInt ≤ 8 ∧ a1.toInt + a2.toInt ≤ 16384) : Met l yX1_bytes wsX1_bytes ({ frames := 0, cells := 0, slots := 0, locals := 0 }) (va_Pc [.ref y0, .int a1, .int a2] (fun U => va_P (dC, dI) vwCl [(y0, .inr (1, [.int th, .ref ym, .ref yr, .ref yg, .int pcv, .int trv, .int vav, .int dnv, .int wv, .int fa, .int wi, .int ne])), (ym, .inl (d1, 16384, .inl me)), (yr, .inl (d2, 4, .inl rg)), (yg, .inl (d3, 32, .inl rs))] U.heap ∧ va_K (dC, dI) vwCl [(d1, .byte), (d2, .int), (d3, .int)] U)) (vp_Si (fun r : Int32 => r = F_m_bytes me a1 a2)) 0 0 (fun _ => False) := by
  refine Met.ofW (cc := cX1_bytes) (maxL := 5) (ret := (some .int)) (by decide) rfl ?_
  intro p e s m args below meth c s₁ B hml hv
  obtain ⟨rfl, hP, hK⟩ := hv
  have hx := B.exec
  have hb := B.bytes
  have hr := B.returns
  have hts := atoms_spec (ws := wsX1_bytes) B.pre
  have hown : s.vm.findClass RX1 = some m.cls := findClass_of_methodNamed B.named
  have hlocks := B.notSynchronized
  have hP : va_P (dC, dI) vwCl [(y0, .inr (1, [.int th, .ref ym, .ref yr, .ref yg, .int pcv, .int trv, .int vav, .int dnv, .int wv, .int fa, .int wi, .int ne])), (ym, .inl (d1, 16384, .inl me)), (yr, .inl (d2, 4, .inl rg)), (yg, .inl (d3, 32, .inl rs))] s.heap := hP
  have hl := lv_entry ([.ref y0, .int a1, .int a2]) (n := 5) (Nat.le_of_ble_eq_true rfl)
  rw [lg_entry_eq]
  generalize (lg_sl ([.ref y0, .int a1, .int a2]) ++ List.replicate (5 - (lg_sl ([.ref y0, .int a1, .int a2])).length) Slot.unset).toArray = ls at hl ⊢
  have hl : lv_has ls 5 [(0, .ref y0), (1, .int a1), (2, .int a2)] := hl
  refine lv_iconst (v := 0) hx hb dX1_bytes_0 (by decide) ?_
  refine lv_istore_n (lv' := [(3, .int 0), (0, .ref y0), (1, .int a1), (2, .int a2)]) hx hb dX1_bytes_1 rfl hl (by decide) rfl (fun ls hl => ?_)
  refine lv_iconst (v := 0) hx hb dX1_bytes_2 (by decide) ?_
  refine lv_istore (lv' := [(4, .int 0), (3, .int 0), (0, .ref y0), (1, .int a1), (2, .int a2)]) hx hb dX1_bytes_3 hl (by decide) rfl (fun ls hl => ?_)
  have hl := lv_sub hl [0, 1, 2, 3, 4] rfl
  refine lv_loop (n := a2.toNatClampNeg) (P := fun j H locs ls => (H = s.heap ∧ locs = []) ∧ lv_has ls 5 [(4, .int (nI j)), (3, .int ((L_bytes me a1 j))), (0, .ref y0), (1, .int a1), (2, .int a2)]) (Wg := fun H locs ls => W p l e _ s m _ below meth c H locs 0 0 _ (F0 m 5 ls [])) ?_ (a2.toNatClampNeg) 0 _ _ ls (by omega) (Nat.zero_le _) ⟨⟨rfl, rfl⟩, hl⟩
  rintro j H locs ls hj ⟨⟨rfl, rfl⟩, hl⟩ ih
  refine lv_iload hx hb dX1_bytes_5 (lv_at hl 0 rfl) ?_
  refine lv_iload_n hx hb dX1_bytes_7 rfl (lv_at hl 4 rfl) ?_
  refine lv_icmp_ge (tgt := 39) hx hb dX1_bytes_8 (by decide) (fun c_1 => ?_) (fun c_1 => ?_)
  · have hjn : j = a2.toNatClampNeg := lp_end hj c_1
    subst hjn
    refine lv_iload_n hx hb dX1_bytes_39 rfl (lv_at hl 1 rfl) ?_
    exact W.iret (v := (L_bytes me a1 (a2.toNatClampNeg))) hx hb hr (fun t ht hW => ⟨_, rfl, (by unfold F_m_bytes; rfl), ht⟩) (fun _ h => by cases h) dX1_bytes_40
  · have hlt : j < a2.toNatClampNeg := lp_lt hj c_1
    refine lv_iload_n hx hb dX1_bytes_11 rfl (lv_at hl 1 rfl) ?_
    refine lv_aload_n hx hb dX1_bytes_12 rfl (lv_at hl 2 rfl) ?_
    refine va_get (D := (dC, dI)) (ci := 1) (v := .ref ym) (C := RX1) (T := TX1) (N := 12) hx hb hts (gw_lay lay_X1) hown hK hP 0 rfl rfl 1 (by decide) (hts _ (gcons mF_X1_7)) (fun _ h9 => h9) rfl dX1_bytes_13 ?_
    refine lv_iload_n hx hb dX1_bytes_16 rfl (lv_at hl 3 rfl) ?_
    refine lv_iload hx hb dX1_bytes_17 (lv_at hl 0 rfl) ?_
    refine lv_iadd hx hb dX1_bytes_19 ?_
    refine va_bald hx hb hK hP 1 0 rfl rfl (in_mem hpb hlt) dX1_bytes_20 ?_
    refine lv_sipush (v := 255) hx hb dX1_bytes_21 (by decide) ?_
    refine lv_iand hx hb dX1_bytes_24 ?_
    refine lv_bipush (v := 8) hx hb dX1_bytes_25 (by decide) ?_
    refine lv_iload hx hb dX1_bytes_27 (lv_at hl 0 rfl) ?_
    refine lv_imul hx hb dX1_bytes_29 ?_
    refine lv_ishl hx hb dX1_bytes_30 ?_
    refine lv_ior hx hb dX1_bytes_31 ?_
    refine lv_istore_n (lv' := [(3, .int (((L_bytes me a1 j)) ||| (((me (a1 + (nI j)).toNatClampNeg) &&& 255) <<< ((8 * (nI j)) &&& 31)))), (4, .int (nI j)), (0, .ref y0), (1, .int a1), (2, .int a2)]) hx hb dX1_bytes_32 rfl hl (by decide) rfl (fun ls hl => ?_)
    refine lv_iinc (v := (nI j) + 1) (lv' := [(4, .int ((nI j) + 1)), (3, .int (((L_bytes me a1 j)) ||| (((me (a1 + (nI j)).toNatClampNeg) &&& 255) <<< ((8 * (nI j)) &&& 31)))), (0, .ref y0), (1, .int a1), (2, .int a2)]) hx hb dX1_bytes_33 hl (k := 1) rfl rfl (by decide) rfl (fun ls hl => ?_)
    refine lv_goto (tgt := 5) hx hb dX1_bytes_36 (by decide) ?_
    have hl := lv_sub hl [0, 1, 2, 3, 4] rfl
    have hacc : (L_bytes me a1 (j + 1)) = ((L_bytes me a1 j)) ||| (((me (a1 + (nI j)).toNatClampNeg) &&& 255) <<< ((8 * (nI j)) &&& 31)) := by show B_bytes me a1 j (L_bytes me a1 j) = _; unfold B_bytes; rfl
    rw [nI_1] at hl
    exact ih _ _ ls hlt ⟨⟨rfl, rfl⟩, by rw [hacc]; exact hl⟩
def F_m_thrown (th : Int32)  : Int32 :=
  th
set_option maxHeartbeats 4000000 in
set_option maxRecDepth 100000 in
theorem c_m_thrown (l : Launch) (dC : Nat → ClassId) (dI : Nat → Nat → Nat) (y0 ym yr yg : Nat) (d1 d2 d3 : ClassId) (th : Int32) (me : Nat → Int32) (rg : Nat → Int32) (rs : Nat → Int32) (pcv : Int32) (trv : Int32) (vav : Int32) (dnv : Int32) (wv : Int32) (fa : Int32) (wi : Int32) (ne : Int32)   : Met l yX1_thrown wsX1_thrown ({ frames := 0, cells := 0, slots := 0, locals := 0 }) (va_Pc [.ref y0] (fun U => va_P (dC, dI) vwCl [(y0, .inr (1, [.int th, .ref ym, .ref yr, .ref yg, .int pcv, .int trv, .int vav, .int dnv, .int wv, .int fa, .int wi, .int ne])), (ym, .inl (d1, 16384, .inl me)), (yr, .inl (d2, 4, .inl rg)), (yg, .inl (d3, 32, .inl rs))] U.heap ∧ va_K (dC, dI) vwCl [(d1, .byte), (d2, .int), (d3, .int)] U)) (vp_Si (fun r : Int32 => r = F_m_thrown th)) 0 0 (fun _ => False) := by
  refine Met.ofW (cc := cX1_thrown) (maxL := 1) (ret := (some .int)) (by decide) rfl ?_
  intro p e s m args below meth c s₁ B hml hv
  obtain ⟨rfl, hP, hK⟩ := hv
  have hx := B.exec
  have hb := B.bytes
  have hr := B.returns
  have hts := atoms_spec (ws := wsX1_thrown) B.pre
  have hown : s.vm.findClass RX1 = some m.cls := findClass_of_methodNamed B.named
  have hlocks := B.notSynchronized
  have hP : va_P (dC, dI) vwCl [(y0, .inr (1, [.int th, .ref ym, .ref yr, .ref yg, .int pcv, .int trv, .int vav, .int dnv, .int wv, .int fa, .int wi, .int ne])), (ym, .inl (d1, 16384, .inl me)), (yr, .inl (d2, 4, .inl rg)), (yg, .inl (d3, 32, .inl rs))] s.heap := hP
  have hl := lv_entry ([.ref y0]) (n := 1) (Nat.le_of_ble_eq_true rfl)
  rw [lg_entry_eq]
  generalize (lg_sl ([.ref y0]) ++ List.replicate (1 - (lg_sl ([.ref y0])).length) Slot.unset).toArray = ls at hl ⊢
  have hl : lv_has ls 1 [(0, .ref y0)] := hl
  refine lv_aload_n hx hb dX1_thrown_0 rfl (lv_at hl 0 rfl) ?_
  refine va_get (D := (dC, dI)) (ci := 1) (v := .int th) (C := RX1) (T := TX1) (N := 12) hx hb hts (gw_lay lay_X1) hown hK hP 0 rfl rfl 0 (by decide) (hts _ (gcons mF_X1_24)) (fun _ h9 => h9) rfl dX1_thrown_1 ?_
  exact W.iret (v := th) hx hb hr (fun t ht hW => ⟨_, rfl, (by unfold F_m_thrown; rfl), ht⟩) (fun _ h => by cases h) dX1_thrown_4
def F_m_i (wv : Int32)  : Int32 :=
  F_m_signed (F_m_part wv 20 12) 12
set_option maxHeartbeats 4000000 in
set_option maxRecDepth 100000 in
theorem c_m_i (l : Launch) (dC : Nat → ClassId) (dI : Nat → Nat → Nat) (y0 ym yr yg : Nat) (d1 d2 d3 : ClassId) (th : Int32) (me : Nat → Int32) (rg : Nat → Int32) (rs : Nat → Int32) (pcv : Int32) (trv : Int32) (vav : Int32) (dnv : Int32) (wv : Int32) (fa : Int32) (wi : Int32) (ne : Int32)   : Met l yX1_i wsX1_i ({ frames := 1, cells := 0, slots := 0, locals := 24 }) (va_Pc [.ref y0] (fun U => va_P (dC, dI) vwCl [(y0, .inr (1, [.int th, .ref ym, .ref yr, .ref yg, .int pcv, .int trv, .int vav, .int dnv, .int wv, .int fa, .int wi, .int ne])), (ym, .inl (d1, 16384, .inl me)), (yr, .inl (d2, 4, .inl rg)), (yg, .inl (d3, 32, .inl rs))] U.heap ∧ va_K (dC, dI) vwCl [(d1, .byte), (d2, .int), (d3, .int)] U)) (vp_Si (fun r : Int32 => r = F_m_i wv)) 0 0 (fun _ => False) := by
  refine Met.ofW (cc := cX1_i) (maxL := 1) (ret := (some .int)) (by decide) rfl ?_
  intro p e s m args below meth c s₁ B hml hv
  obtain ⟨rfl, hP, hK⟩ := hv
  have hx := B.exec
  have hb := B.bytes
  have hr := B.returns
  have hts := atoms_spec (ws := wsX1_i) B.pre
  have hown : s.vm.findClass RX1 = some m.cls := findClass_of_methodNamed B.named
  have hlocks := B.notSynchronized
  have hP : va_P (dC, dI) vwCl [(y0, .inr (1, [.int th, .ref ym, .ref yr, .ref yg, .int pcv, .int trv, .int vav, .int dnv, .int wv, .int fa, .int wi, .int ne])), (ym, .inl (d1, 16384, .inl me)), (yr, .inl (d2, 4, .inl rg)), (yg, .inl (d3, 32, .inl rs))] s.heap := hP
  have hl := lv_entry ([.ref y0]) (n := 1) (Nat.le_of_ble_eq_true rfl)
  rw [lg_entry_eq]
  generalize (lg_sl ([.ref y0]) ++ List.replicate (1 - (lg_sl ([.ref y0])).length) Slot.unset).toArray = ls at hl ⊢
  have hl : lv_has ls 1 [(0, .ref y0)] := hl
  refine lv_aload_n hx hb dX1_i_0 rfl (lv_at hl 0 rfl) ?_
  refine lv_bipush (v := 20) hx hb dX1_i_1 (by decide) ?_
  refine lv_bipush (v := 12) hx hb dX1_i_3 (by decide) ?_
  refine vp_callSi (W.runV (As := [.int 20, .int 12]) (rest := []) ⟨hx, hb, hml, hown, hts⟩ (c_m_part l dC dI y0 ym yr yg d1 d2 d3 th me rg rs pcv trv vav dnv wv fa wi ne 20 12) (cwV 2 hts (gV mL_X1_33 mI_X1_part mE_X1_part mN_X1 mC_X1_part) rfl rfl rfl (by decide +kernel) ⟨Nat.le_of_ble_eq_true rfl, Nat.le_of_ble_eq_true rfl⟩) ⟨fun a U g mk q => by obtain ⟨q0, qP, qK⟩ := q; exact ⟨q0, qP, va_K.moved (u := U) (U := U.calling g mk a) (Vm.Alike.refl U.vm) qK⟩, va_recv hK hP (ci := 1) (q0 := 0) rfl rfl, fun U hU hW => ⟨rfl, by rw [hU]; exact hP, va_K.moved hW.alike hK⟩⟩ rfl rfl hl.1 rfl (lv_room (Nat.le_of_ble_eq_true rfl)) dX1_i_5 ⟨Nat.zero_le _, Nat.zero_le _⟩) (fun r_1 hw => ?_)
  rw [hw]
  clear hw r_1
  refine lv_bipush (v := 12) hx hb dX1_i_8 (by decide) ?_
  refine vp_callSi (W.runS (As := [.int (F_m_part wv 20 12), .int 12]) (rest := []) ⟨hx, hb, hml, hown, hts⟩ (c_m_signed l (F_m_part wv 20 12) 12) (cwS 2 hts (gS mL_X1_37 mS_X1_signed mN_X1 mC_X1_signed) rfl rfl rfl (by decide +kernel) ⟨Nat.le_of_ble_eq_true rfl, Nat.le_of_ble_eq_true rfl⟩) preEq rfl rfl hl.1 rfl (lv_room (Nat.le_of_ble_eq_true rfl)) dX1_i_10 ⟨Nat.zero_le _, Nat.zero_le _⟩) (fun r_2 hw => ?_)
  rw [hw]
  clear hw r_2
  exact W.iret (v := F_m_signed (F_m_part wv 20 12) 12) hx hb hr (fun t ht hW => ⟨_, rfl, (by unfold F_m_i; rfl), ht⟩) (fun _ h => by cases h) dX1_i_13
def F_m_s (wv : Int32)  : Int32 :=
  F_m_signed (((F_m_part wv 25 7) <<< ((5 : Int32) &&& 31)) ||| (F_m_part wv 7 5)) 12
set_option maxHeartbeats 4000000 in
set_option maxRecDepth 100000 in
theorem c_m_s (l : Launch) (dC : Nat → ClassId) (dI : Nat → Nat → Nat) (y0 ym yr yg : Nat) (d1 d2 d3 : ClassId) (th : Int32) (me : Nat → Int32) (rg : Nat → Int32) (rs : Nat → Int32) (pcv : Int32) (trv : Int32) (vav : Int32) (dnv : Int32) (wv : Int32) (fa : Int32) (wi : Int32) (ne : Int32)   : Met l yX1_s wsX1_s ({ frames := 1, cells := 0, slots := 0, locals := 24 }) (va_Pc [.ref y0] (fun U => va_P (dC, dI) vwCl [(y0, .inr (1, [.int th, .ref ym, .ref yr, .ref yg, .int pcv, .int trv, .int vav, .int dnv, .int wv, .int fa, .int wi, .int ne])), (ym, .inl (d1, 16384, .inl me)), (yr, .inl (d2, 4, .inl rg)), (yg, .inl (d3, 32, .inl rs))] U.heap ∧ va_K (dC, dI) vwCl [(d1, .byte), (d2, .int), (d3, .int)] U)) (vp_Si (fun r : Int32 => r = F_m_s wv)) 0 0 (fun _ => False) := by
  refine Met.ofW (cc := cX1_s) (maxL := 1) (ret := (some .int)) (by decide) rfl ?_
  intro p e s m args below meth c s₁ B hml hv
  obtain ⟨rfl, hP, hK⟩ := hv
  have hx := B.exec
  have hb := B.bytes
  have hr := B.returns
  have hts := atoms_spec (ws := wsX1_s) B.pre
  have hown : s.vm.findClass RX1 = some m.cls := findClass_of_methodNamed B.named
  have hlocks := B.notSynchronized
  have hP : va_P (dC, dI) vwCl [(y0, .inr (1, [.int th, .ref ym, .ref yr, .ref yg, .int pcv, .int trv, .int vav, .int dnv, .int wv, .int fa, .int wi, .int ne])), (ym, .inl (d1, 16384, .inl me)), (yr, .inl (d2, 4, .inl rg)), (yg, .inl (d3, 32, .inl rs))] s.heap := hP
  have hl := lv_entry ([.ref y0]) (n := 1) (Nat.le_of_ble_eq_true rfl)
  rw [lg_entry_eq]
  generalize (lg_sl ([.ref y0]) ++ List.replicate (1 - (lg_sl ([.ref y0])).length) Slot.unset).toArray = ls at hl ⊢
  have hl : lv_has ls 1 [(0, .ref y0)] := hl
  refine lv_aload_n hx hb dX1_s_0 rfl (lv_at hl 0 rfl) ?_
  refine lv_bipush (v := 25) hx hb dX1_s_1 (by decide) ?_
  refine lv_bipush (v := 7) hx hb dX1_s_3 (by decide) ?_
  refine vp_callSi (W.runV (As := [.int 25, .int 7]) (rest := []) ⟨hx, hb, hml, hown, hts⟩ (c_m_part l dC dI y0 ym yr yg d1 d2 d3 th me rg rs pcv trv vav dnv wv fa wi ne 25 7) (cwV 2 hts (gV mL_X1_33 mI_X1_part mE_X1_part mN_X1 mC_X1_part) rfl rfl rfl (by decide +kernel) ⟨Nat.le_of_ble_eq_true rfl, Nat.le_of_ble_eq_true rfl⟩) ⟨fun a U g mk q => by obtain ⟨q0, qP, qK⟩ := q; exact ⟨q0, qP, va_K.moved (u := U) (U := U.calling g mk a) (Vm.Alike.refl U.vm) qK⟩, va_recv hK hP (ci := 1) (q0 := 0) rfl rfl, fun U hU hW => ⟨rfl, by rw [hU]; exact hP, va_K.moved hW.alike hK⟩⟩ rfl rfl hl.1 rfl (lv_room (Nat.le_of_ble_eq_true rfl)) dX1_s_5 ⟨Nat.zero_le _, Nat.zero_le _⟩) (fun r_1 hw => ?_)
  rw [hw]
  clear hw r_1
  refine lv_iconst (v := 5) hx hb dX1_s_8 (by decide) ?_
  refine lv_ishl hx hb dX1_s_9 ?_
  refine lv_aload_n hx hb dX1_s_10 rfl (lv_at hl 0 rfl) ?_
  refine lv_bipush (v := 7) hx hb dX1_s_11 (by decide) ?_
  refine lv_iconst (v := 5) hx hb dX1_s_13 (by decide) ?_
  refine vp_callSi (W.runV (As := [.int 7, .int 5]) (rest := [.int ((F_m_part wv 25 7) <<< ((5 : Int32) &&& 31))]) ⟨hx, hb, hml, hown, hts⟩ (c_m_part l dC dI y0 ym yr yg d1 d2 d3 th me rg rs pcv trv vav dnv wv fa wi ne 7 5) (cwV 2 hts (gV mL_X1_33 mI_X1_part mE_X1_part mN_X1 mC_X1_part) rfl rfl rfl (by decide +kernel) ⟨Nat.le_of_ble_eq_true rfl, Nat.le_of_ble_eq_true rfl⟩) ⟨fun a U g mk q => by obtain ⟨q0, qP, qK⟩ := q; exact ⟨q0, qP, va_K.moved (u := U) (U := U.calling g mk a) (Vm.Alike.refl U.vm) qK⟩, va_recv hK hP (ci := 1) (q0 := 0) rfl rfl, fun U hU hW => ⟨rfl, by rw [hU]; exact hP, va_K.moved hW.alike hK⟩⟩ rfl rfl hl.1 rfl (lv_room (Nat.le_of_ble_eq_true rfl)) dX1_s_14 ⟨Nat.zero_le _, Nat.zero_le _⟩) (fun r_2 hw => ?_)
  rw [hw]
  clear hw r_2
  refine lv_ior hx hb dX1_s_17 ?_
  refine lv_bipush (v := 12) hx hb dX1_s_18 (by decide) ?_
  refine vp_callSi (W.runS (As := [.int (((F_m_part wv 25 7) <<< ((5 : Int32) &&& 31)) ||| (F_m_part wv 7 5)), .int 12]) (rest := []) ⟨hx, hb, hml, hown, hts⟩ (c_m_signed l (((F_m_part wv 25 7) <<< ((5 : Int32) &&& 31)) ||| (F_m_part wv 7 5)) 12) (cwS 2 hts (gS mL_X1_37 mS_X1_signed mN_X1 mC_X1_signed) rfl rfl rfl (by decide +kernel) ⟨Nat.le_of_ble_eq_true rfl, Nat.le_of_ble_eq_true rfl⟩) preEq rfl rfl hl.1 rfl (lv_room (Nat.le_of_ble_eq_true rfl)) dX1_s_20 ⟨Nat.zero_le _, Nat.zero_le _⟩) (fun r_3 hw => ?_)
  rw [hw]
  clear hw r_3
  exact W.iret (v := F_m_signed (((F_m_part wv 25 7) <<< ((5 : Int32) &&& 31)) ||| (F_m_part wv 7 5)) 12) hx hb hr (fun t ht hW => ⟨_, rfl, (by unfold F_m_s; rfl), ht⟩) (fun _ h => by cases h) dX1_s_23
def F_m_b (wv : Int32)  : Int32 :=
  F_m_signed (((((F_m_part wv 31 1) <<< ((12 : Int32) &&& 31)) ||| ((F_m_part wv 7 1) <<< ((11 : Int32) &&& 31))) ||| ((F_m_part wv 25 6) <<< ((5 : Int32) &&& 31))) ||| ((F_m_part wv 8 4) <<< ((1 : Int32) &&& 31))) 13
set_option maxHeartbeats 4000000 in
set_option maxRecDepth 100000 in
theorem c_m_b (l : Launch) (dC : Nat → ClassId) (dI : Nat → Nat → Nat) (y0 ym yr yg : Nat) (d1 d2 d3 : ClassId) (th : Int32) (me : Nat → Int32) (rg : Nat → Int32) (rs : Nat → Int32) (pcv : Int32) (trv : Int32) (vav : Int32) (dnv : Int32) (wv : Int32) (fa : Int32) (wi : Int32) (ne : Int32)   : Met l yX1_b wsX1_b ({ frames := 1, cells := 0, slots := 0, locals := 24 }) (va_Pc [.ref y0] (fun U => va_P (dC, dI) vwCl [(y0, .inr (1, [.int th, .ref ym, .ref yr, .ref yg, .int pcv, .int trv, .int vav, .int dnv, .int wv, .int fa, .int wi, .int ne])), (ym, .inl (d1, 16384, .inl me)), (yr, .inl (d2, 4, .inl rg)), (yg, .inl (d3, 32, .inl rs))] U.heap ∧ va_K (dC, dI) vwCl [(d1, .byte), (d2, .int), (d3, .int)] U)) (vp_Si (fun r : Int32 => r = F_m_b wv)) 0 0 (fun _ => False) := by
  refine Met.ofW (cc := cX1_b) (maxL := 1) (ret := (some .int)) (by decide) rfl ?_
  intro p e s m args below meth c s₁ B hml hv
  obtain ⟨rfl, hP, hK⟩ := hv
  have hx := B.exec
  have hb := B.bytes
  have hr := B.returns
  have hts := atoms_spec (ws := wsX1_b) B.pre
  have hown : s.vm.findClass RX1 = some m.cls := findClass_of_methodNamed B.named
  have hlocks := B.notSynchronized
  have hP : va_P (dC, dI) vwCl [(y0, .inr (1, [.int th, .ref ym, .ref yr, .ref yg, .int pcv, .int trv, .int vav, .int dnv, .int wv, .int fa, .int wi, .int ne])), (ym, .inl (d1, 16384, .inl me)), (yr, .inl (d2, 4, .inl rg)), (yg, .inl (d3, 32, .inl rs))] s.heap := hP
  have hl := lv_entry ([.ref y0]) (n := 1) (Nat.le_of_ble_eq_true rfl)
  rw [lg_entry_eq]
  generalize (lg_sl ([.ref y0]) ++ List.replicate (1 - (lg_sl ([.ref y0])).length) Slot.unset).toArray = ls at hl ⊢
  have hl : lv_has ls 1 [(0, .ref y0)] := hl
  refine lv_aload_n hx hb dX1_b_0 rfl (lv_at hl 0 rfl) ?_
  refine lv_bipush (v := 31) hx hb dX1_b_1 (by decide) ?_
  refine lv_iconst (v := 1) hx hb dX1_b_3 (by decide) ?_
  refine vp_callSi (W.runV (As := [.int 31, .int 1]) (rest := []) ⟨hx, hb, hml, hown, hts⟩ (c_m_part l dC dI y0 ym yr yg d1 d2 d3 th me rg rs pcv trv vav dnv wv fa wi ne 31 1) (cwV 2 hts (gV mL_X1_33 mI_X1_part mE_X1_part mN_X1 mC_X1_part) rfl rfl rfl (by decide +kernel) ⟨Nat.le_of_ble_eq_true rfl, Nat.le_of_ble_eq_true rfl⟩) ⟨fun a U g mk q => by obtain ⟨q0, qP, qK⟩ := q; exact ⟨q0, qP, va_K.moved (u := U) (U := U.calling g mk a) (Vm.Alike.refl U.vm) qK⟩, va_recv hK hP (ci := 1) (q0 := 0) rfl rfl, fun U hU hW => ⟨rfl, by rw [hU]; exact hP, va_K.moved hW.alike hK⟩⟩ rfl rfl hl.1 rfl (lv_room (Nat.le_of_ble_eq_true rfl)) dX1_b_4 ⟨Nat.zero_le _, Nat.zero_le _⟩) (fun r_1 hw => ?_)
  rw [hw]
  clear hw r_1
  refine lv_bipush (v := 12) hx hb dX1_b_7 (by decide) ?_
  refine lv_ishl hx hb dX1_b_9 ?_
  refine lv_aload_n hx hb dX1_b_10 rfl (lv_at hl 0 rfl) ?_
  refine lv_bipush (v := 7) hx hb dX1_b_11 (by decide) ?_
  refine lv_iconst (v := 1) hx hb dX1_b_13 (by decide) ?_
  refine vp_callSi (W.runV (As := [.int 7, .int 1]) (rest := [.int ((F_m_part wv 31 1) <<< ((12 : Int32) &&& 31))]) ⟨hx, hb, hml, hown, hts⟩ (c_m_part l dC dI y0 ym yr yg d1 d2 d3 th me rg rs pcv trv vav dnv wv fa wi ne 7 1) (cwV 2 hts (gV mL_X1_33 mI_X1_part mE_X1_part mN_X1 mC_X1_part) rfl rfl rfl (by decide +kernel) ⟨Nat.le_of_ble_eq_true rfl, Nat.le_of_ble_eq_true rfl⟩) ⟨fun a U g mk q => by obtain ⟨q0, qP, qK⟩ := q; exact ⟨q0, qP, va_K.moved (u := U) (U := U.calling g mk a) (Vm.Alike.refl U.vm) qK⟩, va_recv hK hP (ci := 1) (q0 := 0) rfl rfl, fun U hU hW => ⟨rfl, by rw [hU]; exact hP, va_K.moved hW.alike hK⟩⟩ rfl rfl hl.1 rfl (lv_room (Nat.le_of_ble_eq_true rfl)) dX1_b_14 ⟨Nat.zero_le _, Nat.zero_le _⟩) (fun r_2 hw => ?_)
  rw [hw]
  clear hw r_2
  refine lv_bipush (v := 11) hx hb dX1_b_17 (by decide) ?_
  refine lv_ishl hx hb dX1_b_19 ?_
  refine lv_ior hx hb dX1_b_20 ?_
  refine lv_aload_n hx hb dX1_b_21 rfl (lv_at hl 0 rfl) ?_
  refine lv_bipush (v := 25) hx hb dX1_b_22 (by decide) ?_
  refine lv_bipush (v := 6) hx hb dX1_b_24 (by decide) ?_
  refine vp_callSi (W.runV (As := [.int 25, .int 6]) (rest := [.int (((F_m_part wv 31 1) <<< ((12 : Int32) &&& 31)) ||| ((F_m_part wv 7 1) <<< ((11 : Int32) &&& 31)))]) ⟨hx, hb, hml, hown, hts⟩ (c_m_part l dC dI y0 ym yr yg d1 d2 d3 th me rg rs pcv trv vav dnv wv fa wi ne 25 6) (cwV 2 hts (gV mL_X1_33 mI_X1_part mE_X1_part mN_X1 mC_X1_part) rfl rfl rfl (by decide +kernel) ⟨Nat.le_of_ble_eq_true rfl, Nat.le_of_ble_eq_true rfl⟩) ⟨fun a U g mk q => by obtain ⟨q0, qP, qK⟩ := q; exact ⟨q0, qP, va_K.moved (u := U) (U := U.calling g mk a) (Vm.Alike.refl U.vm) qK⟩, va_recv hK hP (ci := 1) (q0 := 0) rfl rfl, fun U hU hW => ⟨rfl, by rw [hU]; exact hP, va_K.moved hW.alike hK⟩⟩ rfl rfl hl.1 rfl (lv_room (Nat.le_of_ble_eq_true rfl)) dX1_b_26 ⟨Nat.zero_le _, Nat.zero_le _⟩) (fun r_3 hw => ?_)
  rw [hw]
  clear hw r_3
  refine lv_iconst (v := 5) hx hb dX1_b_29 (by decide) ?_
  refine lv_ishl hx hb dX1_b_30 ?_
  refine lv_ior hx hb dX1_b_31 ?_
  refine lv_aload_n hx hb dX1_b_32 rfl (lv_at hl 0 rfl) ?_
  refine lv_bipush (v := 8) hx hb dX1_b_33 (by decide) ?_
  refine lv_iconst (v := 4) hx hb dX1_b_35 (by decide) ?_
  refine vp_callSi (W.runV (As := [.int 8, .int 4]) (rest := [.int ((((F_m_part wv 31 1) <<< ((12 : Int32) &&& 31)) ||| ((F_m_part wv 7 1) <<< ((11 : Int32) &&& 31))) ||| ((F_m_part wv 25 6) <<< ((5 : Int32) &&& 31)))]) ⟨hx, hb, hml, hown, hts⟩ (c_m_part l dC dI y0 ym yr yg d1 d2 d3 th me rg rs pcv trv vav dnv wv fa wi ne 8 4) (cwV 2 hts (gV mL_X1_33 mI_X1_part mE_X1_part mN_X1 mC_X1_part) rfl rfl rfl (by decide +kernel) ⟨Nat.le_of_ble_eq_true rfl, Nat.le_of_ble_eq_true rfl⟩) ⟨fun a U g mk q => by obtain ⟨q0, qP, qK⟩ := q; exact ⟨q0, qP, va_K.moved (u := U) (U := U.calling g mk a) (Vm.Alike.refl U.vm) qK⟩, va_recv hK hP (ci := 1) (q0 := 0) rfl rfl, fun U hU hW => ⟨rfl, by rw [hU]; exact hP, va_K.moved hW.alike hK⟩⟩ rfl rfl hl.1 rfl (lv_room (Nat.le_of_ble_eq_true rfl)) dX1_b_36 ⟨Nat.zero_le _, Nat.zero_le _⟩) (fun r_4 hw => ?_)
  rw [hw]
  clear hw r_4
  refine lv_iconst (v := 1) hx hb dX1_b_39 (by decide) ?_
  refine lv_ishl hx hb dX1_b_40 ?_
  refine lv_ior hx hb dX1_b_41 ?_
  refine lv_bipush (v := 13) hx hb dX1_b_42 (by decide) ?_
  refine vp_callSi (W.runS (As := [.int (((((F_m_part wv 31 1) <<< ((12 : Int32) &&& 31)) ||| ((F_m_part wv 7 1) <<< ((11 : Int32) &&& 31))) ||| ((F_m_part wv 25 6) <<< ((5 : Int32) &&& 31))) ||| ((F_m_part wv 8 4) <<< ((1 : Int32) &&& 31))), .int 13]) (rest := []) ⟨hx, hb, hml, hown, hts⟩ (c_m_signed l (((((F_m_part wv 31 1) <<< ((12 : Int32) &&& 31)) ||| ((F_m_part wv 7 1) <<< ((11 : Int32) &&& 31))) ||| ((F_m_part wv 25 6) <<< ((5 : Int32) &&& 31))) ||| ((F_m_part wv 8 4) <<< ((1 : Int32) &&& 31))) 13) (cwS 2 hts (gS mL_X1_37 mS_X1_signed mN_X1 mC_X1_signed) rfl rfl rfl (by decide +kernel) ⟨Nat.le_of_ble_eq_true rfl, Nat.le_of_ble_eq_true rfl⟩) preEq rfl rfl hl.1 rfl (lv_room (Nat.le_of_ble_eq_true rfl)) dX1_b_44 ⟨Nat.zero_le _, Nat.zero_le _⟩) (fun r_5 hw => ?_)
  rw [hw]
  clear hw r_5
  exact W.iret (v := F_m_signed (((((F_m_part wv 31 1) <<< ((12 : Int32) &&& 31)) ||| ((F_m_part wv 7 1) <<< ((11 : Int32) &&& 31))) ||| ((F_m_part wv 25 6) <<< ((5 : Int32) &&& 31))) ||| ((F_m_part wv 8 4) <<< ((1 : Int32) &&& 31))) 13) hx hb hr (fun t ht hW => ⟨_, rfl, (by unfold F_m_b; rfl), ht⟩) (fun _ h => by cases h) dX1_b_47
def F_m_u (wv : Int32)  : Int32 :=
  (F_m_part wv 12 20) <<< ((12 : Int32) &&& 31)
set_option maxHeartbeats 4000000 in
set_option maxRecDepth 100000 in
theorem c_m_u (l : Launch) (dC : Nat → ClassId) (dI : Nat → Nat → Nat) (y0 ym yr yg : Nat) (d1 d2 d3 : ClassId) (th : Int32) (me : Nat → Int32) (rg : Nat → Int32) (rs : Nat → Int32) (pcv : Int32) (trv : Int32) (vav : Int32) (dnv : Int32) (wv : Int32) (fa : Int32) (wi : Int32) (ne : Int32)   : Met l yX1_u wsX1_u ({ frames := 1, cells := 0, slots := 0, locals := 24 }) (va_Pc [.ref y0] (fun U => va_P (dC, dI) vwCl [(y0, .inr (1, [.int th, .ref ym, .ref yr, .ref yg, .int pcv, .int trv, .int vav, .int dnv, .int wv, .int fa, .int wi, .int ne])), (ym, .inl (d1, 16384, .inl me)), (yr, .inl (d2, 4, .inl rg)), (yg, .inl (d3, 32, .inl rs))] U.heap ∧ va_K (dC, dI) vwCl [(d1, .byte), (d2, .int), (d3, .int)] U)) (vp_Si (fun r : Int32 => r = F_m_u wv)) 0 0 (fun _ => False) := by
  refine Met.ofW (cc := cX1_u) (maxL := 1) (ret := (some .int)) (by decide) rfl ?_
  intro p e s m args below meth c s₁ B hml hv
  obtain ⟨rfl, hP, hK⟩ := hv
  have hx := B.exec
  have hb := B.bytes
  have hr := B.returns
  have hts := atoms_spec (ws := wsX1_u) B.pre
  have hown : s.vm.findClass RX1 = some m.cls := findClass_of_methodNamed B.named
  have hlocks := B.notSynchronized
  have hP : va_P (dC, dI) vwCl [(y0, .inr (1, [.int th, .ref ym, .ref yr, .ref yg, .int pcv, .int trv, .int vav, .int dnv, .int wv, .int fa, .int wi, .int ne])), (ym, .inl (d1, 16384, .inl me)), (yr, .inl (d2, 4, .inl rg)), (yg, .inl (d3, 32, .inl rs))] s.heap := hP
  have hl := lv_entry ([.ref y0]) (n := 1) (Nat.le_of_ble_eq_true rfl)
  rw [lg_entry_eq]
  generalize (lg_sl ([.ref y0]) ++ List.replicate (1 - (lg_sl ([.ref y0])).length) Slot.unset).toArray = ls at hl ⊢
  have hl : lv_has ls 1 [(0, .ref y0)] := hl
  refine lv_aload_n hx hb dX1_u_0 rfl (lv_at hl 0 rfl) ?_
  refine lv_bipush (v := 12) hx hb dX1_u_1 (by decide) ?_
  refine lv_bipush (v := 20) hx hb dX1_u_3 (by decide) ?_
  refine vp_callSi (W.runV (As := [.int 12, .int 20]) (rest := []) ⟨hx, hb, hml, hown, hts⟩ (c_m_part l dC dI y0 ym yr yg d1 d2 d3 th me rg rs pcv trv vav dnv wv fa wi ne 12 20) (cwV 2 hts (gV mL_X1_33 mI_X1_part mE_X1_part mN_X1 mC_X1_part) rfl rfl rfl (by decide +kernel) ⟨Nat.le_of_ble_eq_true rfl, Nat.le_of_ble_eq_true rfl⟩) ⟨fun a U g mk q => by obtain ⟨q0, qP, qK⟩ := q; exact ⟨q0, qP, va_K.moved (u := U) (U := U.calling g mk a) (Vm.Alike.refl U.vm) qK⟩, va_recv hK hP (ci := 1) (q0 := 0) rfl rfl, fun U hU hW => ⟨rfl, by rw [hU]; exact hP, va_K.moved hW.alike hK⟩⟩ rfl rfl hl.1 rfl (lv_room (Nat.le_of_ble_eq_true rfl)) dX1_u_5 ⟨Nat.zero_le _, Nat.zero_le _⟩) (fun r_1 hw => ?_)
  rw [hw]
  clear hw r_1
  refine lv_bipush (v := 12) hx hb dX1_u_8 (by decide) ?_
  refine lv_ishl hx hb dX1_u_10 ?_
  exact W.iret (v := (F_m_part wv 12 20) <<< ((12 : Int32) &&& 31)) hx hb hr (fun t ht hW => ⟨_, rfl, (by unfold F_m_u; rfl), ht⟩) (fun _ h => by cases h) dX1_u_11
def F_m_j (wv : Int32)  : Int32 :=
  F_m_signed (((((F_m_part wv 31 1) <<< ((20 : Int32) &&& 31)) ||| ((F_m_part wv 12 8) <<< ((12 : Int32) &&& 31))) ||| ((F_m_part wv 20 1) <<< ((11 : Int32) &&& 31))) ||| ((F_m_part wv 21 10) <<< ((1 : Int32) &&& 31))) 21
set_option maxHeartbeats 4000000 in
set_option maxRecDepth 100000 in
theorem c_m_j (l : Launch) (dC : Nat → ClassId) (dI : Nat → Nat → Nat) (y0 ym yr yg : Nat) (d1 d2 d3 : ClassId) (th : Int32) (me : Nat → Int32) (rg : Nat → Int32) (rs : Nat → Int32) (pcv : Int32) (trv : Int32) (vav : Int32) (dnv : Int32) (wv : Int32) (fa : Int32) (wi : Int32) (ne : Int32)   : Met l yX1_j wsX1_j ({ frames := 1, cells := 0, slots := 0, locals := 24 }) (va_Pc [.ref y0] (fun U => va_P (dC, dI) vwCl [(y0, .inr (1, [.int th, .ref ym, .ref yr, .ref yg, .int pcv, .int trv, .int vav, .int dnv, .int wv, .int fa, .int wi, .int ne])), (ym, .inl (d1, 16384, .inl me)), (yr, .inl (d2, 4, .inl rg)), (yg, .inl (d3, 32, .inl rs))] U.heap ∧ va_K (dC, dI) vwCl [(d1, .byte), (d2, .int), (d3, .int)] U)) (vp_Si (fun r : Int32 => r = F_m_j wv)) 0 0 (fun _ => False) := by
  refine Met.ofW (cc := cX1_j) (maxL := 1) (ret := (some .int)) (by decide) rfl ?_
  intro p e s m args below meth c s₁ B hml hv
  obtain ⟨rfl, hP, hK⟩ := hv
  have hx := B.exec
  have hb := B.bytes
  have hr := B.returns
  have hts := atoms_spec (ws := wsX1_j) B.pre
  have hown : s.vm.findClass RX1 = some m.cls := findClass_of_methodNamed B.named
  have hlocks := B.notSynchronized
  have hP : va_P (dC, dI) vwCl [(y0, .inr (1, [.int th, .ref ym, .ref yr, .ref yg, .int pcv, .int trv, .int vav, .int dnv, .int wv, .int fa, .int wi, .int ne])), (ym, .inl (d1, 16384, .inl me)), (yr, .inl (d2, 4, .inl rg)), (yg, .inl (d3, 32, .inl rs))] s.heap := hP
  have hl := lv_entry ([.ref y0]) (n := 1) (Nat.le_of_ble_eq_true rfl)
  rw [lg_entry_eq]
  generalize (lg_sl ([.ref y0]) ++ List.replicate (1 - (lg_sl ([.ref y0])).length) Slot.unset).toArray = ls at hl ⊢
  have hl : lv_has ls 1 [(0, .ref y0)] := hl
  refine lv_aload_n hx hb dX1_j_0 rfl (lv_at hl 0 rfl) ?_
  refine lv_bipush (v := 31) hx hb dX1_j_1 (by decide) ?_
  refine lv_iconst (v := 1) hx hb dX1_j_3 (by decide) ?_
  refine vp_callSi (W.runV (As := [.int 31, .int 1]) (rest := []) ⟨hx, hb, hml, hown, hts⟩ (c_m_part l dC dI y0 ym yr yg d1 d2 d3 th me rg rs pcv trv vav dnv wv fa wi ne 31 1) (cwV 2 hts (gV mL_X1_33 mI_X1_part mE_X1_part mN_X1 mC_X1_part) rfl rfl rfl (by decide +kernel) ⟨Nat.le_of_ble_eq_true rfl, Nat.le_of_ble_eq_true rfl⟩) ⟨fun a U g mk q => by obtain ⟨q0, qP, qK⟩ := q; exact ⟨q0, qP, va_K.moved (u := U) (U := U.calling g mk a) (Vm.Alike.refl U.vm) qK⟩, va_recv hK hP (ci := 1) (q0 := 0) rfl rfl, fun U hU hW => ⟨rfl, by rw [hU]; exact hP, va_K.moved hW.alike hK⟩⟩ rfl rfl hl.1 rfl (lv_room (Nat.le_of_ble_eq_true rfl)) dX1_j_4 ⟨Nat.zero_le _, Nat.zero_le _⟩) (fun r_1 hw => ?_)
  rw [hw]
  clear hw r_1
  refine lv_bipush (v := 20) hx hb dX1_j_7 (by decide) ?_
  refine lv_ishl hx hb dX1_j_9 ?_
  refine lv_aload_n hx hb dX1_j_10 rfl (lv_at hl 0 rfl) ?_
  refine lv_bipush (v := 12) hx hb dX1_j_11 (by decide) ?_
  refine lv_bipush (v := 8) hx hb dX1_j_13 (by decide) ?_
  refine vp_callSi (W.runV (As := [.int 12, .int 8]) (rest := [.int ((F_m_part wv 31 1) <<< ((20 : Int32) &&& 31))]) ⟨hx, hb, hml, hown, hts⟩ (c_m_part l dC dI y0 ym yr yg d1 d2 d3 th me rg rs pcv trv vav dnv wv fa wi ne 12 8) (cwV 2 hts (gV mL_X1_33 mI_X1_part mE_X1_part mN_X1 mC_X1_part) rfl rfl rfl (by decide +kernel) ⟨Nat.le_of_ble_eq_true rfl, Nat.le_of_ble_eq_true rfl⟩) ⟨fun a U g mk q => by obtain ⟨q0, qP, qK⟩ := q; exact ⟨q0, qP, va_K.moved (u := U) (U := U.calling g mk a) (Vm.Alike.refl U.vm) qK⟩, va_recv hK hP (ci := 1) (q0 := 0) rfl rfl, fun U hU hW => ⟨rfl, by rw [hU]; exact hP, va_K.moved hW.alike hK⟩⟩ rfl rfl hl.1 rfl (lv_room (Nat.le_of_ble_eq_true rfl)) dX1_j_15 ⟨Nat.zero_le _, Nat.zero_le _⟩) (fun r_2 hw => ?_)
  rw [hw]
  clear hw r_2
  refine lv_bipush (v := 12) hx hb dX1_j_18 (by decide) ?_
  refine lv_ishl hx hb dX1_j_20 ?_
  refine lv_ior hx hb dX1_j_21 ?_
  refine lv_aload_n hx hb dX1_j_22 rfl (lv_at hl 0 rfl) ?_
  refine lv_bipush (v := 20) hx hb dX1_j_23 (by decide) ?_
  refine lv_iconst (v := 1) hx hb dX1_j_25 (by decide) ?_
  refine vp_callSi (W.runV (As := [.int 20, .int 1]) (rest := [.int (((F_m_part wv 31 1) <<< ((20 : Int32) &&& 31)) ||| ((F_m_part wv 12 8) <<< ((12 : Int32) &&& 31)))]) ⟨hx, hb, hml, hown, hts⟩ (c_m_part l dC dI y0 ym yr yg d1 d2 d3 th me rg rs pcv trv vav dnv wv fa wi ne 20 1) (cwV 2 hts (gV mL_X1_33 mI_X1_part mE_X1_part mN_X1 mC_X1_part) rfl rfl rfl (by decide +kernel) ⟨Nat.le_of_ble_eq_true rfl, Nat.le_of_ble_eq_true rfl⟩) ⟨fun a U g mk q => by obtain ⟨q0, qP, qK⟩ := q; exact ⟨q0, qP, va_K.moved (u := U) (U := U.calling g mk a) (Vm.Alike.refl U.vm) qK⟩, va_recv hK hP (ci := 1) (q0 := 0) rfl rfl, fun U hU hW => ⟨rfl, by rw [hU]; exact hP, va_K.moved hW.alike hK⟩⟩ rfl rfl hl.1 rfl (lv_room (Nat.le_of_ble_eq_true rfl)) dX1_j_26 ⟨Nat.zero_le _, Nat.zero_le _⟩) (fun r_3 hw => ?_)
  rw [hw]
  clear hw r_3
  refine lv_bipush (v := 11) hx hb dX1_j_29 (by decide) ?_
  refine lv_ishl hx hb dX1_j_31 ?_
  refine lv_ior hx hb dX1_j_32 ?_
  refine lv_aload_n hx hb dX1_j_33 rfl (lv_at hl 0 rfl) ?_
  refine lv_bipush (v := 21) hx hb dX1_j_34 (by decide) ?_
  refine lv_bipush (v := 10) hx hb dX1_j_36 (by decide) ?_
  refine vp_callSi (W.runV (As := [.int 21, .int 10]) (rest := [.int ((((F_m_part wv 31 1) <<< ((20 : Int32) &&& 31)) ||| ((F_m_part wv 12 8) <<< ((12 : Int32) &&& 31))) ||| ((F_m_part wv 20 1) <<< ((11 : Int32) &&& 31)))]) ⟨hx, hb, hml, hown, hts⟩ (c_m_part l dC dI y0 ym yr yg d1 d2 d3 th me rg rs pcv trv vav dnv wv fa wi ne 21 10) (cwV 2 hts (gV mL_X1_33 mI_X1_part mE_X1_part mN_X1 mC_X1_part) rfl rfl rfl (by decide +kernel) ⟨Nat.le_of_ble_eq_true rfl, Nat.le_of_ble_eq_true rfl⟩) ⟨fun a U g mk q => by obtain ⟨q0, qP, qK⟩ := q; exact ⟨q0, qP, va_K.moved (u := U) (U := U.calling g mk a) (Vm.Alike.refl U.vm) qK⟩, va_recv hK hP (ci := 1) (q0 := 0) rfl rfl, fun U hU hW => ⟨rfl, by rw [hU]; exact hP, va_K.moved hW.alike hK⟩⟩ rfl rfl hl.1 rfl (lv_room (Nat.le_of_ble_eq_true rfl)) dX1_j_38 ⟨Nat.zero_le _, Nat.zero_le _⟩) (fun r_4 hw => ?_)
  rw [hw]
  clear hw r_4
  refine lv_iconst (v := 1) hx hb dX1_j_41 (by decide) ?_
  refine lv_ishl hx hb dX1_j_42 ?_
  refine lv_ior hx hb dX1_j_43 ?_
  refine lv_bipush (v := 21) hx hb dX1_j_44 (by decide) ?_
  refine vp_callSi (W.runS (As := [.int (((((F_m_part wv 31 1) <<< ((20 : Int32) &&& 31)) ||| ((F_m_part wv 12 8) <<< ((12 : Int32) &&& 31))) ||| ((F_m_part wv 20 1) <<< ((11 : Int32) &&& 31))) ||| ((F_m_part wv 21 10) <<< ((1 : Int32) &&& 31))), .int 21]) (rest := []) ⟨hx, hb, hml, hown, hts⟩ (c_m_signed l (((((F_m_part wv 31 1) <<< ((20 : Int32) &&& 31)) ||| ((F_m_part wv 12 8) <<< ((12 : Int32) &&& 31))) ||| ((F_m_part wv 20 1) <<< ((11 : Int32) &&& 31))) ||| ((F_m_part wv 21 10) <<< ((1 : Int32) &&& 31))) 21) (cwS 2 hts (gS mL_X1_37 mS_X1_signed mN_X1 mC_X1_signed) rfl rfl rfl (by decide +kernel) ⟨Nat.le_of_ble_eq_true rfl, Nat.le_of_ble_eq_true rfl⟩) preEq rfl rfl hl.1 rfl (lv_room (Nat.le_of_ble_eq_true rfl)) dX1_j_46 ⟨Nat.zero_le _, Nat.zero_le _⟩) (fun r_5 hw => ?_)
  rw [hw]
  clear hw r_5
  exact W.iret (v := F_m_signed (((((F_m_part wv 31 1) <<< ((20 : Int32) &&& 31)) ||| ((F_m_part wv 12 8) <<< ((12 : Int32) &&& 31))) ||| ((F_m_part wv 20 1) <<< ((11 : Int32) &&& 31))) ||| ((F_m_part wv 21 10) <<< ((1 : Int32) &&& 31))) 21) hx hb hr (fun t ht hW => ⟨_, rfl, (by unfold F_m_j; rfl), ht⟩) (fun _ h => by cases h) dX1_j_49
def F_m_fail  (a1 : Int32) (a2 : Int32) : Int32 × Int32 :=
  (a1, a2)
set_option maxHeartbeats 4000000 in
set_option maxRecDepth 100000 in
theorem c_m_fail (l : Launch) (dC : Nat → ClassId) (dI : Nat → Nat → Nat) (y0 ym yr yg : Nat) (d1 d2 d3 : ClassId) (sz : Nat) (th : Int32) (me : Nat → Int32) (rg : Nat → Int32) (rs : Nat → Int32) (pcv : Int32) (trv : Int32) (vav : Int32) (dnv : Int32) (wv : Int32) (fa : Int32) (wi : Int32) (ne : Int32) (a1 : Int32) (a2 : Int32)  : Met l yX1_fail wsX1_fail ({ frames := 0, cells := 0, slots := 0, locals := 0 }) (va_Pc [.ref y0, .int a1, .int a2] (fun U => U.heap.size = sz ∧ va_P (dC, dI) vwCl [(y0, .inr (1, [.int th, .ref ym, .ref yr, .ref yg, .int pcv, .int trv, .int vav, .int dnv, .int wv, .int fa, .int wi, .int ne])), (ym, .inl (d1, 16384, .inl me)), (yr, .inl (d2, 4, .inl rg)), (yg, .inl (d3, 32, .inl rs))] U.heap ∧ va_K (dC, dI) vwCl [(d1, .byte), (d2, .int), (d3, .int)] U ∧ va_D (fun _ => True) [(y0, .inr (1, [.int th, .ref ym, .ref yr, .ref yg, .int pcv, .int trv, .int vav, .int dnv, .int wv, .int fa, .int wi, .int ne])), (ym, .inl (d1, 16384, .inl me)), (yr, .inl (d2, 4, .inl rg)), (yg, .inl (d3, 32, .inl rs))])) (va_Qv (fun u : Int32 × Int32 => u = F_m_fail a1 a2) (fun (u : Int32 × Int32) (t : State) => va_P (dC, dI) vwCl [(y0, .inr (1, [.int th, .ref ym, .ref yr, .ref yg, .int pcv, .int trv, .int vav, .int dnv, .int wv, .int u.1, .int u.2, .int ne])), (ym, .inl (d1, 16384, .inl me)), (yr, .inl (d2, 4, .inl rg)), (yg, .inl (d3, 32, .inl rs))] t.heap ∧ va_K (dC, dI) vwCl [(d1, .byte), (d2, .int), (d3, .int)] t ∧ va_D (va_A [(y0, .inr (1, [.int th, .ref ym, .ref yr, .ref yg, .int pcv, .int trv, .int vav, .int dnv, .int wv, .int fa, .int wi, .int ne])), (ym, .inl (d1, 16384, .inl me)), (yr, .inl (d2, 4, .inl rg)), (yg, .inl (d3, 32, .inl rs))] sz) [(y0, .inr (1, [.int th, .ref ym, .ref yr, .ref yg, .int pcv, .int trv, .int vav, .int dnv, .int wv, .int u.1, .int u.2, .int ne])), (ym, .inl (d1, 16384, .inl me)), (yr, .inl (d2, 4, .inl rg)), (yg, .inl (d3, 32, .inl rs))]) (va_A [(y0, .inr (1, [.int th, .ref ym, .ref yr, .ref yg, .int pcv, .int trv, .int vav, .int dnv, .int wv, .int fa, .int wi, .int ne])), (ym, .inl (d1, 16384, .inl me)), (yr, .inl (d2, 4, .inl rg)), (yg, .inl (d3, 32, .inl rs))] sz)) 0 0 (va_A [(y0, .inr (1, [.int th, .ref ym, .ref yr, .ref yg, .int pcv, .int trv, .int vav, .int dnv, .int wv, .int fa, .int wi, .int ne])), (ym, .inl (d1, 16384, .inl me)), (yr, .inl (d2, 4, .inl rg)), (yg, .inl (d3, 32, .inl rs))] sz) := by
  refine Met.ofW (cc := cX1_fail) (maxL := 3) (ret := none) (by decide) rfl ?_
  intro p e s m args below meth c s₁ B hml hv
  obtain ⟨rfl, hsz, hP, hK, hD0⟩ := hv
  have hx := B.exec
  have hb := B.bytes
  have hr := B.returns
  have hts := atoms_spec (ws := wsX1_fail) B.pre
  have hown : s.vm.findClass RX1 = some m.cls := findClass_of_methodNamed B.named
  have hlocks := B.notSynchronized
  subst hsz
  have hD := hD0.self (sz := s.heap.size)
  generalize hAe : va_A [(y0, .inr (1, [.int th, .ref ym, .ref yr, .ref yg, .int pcv, .int trv, .int vav, .int dnv, .int wv, .int fa, .int wi, .int ne])), (ym, .inl (d1, 16384, .inl me)), (yr, .inl (d2, 4, .inl rg)), (yg, .inl (d3, 32, .inl rs))] s.heap.size = A at hD ⊢
  have hA : ∀ q : Nat, s.heap.size ≤ q → A q := fun q h => by rw [← hAe]; exact Or.inr h
  have hS : va_S A s.heap s.heap [] := va_S.rf
  have hP : va_P (dC, dI) vwCl [(y0, .inr (1, [.int th, .ref ym, .ref yr, .ref yg, .int pcv, .int trv, .int vav, .int dnv, .int wv, .int fa, .int wi, .int ne])), (ym, .inl (d1, 16384, .inl me)), (yr, .inl (d2, 4, .inl rg)), (yg, .inl (d3, 32, .inl rs))] s.heap := hP
  have hl := lv_entry ([.ref y0, .int a1, .int a2]) (n := 3) (Nat.le_of_ble_eq_true rfl)
  rw [lg_entry_eq]
  generalize (lg_sl ([.ref y0, .int a1, .int a2]) ++ List.replicate (3 - (lg_sl ([.ref y0, .int a1, .int a2])).length) Slot.unset).toArray = ls at hl ⊢
  have hl : lv_has ls 3 [(0, .ref y0), (1, .int a1), (2, .int a2)] := hl
  refine lv_aload_n hx hb dX1_fail_0 rfl (lv_at hl 0 rfl) ?_
  refine lv_iload_n hx hb dX1_fail_1 rfl (lv_at hl 1 rfl) ?_
  refine va_put (D := (dC, dI)) (ci := 1) (v := .int a1) (ty := .int) (C := RX1) (T := TX1) (N := 12) hx hb hts (gw_lay lay_X1) tyX1 tyX1_ok nmX1 hown hK hP hD hS 0 rfl rfl 9 (by decide) (hts _ (gcons mF_X1_54)) (fun _ h9 => h9) rfl (by decide +kernel) rfl rfl (Nat.le_of_ble_eq_true rfl) dX1_fail_2 (fun H locs hP hD hS => ?_)
  have hP : va_P (dC, dI) vwCl [(y0, .inr (1, [.int th, .ref ym, .ref yr, .ref yg, .int pcv, .int trv, .int vav, .int dnv, .int wv, .int a1, .int wi, .int ne])), (ym, .inl (d1, 16384, .inl me)), (yr, .inl (d2, 4, .inl rg)), (yg, .inl (d3, 32, .inl rs))] H := hP
  have hD : va_D A [(y0, .inr (1, [.int th, .ref ym, .ref yr, .ref yg, .int pcv, .int trv, .int vav, .int dnv, .int wv, .int a1, .int wi, .int ne])), (ym, .inl (d1, 16384, .inl me)), (yr, .inl (d2, 4, .inl rg)), (yg, .inl (d3, 32, .inl rs))] := hD
  refine lv_aload_n hx hb dX1_fail_5 rfl (lv_at hl 0 rfl) ?_
  refine lv_iload_n hx hb dX1_fail_6 rfl (lv_at hl 2 rfl) ?_
  refine va_put (D := (dC, dI)) (ci := 1) (v := .int a2) (ty := .int) (C := RX1) (T := TX1) (N := 12) hx hb hts (gw_lay lay_X1) tyX1 tyX1_ok nmX1 hown hK hP hD hS 0 rfl rfl 10 (by decide) (hts _ (gcons mF_X1_57)) (fun _ h9 => h9) rfl (by decide +kernel) rfl rfl (Nat.le_of_ble_eq_true rfl) dX1_fail_7 (fun H locs hP hD hS => ?_)
  have hP : va_P (dC, dI) vwCl [(y0, .inr (1, [.int th, .ref ym, .ref yr, .ref yg, .int pcv, .int trv, .int vav, .int dnv, .int wv, .int a1, .int a2, .int ne])), (ym, .inl (d1, 16384, .inl me)), (yr, .inl (d2, 4, .inl rg)), (yg, .inl (d3, 32, .inl rs))] H := hP
  have hD : va_D A [(y0, .inr (1, [.int th, .ref ym, .ref yr, .ref yg, .int pcv, .int trv, .int vav, .int dnv, .int wv, .int a1, .int a2, .int ne])), (ym, .inl (d1, 16384, .inl me)), (yr, .inl (d2, 4, .inl rg)), (yg, .inl (d3, 32, .inl rs))] := hD
  exact W.vret hx hb hr (fun t ht hW => ⟨⟨(a1, a2), rfl, (by unfold F_m_fail; rfl), by rw [ht]; exact hP, va_K.moved hW.alike hK, hD⟩, hS.F ht⟩) hS.2.2 dX1_fail_10
def F_m_strange (wv : Int32)  : Int32 × Int32 :=
  ((F_m_fail 2 wv).1, (F_m_fail 2 wv).2)
set_option maxHeartbeats 4000000 in
set_option maxRecDepth 100000 in
theorem c_m_strange (l : Launch) (dC : Nat → ClassId) (dI : Nat → Nat → Nat) (y0 ym yr yg : Nat) (d1 d2 d3 : ClassId) (sz : Nat) (th : Int32) (me : Nat → Int32) (rg : Nat → Int32) (rs : Nat → Int32) (pcv : Int32) (trv : Int32) (vav : Int32) (dnv : Int32) (wv : Int32) (fa : Int32) (wi : Int32) (ne : Int32)   : Met l yX1_strange wsX1_strange ({ frames := 1, cells := 0, slots := 0, locals := 22 }) (va_Pc [.ref y0] (fun U => U.heap.size = sz ∧ va_P (dC, dI) vwCl [(y0, .inr (1, [.int th, .ref ym, .ref yr, .ref yg, .int pcv, .int trv, .int vav, .int dnv, .int wv, .int fa, .int wi, .int ne])), (ym, .inl (d1, 16384, .inl me)), (yr, .inl (d2, 4, .inl rg)), (yg, .inl (d3, 32, .inl rs))] U.heap ∧ va_K (dC, dI) vwCl [(d1, .byte), (d2, .int), (d3, .int)] U ∧ va_D (fun _ => True) [(y0, .inr (1, [.int th, .ref ym, .ref yr, .ref yg, .int pcv, .int trv, .int vav, .int dnv, .int wv, .int fa, .int wi, .int ne])), (ym, .inl (d1, 16384, .inl me)), (yr, .inl (d2, 4, .inl rg)), (yg, .inl (d3, 32, .inl rs))])) (va_Qv (fun u : Int32 × Int32 => u = F_m_strange wv) (fun (u : Int32 × Int32) (t : State) => va_P (dC, dI) vwCl [(y0, .inr (1, [.int th, .ref ym, .ref yr, .ref yg, .int pcv, .int trv, .int vav, .int dnv, .int wv, .int u.1, .int u.2, .int ne])), (ym, .inl (d1, 16384, .inl me)), (yr, .inl (d2, 4, .inl rg)), (yg, .inl (d3, 32, .inl rs))] t.heap ∧ va_K (dC, dI) vwCl [(d1, .byte), (d2, .int), (d3, .int)] t ∧ va_D (va_A [(y0, .inr (1, [.int th, .ref ym, .ref yr, .ref yg, .int pcv, .int trv, .int vav, .int dnv, .int wv, .int fa, .int wi, .int ne])), (ym, .inl (d1, 16384, .inl me)), (yr, .inl (d2, 4, .inl rg)), (yg, .inl (d3, 32, .inl rs))] sz) [(y0, .inr (1, [.int th, .ref ym, .ref yr, .ref yg, .int pcv, .int trv, .int vav, .int dnv, .int wv, .int u.1, .int u.2, .int ne])), (ym, .inl (d1, 16384, .inl me)), (yr, .inl (d2, 4, .inl rg)), (yg, .inl (d3, 32, .inl rs))]) (va_A [(y0, .inr (1, [.int th, .ref ym, .ref yr, .ref yg, .int pcv, .int trv, .int vav, .int dnv, .int wv, .int fa, .int wi, .int ne])), (ym, .inl (d1, 16384, .inl me)), (yr, .inl (d2, 4, .inl rg)), (yg, .inl (d3, 32, .inl rs))] sz)) 0 0 (va_A [(y0, .inr (1, [.int th, .ref ym, .ref yr, .ref yg, .int pcv, .int trv, .int vav, .int dnv, .int wv, .int fa, .int wi, .int ne])), (ym, .inl (d1, 16384, .inl me)), (yr, .inl (d2, 4, .inl rg)), (yg, .inl (d3, 32, .inl rs))] sz) := by
  refine Met.ofW (cc := cX1_strange) (maxL := 1) (ret := none) (by decide) rfl ?_
  intro p e s m args below meth c s₁ B hml hv
  obtain ⟨rfl, hsz, hP, hK, hD0⟩ := hv
  have hx := B.exec
  have hb := B.bytes
  have hr := B.returns
  have hts := atoms_spec (ws := wsX1_strange) B.pre
  have hown : s.vm.findClass RX1 = some m.cls := findClass_of_methodNamed B.named
  have hlocks := B.notSynchronized
  subst hsz
  have hD := hD0.self (sz := s.heap.size)
  generalize hAe : va_A [(y0, .inr (1, [.int th, .ref ym, .ref yr, .ref yg, .int pcv, .int trv, .int vav, .int dnv, .int wv, .int fa, .int wi, .int ne])), (ym, .inl (d1, 16384, .inl me)), (yr, .inl (d2, 4, .inl rg)), (yg, .inl (d3, 32, .inl rs))] s.heap.size = A at hD ⊢
  have hA : ∀ q : Nat, s.heap.size ≤ q → A q := fun q h => by rw [← hAe]; exact Or.inr h
  have hS : va_S A s.heap s.heap [] := va_S.rf
  have hP : va_P (dC, dI) vwCl [(y0, .inr (1, [.int th, .ref ym, .ref yr, .ref yg, .int pcv, .int trv, .int vav, .int dnv, .int wv, .int fa, .int wi, .int ne])), (ym, .inl (d1, 16384, .inl me)), (yr, .inl (d2, 4, .inl rg)), (yg, .inl (d3, 32, .inl rs))] s.heap := hP
  have hl := lv_entry ([.ref y0]) (n := 1) (Nat.le_of_ble_eq_true rfl)
  rw [lg_entry_eq]
  generalize (lg_sl ([.ref y0]) ++ List.replicate (1 - (lg_sl ([.ref y0])).length) Slot.unset).toArray = ls at hl ⊢
  have hl : lv_has ls 1 [(0, .ref y0)] := hl
  refine lv_aload_n hx hb dX1_strange_0 rfl (lv_at hl 0 rfl) ?_
  refine lv_iconst (v := 2) hx hb dX1_strange_1 (by decide) ?_
  refine lv_aload_n hx hb dX1_strange_2 rfl (lv_at hl 0 rfl) ?_
  refine va_get (D := (dC, dI)) (ci := 1) (v := .int wv) (C := RX1) (T := TX1) (N := 12) hx hb hts (gw_lay lay_X1) hown hK hP 0 rfl rfl 8 (by decide) (hts _ (gcons mF_X1_30)) (fun _ h9 => h9) rfl dX1_strange_3 ?_
  have hFc := va_free (wc := [(y0, .inr (1, [.int th, .ref ym, .ref yr, .ref yg, .int pcv, .int trv, .int vav, .int dnv, .int wv, .int fa, .int wi, .int ne])), (ym, .inl (d1, 16384, .inl me)), (yr, .inl (d2, 4, .inl rg)), (yg, .inl (d3, 32, .inl rs))]) hD hS hA [0, 1, 2, 3] rfl
  refine va_callv (va_runV (As := [.int 2, .int wv]) (rest := []) ⟨hx, hb, hml, hown, hts⟩ (c_m_fail l dC dI y0 ym yr yg d1 d2 d3 s.heap.size th me rg rs pcv trv vav dnv wv fa wi ne 2 wv) (cwV 2 hts (gV mL_X1_60 mI_X1_fail mE_X1_fail mN_X1 mC_X1_fail) rfl rfl rfl (by decide +kernel) ⟨Nat.le_of_ble_eq_true rfl, Nat.le_of_ble_eq_true rfl⟩) ⟨fun a U g mk q => by obtain ⟨q0, q1, qP, qK, qD⟩ := q; exact ⟨q0, q1, qP, va_K.moved (u := U) (U := U.calling g mk a) (Vm.Alike.refl U.vm) qK, qD⟩, va_recv hK hP (ci := 1) (q0 := 0) rfl rfl, fun U hU hW => ⟨rfl, by rw [hU], by rw [hU]; exact hP, va_K.moved hW.alike hK, hD.weaken (fun _ _ _ _ => trivial)⟩⟩ rfl rfl hl.1 rfl (lv_room (Nat.le_of_ble_eq_true rfl)) dX1_strange_6 ⟨Nat.zero_le _, Nat.zero_le _⟩) hS (fun q _ h => hFc q h) hFc (fun u t H1 locs ht hvm hw hB hz1 hk1 hS => ?_)
  rw [hw] at hB
  obtain ⟨hP1, hK1, hD1⟩ := hB
  rw [ht] at hP1
  obtain ⟨hP, hD⟩ := va_join (wr := []) (w1 := [(y0, .inr (1, [.int th, .ref ym, .ref yr, .ref yg, .int pcv, .int trv, .int vav, .int dnv, .int wv, .int ((F_m_fail 2 wv).1), .int ((F_m_fail 2 wv).2), .int ne])), (ym, .inl (d1, 16384, .inl me)), (yr, .inl (d2, 4, .inl rg)), (yg, .inl (d3, 32, .inl rs))]) hP hD [0, 1, 2, 3] [] rfl rfl (by decide) (by decide) hk1 hFc hP1 hD1
  generalize H1 = H at hP hS ⊢
  have hP : va_P (dC, dI) vwCl [(y0, .inr (1, [.int th, .ref ym, .ref yr, .ref yg, .int pcv, .int trv, .int vav, .int dnv, .int wv, .int ((F_m_fail 2 wv).1), .int ((F_m_fail 2 wv).2), .int ne])), (ym, .inl (d1, 16384, .inl me)), (yr, .inl (d2, 4, .inl rg)), (yg, .inl (d3, 32, .inl rs))] H := hP
  have hD : va_D A [(y0, .inr (1, [.int th, .ref ym, .ref yr, .ref yg, .int pcv, .int trv, .int vav, .int dnv, .int wv, .int ((F_m_fail 2 wv).1), .int ((F_m_fail 2 wv).2), .int ne])), (ym, .inl (d1, 16384, .inl me)), (yr, .inl (d2, 4, .inl rg)), (yg, .inl (d3, 32, .inl rs))] := hD
  exact W.vret hx hb hr (fun t ht hW => ⟨⟨((F_m_fail 2 wv).1, (F_m_fail 2 wv).2), rfl, (by unfold F_m_strange; rfl), by rw [ht]; exact hP, va_K.moved hW.alike hK, hD⟩, hS.F ht⟩) hS.2.2 dX1_strange_9
def F_m_put (wv : Int32) (rs : Nat → Int32) (a1 : Int32) : (Nat → Int32) :=
  if (F_m_part wv 7 5) = 0 then
    upd rs (F_m_part wv 7 5).toNatClampNeg 0
  else
    upd rs (F_m_part wv 7 5).toNatClampNeg a1
set_option maxHeartbeats 4000000 in
set_option maxRecDepth 100000 in
theorem c_m_put (l : Launch) (dC : Nat → ClassId) (dI : Nat → Nat → Nat) (y0 ym yr yg : Nat) (d1 d2 d3 : ClassId) (sz : Nat) (th : Int32) (me : Nat → Int32) (rg : Nat → Int32) (rs : Nat → Int32) (pcv : Int32) (trv : Int32) (vav : Int32) (dnv : Int32) (wv : Int32) (fa : Int32) (wi : Int32) (ne : Int32) (a1 : Int32)  : Met l yX1_put wsX1_put ({ frames := 1, cells := 0, slots := 0, locals := 24 }) (va_Pc [.ref y0, .int a1] (fun U => U.heap.size = sz ∧ va_P (dC, dI) vwCl [(y0, .inr (1, [.int th, .ref ym, .ref yr, .ref yg, .int pcv, .int trv, .int vav, .int dnv, .int wv, .int fa, .int wi, .int ne])), (ym, .inl (d1, 16384, .inl me)), (yr, .inl (d2, 4, .inl rg)), (yg, .inl (d3, 32, .inl rs))] U.heap ∧ va_K (dC, dI) vwCl [(d1, .byte), (d2, .int), (d3, .int)] U ∧ va_D (fun _ => True) [(y0, .inr (1, [.int th, .ref ym, .ref yr, .ref yg, .int pcv, .int trv, .int vav, .int dnv, .int wv, .int fa, .int wi, .int ne])), (ym, .inl (d1, 16384, .inl me)), (yr, .inl (d2, 4, .inl rg)), (yg, .inl (d3, 32, .inl rs))])) (va_Qv (fun u : (Nat → Int32) => u = F_m_put wv rs a1) (fun (u : (Nat → Int32)) (t : State) => va_P (dC, dI) vwCl [(y0, .inr (1, [.int th, .ref ym, .ref yr, .ref yg, .int pcv, .int trv, .int vav, .int dnv, .int wv, .int fa, .int wi, .int ne])), (ym, .inl (d1, 16384, .inl me)), (yr, .inl (d2, 4, .inl rg)), (yg, .inl (d3, 32, .inl u))] t.heap ∧ va_K (dC, dI) vwCl [(d1, .byte), (d2, .int), (d3, .int)] t ∧ va_D (va_A [(y0, .inr (1, [.int th, .ref ym, .ref yr, .ref yg, .int pcv, .int trv, .int vav, .int dnv, .int wv, .int fa, .int wi, .int ne])), (ym, .inl (d1, 16384, .inl me)), (yr, .inl (d2, 4, .inl rg)), (yg, .inl (d3, 32, .inl rs))] sz) [(y0, .inr (1, [.int th, .ref ym, .ref yr, .ref yg, .int pcv, .int trv, .int vav, .int dnv, .int wv, .int fa, .int wi, .int ne])), (ym, .inl (d1, 16384, .inl me)), (yr, .inl (d2, 4, .inl rg)), (yg, .inl (d3, 32, .inl u))]) (va_A [(y0, .inr (1, [.int th, .ref ym, .ref yr, .ref yg, .int pcv, .int trv, .int vav, .int dnv, .int wv, .int fa, .int wi, .int ne])), (ym, .inl (d1, 16384, .inl me)), (yr, .inl (d2, 4, .inl rg)), (yg, .inl (d3, 32, .inl rs))] sz)) 0 0 (va_A [(y0, .inr (1, [.int th, .ref ym, .ref yr, .ref yg, .int pcv, .int trv, .int vav, .int dnv, .int wv, .int fa, .int wi, .int ne])), (ym, .inl (d1, 16384, .inl me)), (yr, .inl (d2, 4, .inl rg)), (yg, .inl (d3, 32, .inl rs))] sz) := by
  refine Met.ofW (cc := cX1_put) (maxL := 3) (ret := none) (by decide) rfl ?_
  intro p e s m args below meth c s₁ B hml hv
  obtain ⟨rfl, hsz, hP, hK, hD0⟩ := hv
  have hx := B.exec
  have hb := B.bytes
  have hr := B.returns
  have hts := atoms_spec (ws := wsX1_put) B.pre
  have hown : s.vm.findClass RX1 = some m.cls := findClass_of_methodNamed B.named
  have hlocks := B.notSynchronized
  subst hsz
  have hD := hD0.self (sz := s.heap.size)
  generalize hAe : va_A [(y0, .inr (1, [.int th, .ref ym, .ref yr, .ref yg, .int pcv, .int trv, .int vav, .int dnv, .int wv, .int fa, .int wi, .int ne])), (ym, .inl (d1, 16384, .inl me)), (yr, .inl (d2, 4, .inl rg)), (yg, .inl (d3, 32, .inl rs))] s.heap.size = A at hD ⊢
  have hA : ∀ q : Nat, s.heap.size ≤ q → A q := fun q h => by rw [← hAe]; exact Or.inr h
  have hS : va_S A s.heap s.heap [] := va_S.rf
  have hP : va_P (dC, dI) vwCl [(y0, .inr (1, [.int th, .ref ym, .ref yr, .ref yg, .int pcv, .int trv, .int vav, .int dnv, .int wv, .int fa, .int wi, .int ne])), (ym, .inl (d1, 16384, .inl me)), (yr, .inl (d2, 4, .inl rg)), (yg, .inl (d3, 32, .inl rs))] s.heap := hP
  have hl := lv_entry ([.ref y0, .int a1]) (n := 3) (Nat.le_of_ble_eq_true rfl)
  rw [lg_entry_eq]
  generalize (lg_sl ([.ref y0, .int a1]) ++ List.replicate (3 - (lg_sl ([.ref y0, .int a1])).length) Slot.unset).toArray = ls at hl ⊢
  have hl : lv_has ls 3 [(0, .ref y0), (1, .int a1)] := hl
  refine lv_aload_n hx hb dX1_put_0 rfl (lv_at hl 0 rfl) ?_
  refine lv_bipush (v := 7) hx hb dX1_put_1 (by decide) ?_
  refine lv_iconst (v := 5) hx hb dX1_put_3 (by decide) ?_
  refine vp_callSi (W.runV (As := [.int 7, .int 5]) (rest := []) ⟨hx, hb, hml, hown, hts⟩ (c_m_part l dC dI y0 ym yr yg d1 d2 d3 th me rg rs pcv trv vav dnv wv fa wi ne 7 5) (cwV 2 hts (gV mL_X1_33 mI_X1_part mE_X1_part mN_X1 mC_X1_part) rfl rfl rfl (by decide +kernel) ⟨Nat.le_of_ble_eq_true rfl, Nat.le_of_ble_eq_true rfl⟩) ⟨fun a U g mk q => by obtain ⟨q0, qP, qK⟩ := q; exact ⟨q0, qP, va_K.moved (u := U) (U := U.calling g mk a) (Vm.Alike.refl U.vm) qK⟩, va_recv hK hP (ci := 1) (q0 := 0) rfl rfl, fun U hU hW => ⟨rfl, by rw [hU]; exact hP, va_K.moved hW.alike hK⟩⟩ rfl rfl hl.1 rfl (lv_room (Nat.le_of_ble_eq_true rfl)) dX1_put_4 ⟨Nat.zero_le _, Nat.zero_le _⟩) (fun r_1 hw => ?_)
  rw [hw]
  clear hw r_1
  refine lv_istore_n (lv' := [(2, .int (F_m_part wv 7 5)), (0, .ref y0), (1, .int a1)]) hx hb dX1_put_7 rfl hl (by decide) rfl (fun ls hl => ?_)
  refine lv_aload_n hx hb dX1_put_8 rfl (lv_at hl 1 rfl) ?_
  refine va_get (D := (dC, dI)) (ci := 1) (v := .ref yg) (C := RX1) (T := TX1) (N := 12) hx hb hts (gw_lay lay_X1) hown hK hP 0 rfl rfl 3 (by decide) (hts _ (gcons mF_X1_17)) (fun _ h9 => h9) rfl dX1_put_9 ?_
  refine lv_iload_n hx hb dX1_put_12 rfl (lv_at hl 0 rfl) ?_
  refine lv_iload_n hx hb dX1_put_13 rfl (lv_at hl 0 rfl) ?_
  refine lv_if_ne (tgt := 21) hx hb dX1_put_14 (by decide) (fun c_2 => ?_) (fun c_2 => ?_)
  · refine lv_iload_n hx hb dX1_put_21 rfl (lv_at hl 2 rfl) ?_
    refine va_iast hx hb hK hP hD hS 3 2 rfl rfl (in_part5 _ _) dX1_put_22 (fun H locs hP hD hS => ?_)
    have hP : va_P (dC, dI) vwCl [(y0, .inr (1, [.int th, .ref ym, .ref yr, .ref yg, .int pcv, .int trv, .int vav, .int dnv, .int wv, .int fa, .int wi, .int ne])), (ym, .inl (d1, 16384, .inl me)), (yr, .inl (d2, 4, .inl rg)), (yg, .inl (d3, 32, .inl (upd rs (F_m_part wv 7 5).toNatClampNeg a1)))] H := hP
    have hD : va_D A [(y0, .inr (1, [.int th, .ref ym, .ref yr, .ref yg, .int pcv, .int trv, .int vav, .int dnv, .int wv, .int fa, .int wi, .int ne])), (ym, .inl (d1, 16384, .inl me)), (yr, .inl (d2, 4, .inl rg)), (yg, .inl (d3, 32, .inl (upd rs (F_m_part wv 7 5).toNatClampNeg a1)))] := hD
    exact W.vret hx hb hr (fun t ht hW => ⟨⟨upd rs (F_m_part wv 7 5).toNatClampNeg a1, rfl, (by unfold F_m_put; first | (rw [if_neg c_2]; done) | (rw [if_neg c_2]; rfl)), by rw [ht]; exact hP, va_K.moved hW.alike hK, hD⟩, hS.F ht⟩) hS.2.2 dX1_put_23
  · refine lv_iconst (v := 0) hx hb dX1_put_17 (by decide) ?_
    refine lv_goto (tgt := 22) hx hb dX1_put_18 (by decide) ?_
    refine va_iast hx hb hK hP hD hS 3 2 rfl rfl (in_part5 _ _) dX1_put_22 (fun H locs hP hD hS => ?_)
    have hP : va_P (dC, dI) vwCl [(y0, .inr (1, [.int th, .ref ym, .ref yr, .ref yg, .int pcv, .int trv, .int vav, .int dnv, .int wv, .int fa, .int wi, .int ne])), (ym, .inl (d1, 16384, .inl me)), (yr, .inl (d2, 4, .inl rg)), (yg, .inl (d3, 32, .inl (upd rs (F_m_part wv 7 5).toNatClampNeg 0)))] H := hP
    have hD : va_D A [(y0, .inr (1, [.int th, .ref ym, .ref yr, .ref yg, .int pcv, .int trv, .int vav, .int dnv, .int wv, .int fa, .int wi, .int ne])), (ym, .inl (d1, 16384, .inl me)), (yr, .inl (d2, 4, .inl rg)), (yg, .inl (d3, 32, .inl (upd rs (F_m_part wv 7 5).toNatClampNeg 0)))] := hD
    exact W.vret hx hb hr (fun t ht hW => ⟨⟨upd rs (F_m_part wv 7 5).toNatClampNeg 0, rfl, (by unfold F_m_put; first | (rw [if_pos c_2]; done) | (rw [if_pos c_2]; rfl)), by rw [ht]; exact hP, va_K.moved hW.alike hK, hD⟩, hS.F ht⟩) hS.2.2 dX1_put_23
