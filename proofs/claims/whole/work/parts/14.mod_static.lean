theorem lpd_0 : (31 : Int32) - nI 0 = 31 := by decide
theorem lp_lt {a : Int32} {j : Nat} (hj : j ≤ a.toNatClampNeg) (c : ¬ a ≤ nI j) : j < a.toNatClampNeg := by
  have h1 : a.toNatClampNeg = a.toInt.toNat := rfl
  have h2 := Int32.toInt_lt a
  rw [Int32.le_iff_toInt_le, nI_toInt (by omega)] at c
  omega
theorem lp_end {a : Int32} {j : Nat} (hj : j ≤ a.toNatClampNeg) (c : a ≤ nI j) : j = a.toNatClampNeg := by
  have h1 : a.toNatClampNeg = a.toInt.toNat := rfl
  have h2 := Int32.toInt_lt a
  rw [Int32.le_iff_toInt_le, nI_toInt (by omega)] at c
  omega
theorem lpc_lt {a : Int32} {n j : Nat} (e : a.toNatClampNeg = n) (hj : j ≤ n) (c : ¬ a ≤ nI j) : j < n := by
  subst e
  exact lp_lt hj c
theorem lpc_end {a : Int32} {n j : Nat} (e : a.toNatClampNeg = n) (hj : j ≤ n) (c : a ≤ nI j) : j = n := by
  subst e
  exact lp_end hj c
theorem lpd_next {j : Nat} : (31 : Int32) - nI j + (-1) = 31 - nI (j + 1) := by
  rw [← nI_1, Int32.sub_eq_add_neg, Int32.sub_eq_add_neg, Int32.neg_add, Int32.sub_eq_add_neg, Int32.add_assoc]
theorem lpd_int {j : Nat} (hj : j ≤ 32) : ((31 : Int32) - nI j).toInt = 31 - (j : Int) := by
  have h := pk_sub_toInt (a := 31) (b := j) (by omega) (by omega)
  exact h
theorem lpd_lt {j : Nat} (hj : j ≤ 32) (c : ¬ (31 : Int32) - nI j < 0) : j < 32 := by
  rw [Int32.lt_iff_toInt_lt, lpd_int hj] at c
  have e0 : (0 : Int32).toInt = 0 := rfl
  rw [e0] at c
  omega
theorem lpd_end {j : Nat} (hj : j ≤ 32) (c : (31 : Int32) - nI j < 0) : j = 32 := by
  rw [Int32.lt_iff_toInt_lt, lpd_int hj] at c
  have e0 : (0 : Int32).toInt = 0 := rfl
  rw [e0] at c
  omega
def F_m_signed  (a1 : Int32) (a2 : Int32) : Int32 :=
  if ((a1 >>> ((a2 - 1) &&& 31)) &&& 1) = 1 then
    a1 - (1 <<< (a2 &&& 31))
  else
    a1
set_option maxHeartbeats 4000000 in
set_option maxRecDepth 100000 in
theorem c_m_signed (l : Launch) (a1 : Int32) (a2 : Int32) : Met l yX1_signed wsX1_signed ({ frames := 0, cells := 0, slots := 0, locals := 0 }) (fun v _ => v = ([.int a1, .int a2] : List Value).toArray) (vp_Si (fun r : Int32 => r = F_m_signed a1 a2)) 0 0 (fun _ => False) := by
  refine Met.ofW (cc := cX1_signed) (maxL := 2) (ret := (some .int)) (by decide) rfl ?_
  intro p e s m args below meth c s₁ B hml hv
  obtain rfl := hv
  have hx := B.exec
  have hb := B.bytes
  have hr := B.returns
  have hts := atoms_spec (ws := wsX1_signed) B.pre
  have hown : s.vm.findClass RX1 = some m.cls := findClass_of_methodNamed B.named
  have hlocks := B.notSynchronized
  have hl := lv_entry ([.int a1, .int a2]) (n := 2) (Nat.le_of_ble_eq_true rfl)
  rw [lg_entry_eq]
  generalize (lg_sl ([.int a1, .int a2]) ++ List.replicate (2 - (lg_sl ([.int a1, .int a2])).length) Slot.unset).toArray = ls at hl ⊢
  have hl : lv_has ls 2 [(0, .int a1), (1, .int a2)] := hl
  refine lv_iload_n hx hb dX1_signed_0 rfl (lv_at hl 0 rfl) ?_
  refine lv_iload_n hx hb dX1_signed_1 rfl (lv_at hl 1 rfl) ?_
  refine lv_iconst (v := 1) hx hb dX1_signed_2 (by decide) ?_
  refine lv_isub hx hb dX1_signed_3 ?_
  refine lv_ishr hx hb dX1_signed_4 ?_
  refine lv_iconst (v := 1) hx hb dX1_signed_5 (by decide) ?_
  refine lv_iand hx hb dX1_signed_6 ?_
  refine lv_iconst (v := 1) hx hb dX1_signed_7 (by decide) ?_
  refine lv_icmp_ne (tgt := 19) hx hb dX1_signed_8 (by decide) (fun c_1 => ?_) (fun c_1 => ?_)
  · refine lv_iload_n hx hb dX1_signed_19 rfl (lv_at hl 0 rfl) ?_
    exact W.iret (v := a1) hx hb hr (fun t ht hW => ⟨_, rfl, (by unfold F_m_signed; first | (rw [if_neg c_1]; done) | (rw [if_neg c_1]; rfl)), ht⟩) (fun _ h => by cases h) dX1_signed_20
  · refine lv_iload_n hx hb dX1_signed_11 rfl (lv_at hl 0 rfl) ?_
    refine lv_iconst (v := 1) hx hb dX1_signed_12 (by decide) ?_
    refine lv_iload_n hx hb dX1_signed_13 rfl (lv_at hl 1 rfl) ?_
    refine lv_ishl hx hb dX1_signed_14 ?_
    refine lv_isub hx hb dX1_signed_15 ?_
    refine lv_goto (tgt := 20) hx hb dX1_signed_16 (by decide) ?_
    exact W.iret (v := a1 - (1 <<< (a2 &&& 31))) hx hb hr (fun t ht hW => ⟨_, rfl, (by unfold F_m_signed; first | (rw [if_pos c_1]; done) | (rw [if_pos c_1]; rfl)), ht⟩) (fun _ h => by cases h) dX1_signed_20
def B_under (a1 a2 : Int32) (j : Nat) (acc : Int32) : Int32 :=
  if ((a1 >>> ((nI j) &&& 31)) &&& 1) = ((a2 >>> ((nI j) &&& 31)) &&& 1) then
    acc
  else
    if ((a2 >>> ((nI j) &&& 31)) &&& 1) ≤ ((a1 >>> ((nI j) &&& 31)) &&& 1) then
      0
    else
      1
def L_under (a1 a2 : Int32) : Nat → Int32
  | 0 => 0
  | j + 1 => B_under a1 a2 j (L_under a1 a2 j)
theorem bo_under (a1 a2 : Int32) (j : Nat) : narrow .boolean (.int (L_under a1 a2 j)) = .int (L_under a1 a2 j) := by
  induction j with
  | zero => exact (rfl : narrow .boolean (.int (0 : Int32)) = .int 0)
  | succ j ih =>
    show narrow .boolean (.int (B_under a1 a2 j (L_under a1 a2 j))) = .int (B_under a1 a2 j (L_under a1 a2 j))
    unfold B_under
    repeat' split
    all_goals first | exact ih | rfl
def F_m_under  (a1 : Int32) (a2 : Int32) : Int32 :=
  (L_under a1 a2 32)
set_option maxHeartbeats 4000000 in
set_option maxRecDepth 100000 in
theorem c_m_under (l : Launch) (a1 : Int32) (a2 : Int32) : Met l yX1_under wsX1_under ({ frames := 0, cells := 0, slots := 0, locals := 0 }) (fun v _ => v = ([.int a1, .int a2] : List Value).toArray) (vp_Si (fun r : Int32 => narrow .boolean (.int r) = .int r ∧ r = F_m_under a1 a2)) 0 0 (fun _ => False) := by
  refine Met.ofW (cc := cX1_under) (maxL := 6) (ret := (some .boolean)) (by decide) rfl ?_
  intro p e s m args below meth c s₁ B hml hv
  obtain rfl := hv
  have hx := B.exec
  have hb := B.bytes
  have hr := B.returns
  have hts := atoms_spec (ws := wsX1_under) B.pre
  have hown : s.vm.findClass RX1 = some m.cls := findClass_of_methodNamed B.named
  have hlocks := B.notSynchronized
  have hl := lv_entry ([.int a1, .int a2]) (n := 6) (Nat.le_of_ble_eq_true rfl)
  rw [lg_entry_eq]
  generalize (lg_sl ([.int a1, .int a2]) ++ List.replicate (6 - (lg_sl ([.int a1, .int a2])).length) Slot.unset).toArray = ls at hl ⊢
  have hl : lv_has ls 6 [(0, .int a1), (1, .int a2)] := hl
  refine lv_iconst (v := 0) hx hb dX1_under_0 (by decide) ?_
  refine lv_istore_n (lv' := [(2, .int 0), (0, .int a1), (1, .int a2)]) hx hb dX1_under_1 rfl hl (by decide) rfl (fun ls hl => ?_)
  refine lv_iconst (v := 0) hx hb dX1_under_2 (by decide) ?_
  refine lv_istore_n (lv' := [(3, .int 0), (2, .int 0), (0, .int a1), (1, .int a2)]) hx hb dX1_under_3 rfl hl (by decide) rfl (fun ls hl => ?_)
  have hl := lv_sub hl [0, 1, 2, 3] rfl
  refine lv_loop (n := 32) (P := fun j H locs ls => (H = s.heap ∧ locs = []) ∧ lv_has ls 6 [(3, .int (nI j)), (2, .int ((L_under a1 a2 j))), (0, .int a1), (1, .int a2)]) (Wg := fun H locs ls => W p l e _ s m _ below meth c H locs 0 0 _ (F0 m 4 ls [])) ?_ (32) 0 _ _ ls (by omega) (Nat.zero_le _) ⟨⟨rfl, rfl⟩, hl⟩
  rintro j H locs ls hj ⟨⟨rfl, rfl⟩, hl⟩ ih
  refine lv_iload_n hx hb dX1_under_4 rfl (lv_at hl 0 rfl) ?_
  refine lv_bipush (v := 32) hx hb dX1_under_5 (by decide) ?_
  refine lv_icmp_ge (tgt := 54) hx hb dX1_under_7 (by decide) (fun c_1 => ?_) (fun c_1 => ?_)
  · have hjn : j = 32 := lpc_end (by decide) hj c_1
    subst hjn
    refine lv_iload_n hx hb dX1_under_54 rfl (lv_at hl 1 rfl) ?_
    exact W.zret (v := (L_under a1 a2 32)) (ty := .boolean) hx hb hr (bo_under _ _ _) (fun t ht hW => ⟨_, rfl, ⟨(bo_under _ _ _), (by unfold F_m_under; rfl)⟩, ht⟩) (fun _ h => by cases h) dX1_under_55
  · have hlt : j < 32 := lpc_lt (by decide) hj c_1
    refine lv_iload_n hx hb dX1_under_10 rfl (lv_at hl 2 rfl) ?_
    refine lv_iload_n hx hb dX1_under_11 rfl (lv_at hl 0 rfl) ?_
    refine lv_ishr hx hb dX1_under_12 ?_
    refine lv_iconst (v := 1) hx hb dX1_under_13 (by decide) ?_
    refine lv_iand hx hb dX1_under_14 ?_
    refine lv_istore (lv' := [(4, .int ((a1 >>> ((nI j) &&& 31)) &&& 1)), (3, .int (nI j)), (2, .int ((L_under a1 a2 j))), (0, .int a1), (1, .int a2)]) hx hb dX1_under_15 hl (by decide) rfl (fun ls hl => ?_)
    refine lv_iload_n hx hb dX1_under_17 rfl (lv_at hl 4 rfl) ?_
    refine lv_iload_n hx hb dX1_under_18 rfl (lv_at hl 1 rfl) ?_
    refine lv_ishr hx hb dX1_under_19 ?_
    refine lv_iconst (v := 1) hx hb dX1_under_20 (by decide) ?_
    refine lv_iand hx hb dX1_under_21 ?_
    refine lv_istore (lv' := [(5, .int ((a2 >>> ((nI j) &&& 31)) &&& 1)), (4, .int ((a1 >>> ((nI j) &&& 31)) &&& 1)), (3, .int (nI j)), (2, .int ((L_under a1 a2 j))), (0, .int a1), (1, .int a2)]) hx hb dX1_under_22 hl (by decide) rfl (fun ls hl => ?_)
    refine lv_iload hx hb dX1_under_24 (lv_at hl 1 rfl) ?_
    refine lv_iload hx hb dX1_under_26 (lv_at hl 0 rfl) ?_
    refine lv_icmp_ne (tgt := 35) hx hb dX1_under_28 (by decide) (fun c_2 => ?_) (fun c_2 => ?_)
    · refine lv_iload hx hb dX1_under_35 (lv_at hl 1 rfl) ?_
      refine lv_iload hx hb dX1_under_37 (lv_at hl 0 rfl) ?_
      refine lv_icmp_ge (tgt := 46) hx hb dX1_under_39 (by decide) (fun c_3 => ?_) (fun c_3 => ?_)
      · refine lv_iconst (v := 0) hx hb dX1_under_46 (by decide) ?_
        refine lv_istore_n (lv' := [(2, .int 0), (5, .int ((a2 >>> ((nI j) &&& 31)) &&& 1)), (4, .int ((a1 >>> ((nI j) &&& 31)) &&& 1)), (3, .int (nI j)), (0, .int a1), (1, .int a2)]) hx hb dX1_under_47 rfl hl (by decide) rfl (fun ls hl => ?_)
        refine lv_iinc (v := (nI j) + 1) (lv' := [(3, .int ((nI j) + 1)), (2, .int 0), (5, .int ((a2 >>> ((nI j) &&& 31)) &&& 1)), (4, .int ((a1 >>> ((nI j) &&& 31)) &&& 1)), (0, .int a1), (1, .int a2)]) hx hb dX1_under_48 hl (k := 3) rfl rfl (by decide) rfl (fun ls hl => ?_)
        refine lv_goto (tgt := 4) hx hb dX1_under_51 (by decide) ?_
        have hl := lv_sub hl [0, 1, 4, 5] rfl
        have hacc : (L_under a1 a2 (j + 1)) = 0 := by show B_under a1 a2 j (L_under a1 a2 j) = _; unfold B_under; first | rfl | (rw [if_neg c_2, if_pos c_3]; done) | (rw [if_neg c_2, if_pos c_3]; rfl)
        rw [nI_1] at hl
        exact ih _ _ ls hlt ⟨⟨rfl, rfl⟩, by rw [hacc]; exact hl⟩
      · refine lv_iconst (v := 1) hx hb dX1_under_42 (by decide) ?_
        refine lv_goto (tgt := 47) hx hb dX1_under_43 (by decide) ?_
        refine lv_istore_n (lv' := [(2, .int 1), (5, .int ((a2 >>> ((nI j) &&& 31)) &&& 1)), (4, .int ((a1 >>> ((nI j) &&& 31)) &&& 1)), (3, .int (nI j)), (0, .int a1), (1, .int a2)]) hx hb dX1_under_47 rfl hl (by decide) rfl (fun ls hl => ?_)
        refine lv_iinc (v := (nI j) + 1) (lv' := [(3, .int ((nI j) + 1)), (2, .int 1), (5, .int ((a2 >>> ((nI j) &&& 31)) &&& 1)), (4, .int ((a1 >>> ((nI j) &&& 31)) &&& 1)), (0, .int a1), (1, .int a2)]) hx hb dX1_under_48 hl (k := 3) rfl rfl (by decide) rfl (fun ls hl => ?_)
        refine lv_goto (tgt := 4) hx hb dX1_under_51 (by decide) ?_
        have hl := lv_sub hl [0, 1, 4, 5] rfl
        have hacc : (L_under a1 a2 (j + 1)) = 1 := by show B_under a1 a2 j (L_under a1 a2 j) = _; unfold B_under; first | rfl | (rw [if_neg c_2, if_neg c_3]; done) | (rw [if_neg c_2, if_neg c_3]; rfl)
        rw [nI_1] at hl
        exact ih _ _ ls hlt ⟨⟨rfl, rfl⟩, by rw [hacc]; exact hl⟩
    · refine lv_iload_n hx hb dX1_under_31 rfl (lv_at hl 3 rfl) ?_
      refine lv_goto (tgt := 47) hx hb dX1_under_32 (by decide) ?_
      refine lv_istore_n (lv' := [(2, .int ((L_under a1 a2 j))), (5, .int ((a2 >>> ((nI j) &&& 31)) &&& 1)), (4, .int ((a1 >>> ((nI j) &&& 31)) &&& 1)), (3, .int (nI j)), (0, .int a1), (1, .int a2)]) hx hb dX1_under_47 rfl hl (by decide) rfl (fun ls hl => ?_)
      refine lv_iinc (v := (nI j) + 1) (lv' := [(3, .int ((nI j) + 1)), (2, .int ((L_under a1 a2 j))), (5, .int ((a2 >>> ((nI j) &&& 31)) &&& 1)), (4, .int ((a1 >>> ((nI j) &&& 31)) &&& 1)), (0, .int a1), (1, .int a2)]) hx hb dX1_under_48 hl (k := 3) rfl rfl (by decide) rfl (fun ls hl => ?_)
      refine lv_goto (tgt := 4) hx hb dX1_under_51 (by decide) ?_
      have hl := lv_sub hl [0, 1, 4, 5] rfl
      have hacc : (L_under a1 a2 (j + 1)) = (L_under a1 a2 j) := by show B_under a1 a2 j (L_under a1 a2 j) = _; unfold B_under; first | rfl | (rw [if_pos c_2]; done) | (rw [if_pos c_2]; rfl)
      rw [nI_1] at hl
      exact ih _ _ ls hlt ⟨⟨rfl, rfl⟩, by rw [hacc]; exact hl⟩
def B_upper (a1 a2 : Int32) (j : Nat) (acc : Int32 × Int32) : Int32 × Int32 :=
  if ((a2 >>> ((31 - nI j) &&& 31)) &&& 1) = 1 then
    if (F_m_under (((acc.2) <<< ((1 : Int32) &&& 31)) + a1) a1) = 0 then
      (((acc.1) <<< ((1 : Int32) &&& 31)) ||| (((acc.2).toUInt32 >>> ((31 : Int32).toUInt32 &&& Int32.toUInt32 31)).toInt32), ((acc.2) <<< ((1 : Int32) &&& 31)) + a1)
    else
      ((((acc.1) <<< ((1 : Int32) &&& 31)) ||| (((acc.2).toUInt32 >>> ((31 : Int32).toUInt32 &&& Int32.toUInt32 31)).toInt32)) + 1, ((acc.2) <<< ((1 : Int32) &&& 31)) + a1)
  else
    (((acc.1) <<< ((1 : Int32) &&& 31)) ||| (((acc.2).toUInt32 >>> ((31 : Int32).toUInt32 &&& Int32.toUInt32 31)).toInt32), (acc.2) <<< ((1 : Int32) &&& 31))
def L_upper (a1 a2 : Int32) : Nat → (Int32 × Int32)
  | 0 => (0, 0)
  | j + 1 => B_upper a1 a2 j (L_upper a1 a2 j)
def F_m_upper  (a1 : Int32) (a2 : Int32) : Int32 :=
  (L_upper a1 a2 32).1
set_option maxHeartbeats 4000000 in
set_option maxRecDepth 100000 in
theorem c_m_upper (l : Launch) (a1 : Int32) (a2 : Int32) : Met l yX1_upper wsX1_upper ({ frames := 1, cells := 0, slots := 0, locals := 25 }) (fun v _ => v = ([.int a1, .int a2] : List Value).toArray) (vp_Si (fun r : Int32 => r = F_m_upper a1 a2)) 0 0 (fun _ => False) := by
  refine Met.ofW (cc := cX1_upper) (maxL := 6) (ret := (some .int)) (by decide) rfl ?_
  intro p e s m args below meth c s₁ B hml hv
  obtain rfl := hv
  have hx := B.exec
  have hb := B.bytes
  have hr := B.returns
  have hts := atoms_spec (ws := wsX1_upper) B.pre
  have hown : s.vm.findClass RX1 = some m.cls := findClass_of_methodNamed B.named
  have hlocks := B.notSynchronized
  have hl := lv_entry ([.int a1, .int a2]) (n := 6) (Nat.le_of_ble_eq_true rfl)
  rw [lg_entry_eq]
  generalize (lg_sl ([.int a1, .int a2]) ++ List.replicate (6 - (lg_sl ([.int a1, .int a2])).length) Slot.unset).toArray = ls at hl ⊢
  have hl : lv_has ls 6 [(0, .int a1), (1, .int a2)] := hl
  refine lv_iconst (v := 0) hx hb dX1_upper_0 (by decide) ?_
  refine lv_istore_n (lv' := [(2, .int 0), (0, .int a1), (1, .int a2)]) hx hb dX1_upper_1 rfl hl (by decide) rfl (fun ls hl => ?_)
  refine lv_iconst (v := 0) hx hb dX1_upper_2 (by decide) ?_
  refine lv_istore_n (lv' := [(3, .int 0), (2, .int 0), (0, .int a1), (1, .int a2)]) hx hb dX1_upper_3 rfl hl (by decide) rfl (fun ls hl => ?_)
  refine lv_bipush (v := 31) hx hb dX1_upper_4 (by decide) ?_
  refine lv_istore (lv' := [(4, .int 31), (3, .int 0), (2, .int 0), (0, .int a1), (1, .int a2)]) hx hb dX1_upper_6 hl (by decide) rfl (fun ls hl => ?_)
  have hl := lv_sub hl [0, 2, 1, 3, 4] rfl
  refine lv_loop (n := 32) (P := fun j H locs ls => (H = s.heap ∧ locs = []) ∧ lv_has ls 6 [(4, .int (31 - nI j)), (2, .int ((L_upper a1 a2 j).1)), (3, .int ((L_upper a1 a2 j).2)), (0, .int a1), (1, .int a2)]) (Wg := fun H locs ls => W p l e _ s m _ below meth c H locs 0 0 _ (F0 m 8 ls [])) ?_ (32) 0 _ _ ls (by omega) (Nat.zero_le _) ⟨⟨rfl, rfl⟩, (by rw [lpd_0]; exact hl)⟩
  rintro j H locs ls hj ⟨⟨rfl, rfl⟩, hl⟩ ih
  refine lv_iload hx hb dX1_upper_8 (lv_at hl 0 rfl) ?_
  refine lv_if_lt (tgt := 67) hx hb dX1_upper_10 (by decide) (fun c_1 => ?_) (fun c_1 => ?_)
  · have hjn : j = 32 := lpd_end hj c_1
    subst hjn
    refine lv_iload_n hx hb dX1_upper_67 rfl (lv_at hl 1 rfl) ?_
    exact W.iret (v := (L_upper a1 a2 32).1) hx hb hr (fun t ht hW => ⟨_, rfl, (by unfold F_m_upper; rfl), ht⟩) (fun _ h => by cases h) dX1_upper_68
  · have hlt : j < 32 := lpd_lt hj c_1
    refine lv_iload_n hx hb dX1_upper_13 rfl (lv_at hl 1 rfl) ?_
    refine lv_iconst (v := 1) hx hb dX1_upper_14 (by decide) ?_
    refine lv_ishl hx hb dX1_upper_15 ?_
    refine lv_iload_n hx hb dX1_upper_16 rfl (lv_at hl 2 rfl) ?_
    refine lv_bipush (v := 31) hx hb dX1_upper_17 (by decide) ?_
    refine lv_iushr (v := (((L_upper a1 a2 j).2).toUInt32 >>> ((31 : Int32).toUInt32 &&& Int32.toUInt32 31)).toInt32) hx hb dX1_upper_19 rfl ?_
    refine lv_ior hx hb dX1_upper_20 ?_
    refine lv_istore_n (lv' := [(2, .int ((((L_upper a1 a2 j).1) <<< ((1 : Int32) &&& 31)) ||| ((((L_upper a1 a2 j).2).toUInt32 >>> ((31 : Int32).toUInt32 &&& Int32.toUInt32 31)).toInt32))), (4, .int (31 - nI j)), (3, .int ((L_upper a1 a2 j).2)), (0, .int a1), (1, .int a2)]) hx hb dX1_upper_21 rfl hl (by decide) rfl (fun ls hl => ?_)
    refine lv_iload_n hx hb dX1_upper_22 rfl (lv_at hl 2 rfl) ?_
    refine lv_iconst (v := 1) hx hb dX1_upper_23 (by decide) ?_
    refine lv_ishl hx hb dX1_upper_24 ?_
    refine lv_istore_n (lv' := [(3, .int (((L_upper a1 a2 j).2) <<< ((1 : Int32) &&& 31))), (2, .int ((((L_upper a1 a2 j).1) <<< ((1 : Int32) &&& 31)) ||| ((((L_upper a1 a2 j).2).toUInt32 >>> ((31 : Int32).toUInt32 &&& Int32.toUInt32 31)).toInt32))), (4, .int (31 - nI j)), (0, .int a1), (1, .int a2)]) hx hb dX1_upper_25 rfl hl (by decide) rfl (fun ls hl => ?_)
    refine lv_iload_n hx hb dX1_upper_26 rfl (lv_at hl 4 rfl) ?_
    refine lv_iload hx hb dX1_upper_27 (lv_at hl 2 rfl) ?_
    refine lv_ishr hx hb dX1_upper_29 ?_
    refine lv_iconst (v := 1) hx hb dX1_upper_30 (by decide) ?_
    refine lv_iand hx hb dX1_upper_31 ?_
    refine lv_iconst (v := 1) hx hb dX1_upper_32 (by decide) ?_
    refine lv_icmp_ne (tgt := 61) hx hb dX1_upper_33 (by decide) (fun c_2 => ?_) (fun c_2 => ?_)
    · refine lv_iinc (v := (31 - nI j) + (-1)) (lv' := [(4, .int ((31 - nI j) + (-1))), (3, .int (((L_upper a1 a2 j).2) <<< ((1 : Int32) &&& 31))), (2, .int ((((L_upper a1 a2 j).1) <<< ((1 : Int32) &&& 31)) ||| ((((L_upper a1 a2 j).2).toUInt32 >>> ((31 : Int32).toUInt32 &&& Int32.toUInt32 31)).toInt32))), (0, .int a1), (1, .int a2)]) hx hb dX1_upper_61 hl (k := 2) rfl rfl (by decide) rfl (fun ls hl => ?_)
      refine lv_goto (tgt := 8) hx hb dX1_upper_64 (by decide) ?_
      have hl := lv_sub hl [0, 2, 1, 3, 4] rfl
      have hacc : (L_upper a1 a2 (j + 1)) = ((((L_upper a1 a2 j).1) <<< ((1 : Int32) &&& 31)) ||| ((((L_upper a1 a2 j).2).toUInt32 >>> ((31 : Int32).toUInt32 &&& Int32.toUInt32 31)).toInt32), ((L_upper a1 a2 j).2) <<< ((1 : Int32) &&& 31)) := by show B_upper a1 a2 j (L_upper a1 a2 j) = _; unfold B_upper; first | rfl | (rw [if_neg c_2]; done) | (rw [if_neg c_2]; rfl)
      rw [lpd_next] at hl
      exact ih _ _ ls hlt ⟨⟨rfl, rfl⟩, by rw [hacc]; exact hl⟩
    · refine lv_iload_n hx hb dX1_upper_36 rfl (lv_at hl 0 rfl) ?_
      refine lv_iload_n hx hb dX1_upper_37 rfl (lv_at hl 3 rfl) ?_
      refine lv_iadd hx hb dX1_upper_38 ?_
      refine lv_istore (lv' := [(5, .int ((((L_upper a1 a2 j).2) <<< ((1 : Int32) &&& 31)) + a1)), (3, .int (((L_upper a1 a2 j).2) <<< ((1 : Int32) &&& 31))), (2, .int ((((L_upper a1 a2 j).1) <<< ((1 : Int32) &&& 31)) ||| ((((L_upper a1 a2 j).2).toUInt32 >>> ((31 : Int32).toUInt32 &&& Int32.toUInt32 31)).toInt32))), (4, .int (31 - nI j)), (0, .int a1), (1, .int a2)]) hx hb dX1_upper_39 hl (by decide) rfl (fun ls hl => ?_)
      refine lv_iload hx hb dX1_upper_41 (lv_at hl 0 rfl) ?_
      refine lv_iload_n hx hb dX1_upper_43 rfl (lv_at hl 4 rfl) ?_
      refine vp_callSi (W.runS (As := [.int ((((L_upper a1 a2 j).2) <<< ((1 : Int32) &&& 31)) + a1), .int a1]) (rest := []) ⟨hx, hb, hml, hown, hts⟩ (c_m_under l ((((L_upper a1 a2 j).2) <<< ((1 : Int32) &&& 31)) + a1) a1) (cwS 2 hts (gS mL_X1_40 mS_X1_under mN_X1 mC_X1_under) rfl rfl rfl (by decide +kernel) ⟨Nat.le_of_ble_eq_true rfl, Nat.le_of_ble_eq_true rfl⟩) preEq rfl rfl hl.1 rfl (lv_room (Nat.le_of_ble_eq_true rfl)) dX1_upper_44 ⟨Nat.zero_le _, Nat.zero_le _⟩) (fun r_3 hw => ?_)
      obtain ⟨b_4, hw⟩ := hw
      rw [hw] at b_4 ⊢
      clear hw
      refine lv_if_eq (tgt := 56) hx hb dX1_upper_47 (by decide) (fun c_5 => ?_) (fun c_5 => ?_)
      · refine lv_iload_n hx hb dX1_upper_56 rfl (lv_at hl 2 rfl) ?_
        refine lv_istore_n (lv' := [(2, .int ((((L_upper a1 a2 j).1) <<< ((1 : Int32) &&& 31)) ||| ((((L_upper a1 a2 j).2).toUInt32 >>> ((31 : Int32).toUInt32 &&& Int32.toUInt32 31)).toInt32))), (5, .int ((((L_upper a1 a2 j).2) <<< ((1 : Int32) &&& 31)) + a1)), (3, .int (((L_upper a1 a2 j).2) <<< ((1 : Int32) &&& 31))), (4, .int (31 - nI j)), (0, .int a1), (1, .int a2)]) hx hb dX1_upper_57 rfl hl (by decide) rfl (fun ls hl => ?_)
        refine lv_iload hx hb dX1_upper_58 (lv_at hl 1 rfl) ?_
        refine lv_istore_n (lv' := [(3, .int ((((L_upper a1 a2 j).2) <<< ((1 : Int32) &&& 31)) + a1)), (2, .int ((((L_upper a1 a2 j).1) <<< ((1 : Int32) &&& 31)) ||| ((((L_upper a1 a2 j).2).toUInt32 >>> ((31 : Int32).toUInt32 &&& Int32.toUInt32 31)).toInt32))), (5, .int ((((L_upper a1 a2 j).2) <<< ((1 : Int32) &&& 31)) + a1)), (4, .int (31 - nI j)), (0, .int a1), (1, .int a2)]) hx hb dX1_upper_60 rfl hl (by decide) rfl (fun ls hl => ?_)
        refine lv_iinc (v := (31 - nI j) + (-1)) (lv' := [(4, .int ((31 - nI j) + (-1))), (3, .int ((((L_upper a1 a2 j).2) <<< ((1 : Int32) &&& 31)) + a1)), (2, .int ((((L_upper a1 a2 j).1) <<< ((1 : Int32) &&& 31)) ||| ((((L_upper a1 a2 j).2).toUInt32 >>> ((31 : Int32).toUInt32 &&& Int32.toUInt32 31)).toInt32))), (5, .int ((((L_upper a1 a2 j).2) <<< ((1 : Int32) &&& 31)) + a1)), (0, .int a1), (1, .int a2)]) hx hb dX1_upper_61 hl (k := 3) rfl rfl (by decide) rfl (fun ls hl => ?_)
        refine lv_goto (tgt := 8) hx hb dX1_upper_64 (by decide) ?_
        have hl := lv_sub hl [0, 2, 1, 4, 5] rfl
        have hacc : (L_upper a1 a2 (j + 1)) = ((((L_upper a1 a2 j).1) <<< ((1 : Int32) &&& 31)) ||| ((((L_upper a1 a2 j).2).toUInt32 >>> ((31 : Int32).toUInt32 &&& Int32.toUInt32 31)).toInt32), (((L_upper a1 a2 j).2) <<< ((1 : Int32) &&& 31)) + a1) := by show B_upper a1 a2 j (L_upper a1 a2 j) = _; unfold B_upper; first | rfl | (rw [if_pos c_2, if_pos c_5]; done) | (rw [if_pos c_2, if_pos c_5]; rfl)
        rw [lpd_next] at hl
        exact ih _ _ ls hlt ⟨⟨rfl, rfl⟩, by rw [hacc]; exact hl⟩
      · refine lv_iload_n hx hb dX1_upper_50 rfl (lv_at hl 2 rfl) ?_
        refine lv_iconst (v := 1) hx hb dX1_upper_51 (by decide) ?_
        refine lv_iadd hx hb dX1_upper_52 ?_
        refine lv_goto (tgt := 57) hx hb dX1_upper_53 (by decide) ?_
        refine lv_istore_n (lv' := [(2, .int (((((L_upper a1 a2 j).1) <<< ((1 : Int32) &&& 31)) ||| ((((L_upper a1 a2 j).2).toUInt32 >>> ((31 : Int32).toUInt32 &&& Int32.toUInt32 31)).toInt32)) + 1)), (5, .int ((((L_upper a1 a2 j).2) <<< ((1 : Int32) &&& 31)) + a1)), (3, .int (((L_upper a1 a2 j).2) <<< ((1 : Int32) &&& 31))), (4, .int (31 - nI j)), (0, .int a1), (1, .int a2)]) hx hb dX1_upper_57 rfl hl (by decide) rfl (fun ls hl => ?_)
        refine lv_iload hx hb dX1_upper_58 (lv_at hl 1 rfl) ?_
        refine lv_istore_n (lv' := [(3, .int ((((L_upper a1 a2 j).2) <<< ((1 : Int32) &&& 31)) + a1)), (2, .int (((((L_upper a1 a2 j).1) <<< ((1 : Int32) &&& 31)) ||| ((((L_upper a1 a2 j).2).toUInt32 >>> ((31 : Int32).toUInt32 &&& Int32.toUInt32 31)).toInt32)) + 1)), (5, .int ((((L_upper a1 a2 j).2) <<< ((1 : Int32) &&& 31)) + a1)), (4, .int (31 - nI j)), (0, .int a1), (1, .int a2)]) hx hb dX1_upper_60 rfl hl (by decide) rfl (fun ls hl => ?_)
        refine lv_iinc (v := (31 - nI j) + (-1)) (lv' := [(4, .int ((31 - nI j) + (-1))), (3, .int ((((L_upper a1 a2 j).2) <<< ((1 : Int32) &&& 31)) + a1)), (2, .int (((((L_upper a1 a2 j).1) <<< ((1 : Int32) &&& 31)) ||| ((((L_upper a1 a2 j).2).toUInt32 >>> ((31 : Int32).toUInt32 &&& Int32.toUInt32 31)).toInt32)) + 1)), (5, .int ((((L_upper a1 a2 j).2) <<< ((1 : Int32) &&& 31)) + a1)), (0, .int a1), (1, .int a2)]) hx hb dX1_upper_61 hl (k := 3) rfl rfl (by decide) rfl (fun ls hl => ?_)
        refine lv_goto (tgt := 8) hx hb dX1_upper_64 (by decide) ?_
        have hl := lv_sub hl [0, 2, 1, 4, 5] rfl
        have hacc : (L_upper a1 a2 (j + 1)) = (((((L_upper a1 a2 j).1) <<< ((1 : Int32) &&& 31)) ||| ((((L_upper a1 a2 j).2).toUInt32 >>> ((31 : Int32).toUInt32 &&& Int32.toUInt32 31)).toInt32)) + 1, (((L_upper a1 a2 j).2) <<< ((1 : Int32) &&& 31)) + a1) := by show B_upper a1 a2 j (L_upper a1 a2 j) = _; unfold B_upper; first | rfl | (rw [if_pos c_2, if_neg c_5]; done) | (rw [if_pos c_2, if_neg c_5]; rfl)
        rw [lpd_next] at hl
        exact ih _ _ ls hlt ⟨⟨rfl, rfl⟩, by rw [hacc]; exact hl⟩
def B_divided (a1 a2 : Int32) (j : Nat) (acc : Int32 × Int32) : Int32 × Int32 :=
  if 0 ≤ (acc.2) then
    if (F_m_under (((acc.2) <<< ((1 : Int32) &&& 31)) ||| ((a1 >>> ((31 - nI j) &&& 31)) &&& 1)) a2) = 0 then
      (((acc.1) <<< ((1 : Int32) &&& 31)) ||| 1, (((acc.2) <<< ((1 : Int32) &&& 31)) ||| ((a1 >>> ((31 - nI j) &&& 31)) &&& 1)) - a2)
    else
      (((acc.1) <<< ((1 : Int32) &&& 31)) ||| 0, ((acc.2) <<< ((1 : Int32) &&& 31)) ||| ((a1 >>> ((31 - nI j) &&& 31)) &&& 1))
  else
    (((acc.1) <<< ((1 : Int32) &&& 31)) ||| 1, (((acc.2) <<< ((1 : Int32) &&& 31)) ||| ((a1 >>> ((31 - nI j) &&& 31)) &&& 1)) - a2)
def L_divided (a1 a2 : Int32) : Nat → (Int32 × Int32)
  | 0 => (0, 0)
  | j + 1 => B_divided a1 a2 j (L_divided a1 a2 j)
def F_m_divided  (a1 : Int32) (a2 : Int32) (a3 : Int32) : Int32 :=
  if a3 = 0 then
    (L_divided a1 a2 32).1
  else
    (L_divided a1 a2 32).2
set_option maxHeartbeats 4000000 in
set_option maxRecDepth 100000 in
theorem c_m_divided (l : Launch) (a1 : Int32) (a2 : Int32) (a3 : Int32) : Met l yX1_divided wsX1_divided ({ frames := 1, cells := 0, slots := 0, locals := 25 }) (fun v _ => v = ([.int a1, .int a2, .int a3] : List Value).toArray) (vp_Si (fun r : Int32 => r = F_m_divided a1 a2 a3)) 0 0 (fun _ => False) := by
  refine Met.ofW (cc := cX1_divided) (maxL := 8) (ret := (some .int)) (by decide) rfl ?_
  intro p e s m args below meth c s₁ B hml hv
  obtain rfl := hv
  have hx := B.exec
  have hb := B.bytes
  have hr := B.returns
  have hts := atoms_spec (ws := wsX1_divided) B.pre
  have hown : s.vm.findClass RX1 = some m.cls := findClass_of_methodNamed B.named
  have hlocks := B.notSynchronized
  have hl := lv_entry ([.int a1, .int a2, .int a3]) (n := 8) (Nat.le_of_ble_eq_true rfl)
  rw [lg_entry_eq]
  generalize (lg_sl ([.int a1, .int a2, .int a3]) ++ List.replicate (8 - (lg_sl ([.int a1, .int a2, .int a3])).length) Slot.unset).toArray = ls at hl ⊢
  have hl : lv_has ls 8 [(0, .int a1), (1, .int a2), (2, .int a3)] := hl
  refine lv_iconst (v := 0) hx hb dX1_divided_0 (by decide) ?_
  refine lv_istore_n (lv' := [(3, .int 0), (0, .int a1), (1, .int a2), (2, .int a3)]) hx hb dX1_divided_1 rfl hl (by decide) rfl (fun ls hl => ?_)
  refine lv_iconst (v := 0) hx hb dX1_divided_2 (by decide) ?_
  refine lv_istore (lv' := [(4, .int 0), (3, .int 0), (0, .int a1), (1, .int a2), (2, .int a3)]) hx hb dX1_divided_3 hl (by decide) rfl (fun ls hl => ?_)
  refine lv_bipush (v := 31) hx hb dX1_divided_5 (by decide) ?_
  refine lv_istore (lv' := [(5, .int 31), (4, .int 0), (3, .int 0), (0, .int a1), (1, .int a2), (2, .int a3)]) hx hb dX1_divided_7 hl (by decide) rfl (fun ls hl => ?_)
  have hl := lv_sub hl [0, 2, 1, 3, 4, 5] rfl
  refine lv_loop (n := 32) (P := fun j H locs ls => (H = s.heap ∧ locs = []) ∧ lv_has ls 8 [(5, .int (31 - nI j)), (3, .int ((L_divided a1 a2 j).1)), (4, .int ((L_divided a1 a2 j).2)), (0, .int a1), (1, .int a2), (2, .int a3)]) (Wg := fun H locs ls => W p l e _ s m _ below meth c H locs 0 0 _ (F0 m 9 ls [])) ?_ (32) 0 _ _ ls (by omega) (Nat.zero_le _) ⟨⟨rfl, rfl⟩, (by rw [lpd_0]; exact hl)⟩
  rintro j H locs ls hj ⟨⟨rfl, rfl⟩, hl⟩ ih
  refine lv_iload hx hb dX1_divided_9 (lv_at hl 0 rfl) ?_
  refine lv_if_lt (tgt := 97) hx hb dX1_divided_11 (by decide) (fun c_1 => ?_) (fun c_1 => ?_)
  · have hjn : j = 32 := lpd_end hj c_1
    subst hjn
    refine lv_iload_n hx hb dX1_divided_97 rfl (lv_at hl 5 rfl) ?_
    refine lv_if_eq (tgt := 106) hx hb dX1_divided_98 (by decide) (fun c_2 => ?_) (fun c_2 => ?_)
    · refine lv_iload_n hx hb dX1_divided_106 rfl (lv_at hl 1 rfl) ?_
      exact W.iret (v := (L_divided a1 a2 32).1) hx hb hr (fun t ht hW => ⟨_, rfl, (by unfold F_m_divided; first | (rw [if_pos c_2]; done) | (rw [if_pos c_2]; rfl)), ht⟩) (fun _ h => by cases h) dX1_divided_107
    · refine lv_iload hx hb dX1_divided_101 (lv_at hl 2 rfl) ?_
      refine lv_goto (tgt := 107) hx hb dX1_divided_103 (by decide) ?_
      exact W.iret (v := (L_divided a1 a2 32).2) hx hb hr (fun t ht hW => ⟨_, rfl, (by unfold F_m_divided; first | (rw [if_neg c_2]; done) | (rw [if_neg c_2]; rfl)), ht⟩) (fun _ h => by cases h) dX1_divided_107
  · have hlt : j < 32 := lpd_lt hj c_1
    refine lv_iload hx hb dX1_divided_14 (lv_at hl 2 rfl) ?_
    refine lv_if_ge (tgt := 23) hx hb dX1_divided_16 (by decide) (fun c_3 => ?_) (fun c_3 => ?_)
    · refine lv_iconst (v := 0) hx hb dX1_divided_23 (by decide) ?_
      refine lv_istore (lv' := [(6, .int 0), (5, .int (31 - nI j)), (3, .int ((L_divided a1 a2 j).1)), (4, .int ((L_divided a1 a2 j).2)), (0, .int a1), (1, .int a2), (2, .int a3)]) hx hb dX1_divided_24 hl (by decide) rfl (fun ls hl => ?_)
      refine lv_iload hx hb dX1_divided_26 (lv_at hl 3 rfl) ?_
      refine lv_iconst (v := 1) hx hb dX1_divided_28 (by decide) ?_
      refine lv_ishl hx hb dX1_divided_29 ?_
      refine lv_iload_n hx hb dX1_divided_30 rfl (lv_at hl 4 rfl) ?_
      refine lv_iload hx hb dX1_divided_31 (lv_at hl 1 rfl) ?_
      refine lv_ishr hx hb dX1_divided_33 ?_
      refine lv_iconst (v := 1) hx hb dX1_divided_34 (by decide) ?_
      refine lv_iand hx hb dX1_divided_35 ?_
      refine lv_ior hx hb dX1_divided_36 ?_
      refine lv_istore (lv' := [(4, .int ((((L_divided a1 a2 j).2) <<< ((1 : Int32) &&& 31)) ||| ((a1 >>> ((31 - nI j) &&& 31)) &&& 1))), (6, .int 0), (5, .int (31 - nI j)), (3, .int ((L_divided a1 a2 j).1)), (0, .int a1), (1, .int a2), (2, .int a3)]) hx hb dX1_divided_37 hl (by decide) rfl (fun ls hl => ?_)
      refine lv_iload hx hb dX1_divided_39 (lv_at hl 1 rfl) ?_
      refine lv_if_ne (tgt := 53) hx hb dX1_divided_41 (by decide) (fun c_4 => ?_) (fun c_4 => ?_)
      · exact absurd (by decide) c_4
      · refine lv_iload hx hb dX1_divided_44 (lv_at hl 0 rfl) ?_
        refine lv_iload_n hx hb dX1_divided_46 rfl (lv_at hl 5 rfl) ?_
        refine vp_callSi (W.runS (As := [.int ((((L_divided a1 a2 j).2) <<< ((1 : Int32) &&& 31)) ||| ((a1 >>> ((31 - nI j) &&& 31)) &&& 1)), .int a2]) (rest := []) ⟨hx, hb, hml, hown, hts⟩ (c_m_under l ((((L_divided a1 a2 j).2) <<< ((1 : Int32) &&& 31)) ||| ((a1 >>> ((31 - nI j) &&& 31)) &&& 1)) a2) (cwS 2 hts (gS mL_X1_40 mS_X1_under mN_X1 mC_X1_under) rfl rfl rfl (by decide +kernel) ⟨Nat.le_of_ble_eq_true rfl, Nat.le_of_ble_eq_true rfl⟩) preEq rfl rfl hl.1 rfl (lv_room (Nat.le_of_ble_eq_true rfl)) dX1_divided_47 ⟨Nat.zero_le _, Nat.zero_le _⟩) (fun r_5 hw => ?_)
        obtain ⟨b_6, hw⟩ := hw
        rw [hw] at b_6 ⊢
        clear hw
        refine lv_if_ne (tgt := 57) hx hb dX1_divided_50 (by decide) (fun c_7 => ?_) (fun c_7 => ?_)
        · refine lv_iconst (v := 0) hx hb dX1_divided_57 (by decide) ?_
          refine lv_istore (lv' := [(7, .int 0), (4, .int ((((L_divided a1 a2 j).2) <<< ((1 : Int32) &&& 31)) ||| ((a1 >>> ((31 - nI j) &&& 31)) &&& 1))), (6, .int 0), (5, .int (31 - nI j)), (3, .int ((L_divided a1 a2 j).1)), (0, .int a1), (1, .int a2), (2, .int a3)]) hx hb dX1_divided_58 hl (by decide) rfl (fun ls hl => ?_)
          refine lv_iload hx hb dX1_divided_60 (lv_at hl 0 rfl) ?_
          refine lv_if_eq (tgt := 72) hx hb dX1_divided_62 (by decide) (fun c_8 => ?_) (fun c_8 => ?_)
          · refine lv_iload hx hb dX1_divided_72 (lv_at hl 1 rfl) ?_
            refine lv_istore (lv' := [(4, .int ((((L_divided a1 a2 j).2) <<< ((1 : Int32) &&& 31)) ||| ((a1 >>> ((31 - nI j) &&& 31)) &&& 1))), (7, .int 0), (6, .int 0), (5, .int (31 - nI j)), (3, .int ((L_divided a1 a2 j).1)), (0, .int a1), (1, .int a2), (2, .int a3)]) hx hb dX1_divided_74 hl (by decide) rfl (fun ls hl => ?_)
            refine lv_iload_n hx hb dX1_divided_76 rfl (lv_at hl 4 rfl) ?_
            refine lv_iconst (v := 1) hx hb dX1_divided_77 (by decide) ?_
            refine lv_ishl hx hb dX1_divided_78 ?_
            refine lv_iload hx hb dX1_divided_79 (lv_at hl 1 rfl) ?_
            refine lv_if_eq (tgt := 88) hx hb dX1_divided_81 (by decide) (fun c_9 => ?_) (fun c_9 => ?_)
            · refine lv_iconst (v := 0) hx hb dX1_divided_88 (by decide) ?_
              refine lv_ior hx hb dX1_divided_89 ?_
              refine lv_istore_n (lv' := [(3, .int ((((L_divided a1 a2 j).1) <<< ((1 : Int32) &&& 31)) ||| 0)), (4, .int ((((L_divided a1 a2 j).2) <<< ((1 : Int32) &&& 31)) ||| ((a1 >>> ((31 - nI j) &&& 31)) &&& 1))), (7, .int 0), (6, .int 0), (5, .int (31 - nI j)), (0, .int a1), (1, .int a2), (2, .int a3)]) hx hb dX1_divided_90 rfl hl (by decide) rfl (fun ls hl => ?_)
              refine lv_iinc (v := (31 - nI j) + (-1)) (lv' := [(5, .int ((31 - nI j) + (-1))), (3, .int ((((L_divided a1 a2 j).1) <<< ((1 : Int32) &&& 31)) ||| 0)), (4, .int ((((L_divided a1 a2 j).2) <<< ((1 : Int32) &&& 31)) ||| ((a1 >>> ((31 - nI j) &&& 31)) &&& 1))), (7, .int 0), (6, .int 0), (0, .int a1), (1, .int a2), (2, .int a3)]) hx hb dX1_divided_91 hl (k := 4) rfl rfl (by decide) rfl (fun ls hl => ?_)
              refine lv_goto (tgt := 9) hx hb dX1_divided_94 (by decide) ?_
              have hl := lv_sub hl [0, 1, 2, 5, 6, 7] rfl
              have hacc : (L_divided a1 a2 (j + 1)) = ((((L_divided a1 a2 j).1) <<< ((1 : Int32) &&& 31)) ||| 0, (((L_divided a1 a2 j).2) <<< ((1 : Int32) &&& 31)) ||| ((a1 >>> ((31 - nI j) &&& 31)) &&& 1)) := by show B_divided a1 a2 j (L_divided a1 a2 j) = _; unfold B_divided; first | rfl | (rw [if_pos c_3, if_neg c_7]; done) | (rw [if_pos c_3, if_neg c_7]; rfl)
              rw [lpd_next] at hl
              exact ih _ _ ls hlt ⟨⟨rfl, rfl⟩, by rw [hacc]; exact hl⟩
            · exact absurd (by decide) c_9
          · exact absurd (by decide) c_8
        · refine lv_iconst (v := 1) hx hb dX1_divided_53 (by decide) ?_
          refine lv_goto (tgt := 58) hx hb dX1_divided_54 (by decide) ?_
          refine lv_istore (lv' := [(7, .int 1), (4, .int ((((L_divided a1 a2 j).2) <<< ((1 : Int32) &&& 31)) ||| ((a1 >>> ((31 - nI j) &&& 31)) &&& 1))), (6, .int 0), (5, .int (31 - nI j)), (3, .int ((L_divided a1 a2 j).1)), (0, .int a1), (1, .int a2), (2, .int a3)]) hx hb dX1_divided_58 hl (by decide) rfl (fun ls hl => ?_)
          refine lv_iload hx hb dX1_divided_60 (lv_at hl 0 rfl) ?_
          refine lv_if_eq (tgt := 72) hx hb dX1_divided_62 (by decide) (fun c_10 => ?_) (fun c_10 => ?_)
          · exact absurd c_10 (by decide)
          · refine lv_iload hx hb dX1_divided_65 (lv_at hl 1 rfl) ?_
            refine lv_iload_n hx hb dX1_divided_67 rfl (lv_at hl 6 rfl) ?_
            refine lv_isub hx hb dX1_divided_68 ?_
            refine lv_goto (tgt := 74) hx hb dX1_divided_69 (by decide) ?_
            refine lv_istore (lv' := [(4, .int (((((L_divided a1 a2 j).2) <<< ((1 : Int32) &&& 31)) ||| ((a1 >>> ((31 - nI j) &&& 31)) &&& 1)) - a2)), (7, .int 1), (6, .int 0), (5, .int (31 - nI j)), (3, .int ((L_divided a1 a2 j).1)), (0, .int a1), (1, .int a2), (2, .int a3)]) hx hb dX1_divided_74 hl (by decide) rfl (fun ls hl => ?_)
            refine lv_iload_n hx hb dX1_divided_76 rfl (lv_at hl 4 rfl) ?_
            refine lv_iconst (v := 1) hx hb dX1_divided_77 (by decide) ?_
            refine lv_ishl hx hb dX1_divided_78 ?_
            refine lv_iload hx hb dX1_divided_79 (lv_at hl 1 rfl) ?_
            refine lv_if_eq (tgt := 88) hx hb dX1_divided_81 (by decide) (fun c_11 => ?_) (fun c_11 => ?_)
            · exact absurd c_11 (by decide)
            · refine lv_iconst (v := 1) hx hb dX1_divided_84 (by decide) ?_
              refine lv_goto (tgt := 89) hx hb dX1_divided_85 (by decide) ?_
              refine lv_ior hx hb dX1_divided_89 ?_
              refine lv_istore_n (lv' := [(3, .int ((((L_divided a1 a2 j).1) <<< ((1 : Int32) &&& 31)) ||| 1)), (4, .int (((((L_divided a1 a2 j).2) <<< ((1 : Int32) &&& 31)) ||| ((a1 >>> ((31 - nI j) &&& 31)) &&& 1)) - a2)), (7, .int 1), (6, .int 0), (5, .int (31 - nI j)), (0, .int a1), (1, .int a2), (2, .int a3)]) hx hb dX1_divided_90 rfl hl (by decide) rfl (fun ls hl => ?_)
              refine lv_iinc (v := (31 - nI j) + (-1)) (lv' := [(5, .int ((31 - nI j) + (-1))), (3, .int ((((L_divided a1 a2 j).1) <<< ((1 : Int32) &&& 31)) ||| 1)), (4, .int (((((L_divided a1 a2 j).2) <<< ((1 : Int32) &&& 31)) ||| ((a1 >>> ((31 - nI j) &&& 31)) &&& 1)) - a2)), (7, .int 1), (6, .int 0), (0, .int a1), (1, .int a2), (2, .int a3)]) hx hb dX1_divided_91 hl (k := 4) rfl rfl (by decide) rfl (fun ls hl => ?_)
              refine lv_goto (tgt := 9) hx hb dX1_divided_94 (by decide) ?_
              have hl := lv_sub hl [0, 1, 2, 5, 6, 7] rfl
              have hacc : (L_divided a1 a2 (j + 1)) = ((((L_divided a1 a2 j).1) <<< ((1 : Int32) &&& 31)) ||| 1, ((((L_divided a1 a2 j).2) <<< ((1 : Int32) &&& 31)) ||| ((a1 >>> ((31 - nI j) &&& 31)) &&& 1)) - a2) := by show B_divided a1 a2 j (L_divided a1 a2 j) = _; unfold B_divided; first | rfl | (rw [if_pos c_3, if_pos c_7]; done) | (rw [if_pos c_3, if_pos c_7]; rfl)
              rw [lpd_next] at hl
              exact ih _ _ ls hlt ⟨⟨rfl, rfl⟩, by rw [hacc]; exact hl⟩
    · refine lv_iconst (v := 1) hx hb dX1_divided_19 (by decide) ?_
      refine lv_goto (tgt := 24) hx hb dX1_divided_20 (by decide) ?_
      refine lv_istore (lv' := [(6, .int 1), (5, .int (31 - nI j)), (3, .int ((L_divided a1 a2 j).1)), (4, .int ((L_divided a1 a2 j).2)), (0, .int a1), (1, .int a2), (2, .int a3)]) hx hb dX1_divided_24 hl (by decide) rfl (fun ls hl => ?_)
      refine lv_iload hx hb dX1_divided_26 (lv_at hl 3 rfl) ?_
      refine lv_iconst (v := 1) hx hb dX1_divided_28 (by decide) ?_
      refine lv_ishl hx hb dX1_divided_29 ?_
      refine lv_iload_n hx hb dX1_divided_30 rfl (lv_at hl 4 rfl) ?_
      refine lv_iload hx hb dX1_divided_31 (lv_at hl 1 rfl) ?_
      refine lv_ishr hx hb dX1_divided_33 ?_
      refine lv_iconst (v := 1) hx hb dX1_divided_34 (by decide) ?_
      refine lv_iand hx hb dX1_divided_35 ?_
      refine lv_ior hx hb dX1_divided_36 ?_
      refine lv_istore (lv' := [(4, .int ((((L_divided a1 a2 j).2) <<< ((1 : Int32) &&& 31)) ||| ((a1 >>> ((31 - nI j) &&& 31)) &&& 1))), (6, .int 1), (5, .int (31 - nI j)), (3, .int ((L_divided a1 a2 j).1)), (0, .int a1), (1, .int a2), (2, .int a3)]) hx hb dX1_divided_37 hl (by decide) rfl (fun ls hl => ?_)
      refine lv_iload hx hb dX1_divided_39 (lv_at hl 1 rfl) ?_
      refine lv_if_ne (tgt := 53) hx hb dX1_divided_41 (by decide) (fun c_12 => ?_) (fun c_12 => ?_)
      · refine lv_iconst (v := 1) hx hb dX1_divided_53 (by decide) ?_
        refine lv_goto (tgt := 58) hx hb dX1_divided_54 (by decide) ?_
        refine lv_istore (lv' := [(7, .int 1), (4, .int ((((L_divided a1 a2 j).2) <<< ((1 : Int32) &&& 31)) ||| ((a1 >>> ((31 - nI j) &&& 31)) &&& 1))), (6, .int 1), (5, .int (31 - nI j)), (3, .int ((L_divided a1 a2 j).1)), (0, .int a1), (1, .int a2), (2, .int a3)]) hx hb dX1_divided_58 hl (by decide) rfl (fun ls hl => ?_)
        refine lv_iload hx hb dX1_divided_60 (lv_at hl 0 rfl) ?_
        refine lv_if_eq (tgt := 72) hx hb dX1_divided_62 (by decide) (fun c_13 => ?_) (fun c_13 => ?_)
        · exact absurd c_13 (by decide)
        · refine lv_iload hx hb dX1_divided_65 (lv_at hl 1 rfl) ?_
          refine lv_iload_n hx hb dX1_divided_67 rfl (lv_at hl 6 rfl) ?_
          refine lv_isub hx hb dX1_divided_68 ?_
          refine lv_goto (tgt := 74) hx hb dX1_divided_69 (by decide) ?_
          refine lv_istore (lv' := [(4, .int (((((L_divided a1 a2 j).2) <<< ((1 : Int32) &&& 31)) ||| ((a1 >>> ((31 - nI j) &&& 31)) &&& 1)) - a2)), (7, .int 1), (6, .int 1), (5, .int (31 - nI j)), (3, .int ((L_divided a1 a2 j).1)), (0, .int a1), (1, .int a2), (2, .int a3)]) hx hb dX1_divided_74 hl (by decide) rfl (fun ls hl => ?_)
          refine lv_iload_n hx hb dX1_divided_76 rfl (lv_at hl 4 rfl) ?_
          refine lv_iconst (v := 1) hx hb dX1_divided_77 (by decide) ?_
          refine lv_ishl hx hb dX1_divided_78 ?_
          refine lv_iload hx hb dX1_divided_79 (lv_at hl 1 rfl) ?_
          refine lv_if_eq (tgt := 88) hx hb dX1_divided_81 (by decide) (fun c_14 => ?_) (fun c_14 => ?_)
          · exact absurd c_14 (by decide)
          · refine lv_iconst (v := 1) hx hb dX1_divided_84 (by decide) ?_
            refine lv_goto (tgt := 89) hx hb dX1_divided_85 (by decide) ?_
            refine lv_ior hx hb dX1_divided_89 ?_
            refine lv_istore_n (lv' := [(3, .int ((((L_divided a1 a2 j).1) <<< ((1 : Int32) &&& 31)) ||| 1)), (4, .int (((((L_divided a1 a2 j).2) <<< ((1 : Int32) &&& 31)) ||| ((a1 >>> ((31 - nI j) &&& 31)) &&& 1)) - a2)), (7, .int 1), (6, .int 1), (5, .int (31 - nI j)), (0, .int a1), (1, .int a2), (2, .int a3)]) hx hb dX1_divided_90 rfl hl (by decide) rfl (fun ls hl => ?_)
            refine lv_iinc (v := (31 - nI j) + (-1)) (lv' := [(5, .int ((31 - nI j) + (-1))), (3, .int ((((L_divided a1 a2 j).1) <<< ((1 : Int32) &&& 31)) ||| 1)), (4, .int (((((L_divided a1 a2 j).2) <<< ((1 : Int32) &&& 31)) ||| ((a1 >>> ((31 - nI j) &&& 31)) &&& 1)) - a2)), (7, .int 1), (6, .int 1), (0, .int a1), (1, .int a2), (2, .int a3)]) hx hb dX1_divided_91 hl (k := 4) rfl rfl (by decide) rfl (fun ls hl => ?_)
            refine lv_goto (tgt := 9) hx hb dX1_divided_94 (by decide) ?_
            have hl := lv_sub hl [0, 1, 2, 5, 6, 7] rfl
            have hacc : (L_divided a1 a2 (j + 1)) = ((((L_divided a1 a2 j).1) <<< ((1 : Int32) &&& 31)) ||| 1, ((((L_divided a1 a2 j).2) <<< ((1 : Int32) &&& 31)) ||| ((a1 >>> ((31 - nI j) &&& 31)) &&& 1)) - a2) := by show B_divided a1 a2 j (L_divided a1 a2 j) = _; unfold B_divided; first | rfl | (rw [if_neg c_3]; done) | (rw [if_neg c_3]; rfl)
            rw [lpd_next] at hl
            exact ih _ _ ls hlt ⟨⟨rfl, rfl⟩, by rw [hacc]; exact hl⟩
      · exact absurd c_12 (by decide)
def F_m_quotient  (a1 : Int32) (a2 : Int32) (a3 : Int32) : Int32 :=
  if a2 = 0 then
    if a3 = 0 then
      (-1)
    else
      a1
  else
    if 0 ≤ a1 then
      if 0 ≤ a2 then
        if a3 = 0 then
          F_m_divided a1 a2 a3
        else
          F_m_divided a1 a2 a3
      else
        if a3 = 0 then
          -(F_m_divided a1 (-a2) a3)
        else
          F_m_divided a1 (-a2) a3
    else
      if 0 ≤ a2 then
        if a3 = 0 then
          -(F_m_divided (-a1) a2 a3)
        else
          -(F_m_divided (-a1) a2 a3)
      else
        if a3 = 0 then
          F_m_divided (-a1) (-a2) a3
        else
          -(F_m_divided (-a1) (-a2) a3)
set_option maxHeartbeats 4000000 in
set_option maxRecDepth 100000 in
theorem c_m_quotient (l : Launch) (a1 : Int32) (a2 : Int32) (a3 : Int32) : Met l yX1_quotient wsX1_quotient ({ frames := 2, cells := 0, slots := 0, locals := 52 }) (fun v _ => v = ([.int a1, .int a2, .int a3] : List Value).toArray) (vp_Si (fun r : Int32 => r = F_m_quotient a1 a2 a3)) 0 0 (fun _ => False) := by
  refine Met.ofW (cc := cX1_quotient) (maxL := 5) (ret := (some .int)) (by decide) rfl ?_
  intro p e s m args below meth c s₁ B hml hv
  obtain rfl := hv
  have hx := B.exec
  have hb := B.bytes
  have hr := B.returns
  have hts := atoms_spec (ws := wsX1_quotient) B.pre
  have hown : s.vm.findClass RX1 = some m.cls := findClass_of_methodNamed B.named
  have hlocks := B.notSynchronized
  have hl := lv_entry ([.int a1, .int a2, .int a3]) (n := 5) (Nat.le_of_ble_eq_true rfl)
  rw [lg_entry_eq]
  generalize (lg_sl ([.int a1, .int a2, .int a3]) ++ List.replicate (5 - (lg_sl ([.int a1, .int a2, .int a3])).length) Slot.unset).toArray = ls at hl ⊢
  have hl : lv_has ls 5 [(0, .int a1), (1, .int a2), (2, .int a3)] := hl
  refine lv_iload_n hx hb dX1_quotient_0 rfl (lv_at hl 1 rfl) ?_
  refine lv_if_ne (tgt := 14) hx hb dX1_quotient_1 (by decide) (fun c_1 => ?_) (fun c_1 => ?_)
  · refine lv_iload_n hx hb dX1_quotient_14 rfl (lv_at hl 0 rfl) ?_
    refine lv_if_ge (tgt := 23) hx hb dX1_quotient_15 (by decide) (fun c_2 => ?_) (fun c_2 => ?_)
    · refine lv_iload_n hx hb dX1_quotient_23 rfl (lv_at hl 0 rfl) ?_
      refine lv_iload_n hx hb dX1_quotient_24 rfl (lv_at hl 1 rfl) ?_
      refine lv_if_ge (tgt := 33) hx hb dX1_quotient_25 (by decide) (fun c_3 => ?_) (fun c_3 => ?_)
      · refine lv_iload_n hx hb dX1_quotient_33 rfl (lv_at hl 1 rfl) ?_
        refine lv_iload_n hx hb dX1_quotient_34 rfl (lv_at hl 2 rfl) ?_
        refine vp_callSi (W.runS (As := [.int a1, .int a2, .int a3]) (rest := []) ⟨hx, hb, hml, hown, hts⟩ (c_m_divided l a1 a2 a3) (cwS 3 hts (gS mL_X1_44 mS_X1_divided mN_X1 mC_X1_divided) rfl rfl rfl (by decide +kernel) ⟨Nat.le_of_ble_eq_true rfl, Nat.le_of_ble_eq_true rfl⟩) preEq rfl rfl hl.1 rfl (lv_room (Nat.le_of_ble_eq_true rfl)) dX1_quotient_35 ⟨Nat.zero_le _, Nat.zero_le _⟩) (fun r_4 hw => ?_)
        rw [hw]
        clear hw r_4
        refine lv_istore_n (lv' := [(3, .int (F_m_divided a1 a2 a3)), (0, .int a1), (1, .int a2), (2, .int a3)]) hx hb dX1_quotient_38 rfl hl (by decide) rfl (fun ls hl => ?_)
        refine lv_iload_n hx hb dX1_quotient_39 rfl (lv_at hl 3 rfl) ?_
        refine lv_if_eq (tgt := 55) hx hb dX1_quotient_40 (by decide) (fun c_5 => ?_) (fun c_5 => ?_)
        · refine lv_iload_n hx hb dX1_quotient_55 rfl (lv_at hl 1 rfl) ?_
          refine lv_if_ge (tgt := 63) hx hb dX1_quotient_56 (by decide) (fun c_6 => ?_) (fun c_6 => ?_)
          · refine lv_iconst (v := 0) hx hb dX1_quotient_63 (by decide) ?_
            refine lv_iload_n hx hb dX1_quotient_64 rfl (lv_at hl 2 rfl) ?_
            refine lv_if_ge (tgt := 72) hx hb dX1_quotient_65 (by decide) (fun c_7 => ?_) (fun c_7 => ?_)
            · refine lv_iconst (v := 0) hx hb dX1_quotient_72 (by decide) ?_
              refine lv_icmp_eq (tgt := 80) hx hb dX1_quotient_73 (by decide) (fun c_8 => ?_) (fun c_8 => ?_)
              · refine lv_iconst (v := 0) hx hb dX1_quotient_80 (by decide) ?_
                refine lv_istore (lv' := [(4, .int 0), (3, .int (F_m_divided a1 a2 a3)), (0, .int a1), (1, .int a2), (2, .int a3)]) hx hb dX1_quotient_81 hl (by decide) rfl (fun ls hl => ?_)
                refine lv_iload hx hb dX1_quotient_83 (lv_at hl 0 rfl) ?_
                refine lv_if_eq (tgt := 93) hx hb dX1_quotient_85 (by decide) (fun c_9 => ?_) (fun c_9 => ?_)
                · refine lv_iload_n hx hb dX1_quotient_93 rfl (lv_at hl 1 rfl) ?_
                  exact W.iret (v := F_m_divided a1 a2 a3) hx hb hr (fun t ht hW => ⟨_, rfl, (by unfold F_m_quotient; first | (rw [if_neg c_1, if_pos c_2, if_pos c_3, if_pos c_5]; done) | (rw [if_neg c_1, if_pos c_2, if_pos c_3, if_pos c_5]; rfl)), ht⟩) (fun _ h => by cases h) dX1_quotient_94
                · exact absurd (by decide) c_9
              · exact absurd (by decide) c_8
            · exact absurd c_3 c_7
          · exact absurd c_2 c_6
        · refine lv_iload_n hx hb dX1_quotient_43 rfl (lv_at hl 1 rfl) ?_
          refine lv_if_ge (tgt := 51) hx hb dX1_quotient_44 (by decide) (fun c_10 => ?_) (fun c_10 => ?_)
          · refine lv_iconst (v := 0) hx hb dX1_quotient_51 (by decide) ?_
            refine lv_goto (tgt := 81) hx hb dX1_quotient_52 (by decide) ?_
            refine lv_istore (lv' := [(4, .int 0), (3, .int (F_m_divided a1 a2 a3)), (0, .int a1), (1, .int a2), (2, .int a3)]) hx hb dX1_quotient_81 hl (by decide) rfl (fun ls hl => ?_)
            refine lv_iload hx hb dX1_quotient_83 (lv_at hl 0 rfl) ?_
            refine lv_if_eq (tgt := 93) hx hb dX1_quotient_85 (by decide) (fun c_11 => ?_) (fun c_11 => ?_)
            · refine lv_iload_n hx hb dX1_quotient_93 rfl (lv_at hl 1 rfl) ?_
              exact W.iret (v := F_m_divided a1 a2 a3) hx hb hr (fun t ht hW => ⟨_, rfl, (by unfold F_m_quotient; first | (rw [if_neg c_1, if_pos c_2, if_pos c_3, if_neg c_5]; done) | (rw [if_neg c_1, if_pos c_2, if_pos c_3, if_neg c_5]; rfl)), ht⟩) (fun _ h => by cases h) dX1_quotient_94
            · exact absurd (by decide) c_11
          · exact absurd c_2 c_10
      · refine lv_iload_n hx hb dX1_quotient_28 rfl (lv_at hl 1 rfl) ?_
        refine lv_ineg hx hb dX1_quotient_29 ?_
        refine lv_goto (tgt := 34) hx hb dX1_quotient_30 (by decide) ?_
        refine lv_iload_n hx hb dX1_quotient_34 rfl (lv_at hl 2 rfl) ?_
        refine vp_callSi (W.runS (As := [.int a1, .int (-a2), .int a3]) (rest := []) ⟨hx, hb, hml, hown, hts⟩ (c_m_divided l a1 (-a2) a3) (cwS 3 hts (gS mL_X1_44 mS_X1_divided mN_X1 mC_X1_divided) rfl rfl rfl (by decide +kernel) ⟨Nat.le_of_ble_eq_true rfl, Nat.le_of_ble_eq_true rfl⟩) preEq rfl rfl hl.1 rfl (lv_room (Nat.le_of_ble_eq_true rfl)) dX1_quotient_35 ⟨Nat.zero_le _, Nat.zero_le _⟩) (fun r_12 hw => ?_)
        rw [hw]
        clear hw r_12
        refine lv_istore_n (lv' := [(3, .int (F_m_divided a1 (-a2) a3)), (0, .int a1), (1, .int a2), (2, .int a3)]) hx hb dX1_quotient_38 rfl hl (by decide) rfl (fun ls hl => ?_)
        refine lv_iload_n hx hb dX1_quotient_39 rfl (lv_at hl 3 rfl) ?_
        refine lv_if_eq (tgt := 55) hx hb dX1_quotient_40 (by decide) (fun c_13 => ?_) (fun c_13 => ?_)
        · refine lv_iload_n hx hb dX1_quotient_55 rfl (lv_at hl 1 rfl) ?_
          refine lv_if_ge (tgt := 63) hx hb dX1_quotient_56 (by decide) (fun c_14 => ?_) (fun c_14 => ?_)
          · refine lv_iconst (v := 0) hx hb dX1_quotient_63 (by decide) ?_
            refine lv_iload_n hx hb dX1_quotient_64 rfl (lv_at hl 2 rfl) ?_
            refine lv_if_ge (tgt := 72) hx hb dX1_quotient_65 (by decide) (fun c_15 => ?_) (fun c_15 => ?_)
            · exact absurd c_15 c_3
            · refine lv_iconst (v := 1) hx hb dX1_quotient_68 (by decide) ?_
              refine lv_goto (tgt := 73) hx hb dX1_quotient_69 (by decide) ?_
              refine lv_icmp_eq (tgt := 80) hx hb dX1_quotient_73 (by decide) (fun c_16 => ?_) (fun c_16 => ?_)
              · exact absurd c_16 (by decide)
              · refine lv_iconst (v := 1) hx hb dX1_quotient_76 (by decide) ?_
                refine lv_goto (tgt := 81) hx hb dX1_quotient_77 (by decide) ?_
                refine lv_istore (lv' := [(4, .int 1), (3, .int (F_m_divided a1 (-a2) a3)), (0, .int a1), (1, .int a2), (2, .int a3)]) hx hb dX1_quotient_81 hl (by decide) rfl (fun ls hl => ?_)
                refine lv_iload hx hb dX1_quotient_83 (lv_at hl 0 rfl) ?_
                refine lv_if_eq (tgt := 93) hx hb dX1_quotient_85 (by decide) (fun c_17 => ?_) (fun c_17 => ?_)
                · exact absurd c_17 (by decide)
                · refine lv_iload_n hx hb dX1_quotient_88 rfl (lv_at hl 1 rfl) ?_
                  refine lv_ineg hx hb dX1_quotient_89 ?_
                  refine lv_goto (tgt := 94) hx hb dX1_quotient_90 (by decide) ?_
                  exact W.iret (v := -(F_m_divided a1 (-a2) a3)) hx hb hr (fun t ht hW => ⟨_, rfl, (by unfold F_m_quotient; first | (rw [if_neg c_1, if_pos c_2, if_neg c_3, if_pos c_13]; done) | (rw [if_neg c_1, if_pos c_2, if_neg c_3, if_pos c_13]; rfl)), ht⟩) (fun _ h => by cases h) dX1_quotient_94
          · exact absurd c_2 c_14
        · refine lv_iload_n hx hb dX1_quotient_43 rfl (lv_at hl 1 rfl) ?_
          refine lv_if_ge (tgt := 51) hx hb dX1_quotient_44 (by decide) (fun c_18 => ?_) (fun c_18 => ?_)
          · refine lv_iconst (v := 0) hx hb dX1_quotient_51 (by decide) ?_
            refine lv_goto (tgt := 81) hx hb dX1_quotient_52 (by decide) ?_
            refine lv_istore (lv' := [(4, .int 0), (3, .int (F_m_divided a1 (-a2) a3)), (0, .int a1), (1, .int a2), (2, .int a3)]) hx hb dX1_quotient_81 hl (by decide) rfl (fun ls hl => ?_)
            refine lv_iload hx hb dX1_quotient_83 (lv_at hl 0 rfl) ?_
            refine lv_if_eq (tgt := 93) hx hb dX1_quotient_85 (by decide) (fun c_19 => ?_) (fun c_19 => ?_)
            · refine lv_iload_n hx hb dX1_quotient_93 rfl (lv_at hl 1 rfl) ?_
              exact W.iret (v := F_m_divided a1 (-a2) a3) hx hb hr (fun t ht hW => ⟨_, rfl, (by unfold F_m_quotient; first | (rw [if_neg c_1, if_pos c_2, if_neg c_3, if_neg c_13]; done) | (rw [if_neg c_1, if_pos c_2, if_neg c_3, if_neg c_13]; rfl)), ht⟩) (fun _ h => by cases h) dX1_quotient_94
            · exact absurd (by decide) c_19
          · exact absurd c_2 c_18
    · refine lv_iload_n hx hb dX1_quotient_18 rfl (lv_at hl 0 rfl) ?_
      refine lv_ineg hx hb dX1_quotient_19 ?_
      refine lv_goto (tgt := 24) hx hb dX1_quotient_20 (by decide) ?_
      refine lv_iload_n hx hb dX1_quotient_24 rfl (lv_at hl 1 rfl) ?_
      refine lv_if_ge (tgt := 33) hx hb dX1_quotient_25 (by decide) (fun c_20 => ?_) (fun c_20 => ?_)
      · refine lv_iload_n hx hb dX1_quotient_33 rfl (lv_at hl 1 rfl) ?_
        refine lv_iload_n hx hb dX1_quotient_34 rfl (lv_at hl 2 rfl) ?_
        refine vp_callSi (W.runS (As := [.int (-a1), .int a2, .int a3]) (rest := []) ⟨hx, hb, hml, hown, hts⟩ (c_m_divided l (-a1) a2 a3) (cwS 3 hts (gS mL_X1_44 mS_X1_divided mN_X1 mC_X1_divided) rfl rfl rfl (by decide +kernel) ⟨Nat.le_of_ble_eq_true rfl, Nat.le_of_ble_eq_true rfl⟩) preEq rfl rfl hl.1 rfl (lv_room (Nat.le_of_ble_eq_true rfl)) dX1_quotient_35 ⟨Nat.zero_le _, Nat.zero_le _⟩) (fun r_21 hw => ?_)
        rw [hw]
        clear hw r_21
        refine lv_istore_n (lv' := [(3, .int (F_m_divided (-a1) a2 a3)), (0, .int a1), (1, .int a2), (2, .int a3)]) hx hb dX1_quotient_38 rfl hl (by decide) rfl (fun ls hl => ?_)
        refine lv_iload_n hx hb dX1_quotient_39 rfl (lv_at hl 3 rfl) ?_
        refine lv_if_eq (tgt := 55) hx hb dX1_quotient_40 (by decide) (fun c_22 => ?_) (fun c_22 => ?_)
        · refine lv_iload_n hx hb dX1_quotient_55 rfl (lv_at hl 1 rfl) ?_
          refine lv_if_ge (tgt := 63) hx hb dX1_quotient_56 (by decide) (fun c_23 => ?_) (fun c_23 => ?_)
          · exact absurd c_23 c_2
          · refine lv_iconst (v := 1) hx hb dX1_quotient_59 (by decide) ?_
            refine lv_goto (tgt := 64) hx hb dX1_quotient_60 (by decide) ?_
            refine lv_iload_n hx hb dX1_quotient_64 rfl (lv_at hl 2 rfl) ?_
            refine lv_if_ge (tgt := 72) hx hb dX1_quotient_65 (by decide) (fun c_24 => ?_) (fun c_24 => ?_)
            · refine lv_iconst (v := 0) hx hb dX1_quotient_72 (by decide) ?_
              refine lv_icmp_eq (tgt := 80) hx hb dX1_quotient_73 (by decide) (fun c_25 => ?_) (fun c_25 => ?_)
              · exact absurd c_25 (by decide)
              · refine lv_iconst (v := 1) hx hb dX1_quotient_76 (by decide) ?_
                refine lv_goto (tgt := 81) hx hb dX1_quotient_77 (by decide) ?_
                refine lv_istore (lv' := [(4, .int 1), (3, .int (F_m_divided (-a1) a2 a3)), (0, .int a1), (1, .int a2), (2, .int a3)]) hx hb dX1_quotient_81 hl (by decide) rfl (fun ls hl => ?_)
                refine lv_iload hx hb dX1_quotient_83 (lv_at hl 0 rfl) ?_
                refine lv_if_eq (tgt := 93) hx hb dX1_quotient_85 (by decide) (fun c_26 => ?_) (fun c_26 => ?_)
                · exact absurd c_26 (by decide)
                · refine lv_iload_n hx hb dX1_quotient_88 rfl (lv_at hl 1 rfl) ?_
                  refine lv_ineg hx hb dX1_quotient_89 ?_
                  refine lv_goto (tgt := 94) hx hb dX1_quotient_90 (by decide) ?_
                  exact W.iret (v := -(F_m_divided (-a1) a2 a3)) hx hb hr (fun t ht hW => ⟨_, rfl, (by unfold F_m_quotient; first | (rw [if_neg c_1, if_neg c_2, if_pos c_20, if_pos c_22]; done) | (rw [if_neg c_1, if_neg c_2, if_pos c_20, if_pos c_22]; rfl)), ht⟩) (fun _ h => by cases h) dX1_quotient_94
            · exact absurd c_20 c_24
        · refine lv_iload_n hx hb dX1_quotient_43 rfl (lv_at hl 1 rfl) ?_
          refine lv_if_ge (tgt := 51) hx hb dX1_quotient_44 (by decide) (fun c_27 => ?_) (fun c_27 => ?_)
          · exact absurd c_27 c_2
          · refine lv_iconst (v := 1) hx hb dX1_quotient_47 (by decide) ?_
            refine lv_goto (tgt := 81) hx hb dX1_quotient_48 (by decide) ?_
            refine lv_istore (lv' := [(4, .int 1), (3, .int (F_m_divided (-a1) a2 a3)), (0, .int a1), (1, .int a2), (2, .int a3)]) hx hb dX1_quotient_81 hl (by decide) rfl (fun ls hl => ?_)
            refine lv_iload hx hb dX1_quotient_83 (lv_at hl 0 rfl) ?_
            refine lv_if_eq (tgt := 93) hx hb dX1_quotient_85 (by decide) (fun c_28 => ?_) (fun c_28 => ?_)
            · exact absurd c_28 (by decide)
            · refine lv_iload_n hx hb dX1_quotient_88 rfl (lv_at hl 1 rfl) ?_
              refine lv_ineg hx hb dX1_quotient_89 ?_
              refine lv_goto (tgt := 94) hx hb dX1_quotient_90 (by decide) ?_
              exact W.iret (v := -(F_m_divided (-a1) a2 a3)) hx hb hr (fun t ht hW => ⟨_, rfl, (by unfold F_m_quotient; first | (rw [if_neg c_1, if_neg c_2, if_pos c_20, if_neg c_22]; done) | (rw [if_neg c_1, if_neg c_2, if_pos c_20, if_neg c_22]; rfl)), ht⟩) (fun _ h => by cases h) dX1_quotient_94
      · refine lv_iload_n hx hb dX1_quotient_28 rfl (lv_at hl 1 rfl) ?_
        refine lv_ineg hx hb dX1_quotient_29 ?_
        refine lv_goto (tgt := 34) hx hb dX1_quotient_30 (by decide) ?_
        refine lv_iload_n hx hb dX1_quotient_34 rfl (lv_at hl 2 rfl) ?_
        refine vp_callSi (W.runS (As := [.int (-a1), .int (-a2), .int a3]) (rest := []) ⟨hx, hb, hml, hown, hts⟩ (c_m_divided l (-a1) (-a2) a3) (cwS 3 hts (gS mL_X1_44 mS_X1_divided mN_X1 mC_X1_divided) rfl rfl rfl (by decide +kernel) ⟨Nat.le_of_ble_eq_true rfl, Nat.le_of_ble_eq_true rfl⟩) preEq rfl rfl hl.1 rfl (lv_room (Nat.le_of_ble_eq_true rfl)) dX1_quotient_35 ⟨Nat.zero_le _, Nat.zero_le _⟩) (fun r_29 hw => ?_)
        rw [hw]
        clear hw r_29
        refine lv_istore_n (lv' := [(3, .int (F_m_divided (-a1) (-a2) a3)), (0, .int a1), (1, .int a2), (2, .int a3)]) hx hb dX1_quotient_38 rfl hl (by decide) rfl (fun ls hl => ?_)
        refine lv_iload_n hx hb dX1_quotient_39 rfl (lv_at hl 3 rfl) ?_
        refine lv_if_eq (tgt := 55) hx hb dX1_quotient_40 (by decide) (fun c_30 => ?_) (fun c_30 => ?_)
        · refine lv_iload_n hx hb dX1_quotient_55 rfl (lv_at hl 1 rfl) ?_
          refine lv_if_ge (tgt := 63) hx hb dX1_quotient_56 (by decide) (fun c_31 => ?_) (fun c_31 => ?_)
          · exact absurd c_31 c_2
          · refine lv_iconst (v := 1) hx hb dX1_quotient_59 (by decide) ?_
            refine lv_goto (tgt := 64) hx hb dX1_quotient_60 (by decide) ?_
            refine lv_iload_n hx hb dX1_quotient_64 rfl (lv_at hl 2 rfl) ?_
            refine lv_if_ge (tgt := 72) hx hb dX1_quotient_65 (by decide) (fun c_32 => ?_) (fun c_32 => ?_)
            · exact absurd c_32 c_20
            · refine lv_iconst (v := 1) hx hb dX1_quotient_68 (by decide) ?_
              refine lv_goto (tgt := 73) hx hb dX1_quotient_69 (by decide) ?_
              refine lv_icmp_eq (tgt := 80) hx hb dX1_quotient_73 (by decide) (fun c_33 => ?_) (fun c_33 => ?_)
              · refine lv_iconst (v := 0) hx hb dX1_quotient_80 (by decide) ?_
                refine lv_istore (lv' := [(4, .int 0), (3, .int (F_m_divided (-a1) (-a2) a3)), (0, .int a1), (1, .int a2), (2, .int a3)]) hx hb dX1_quotient_81 hl (by decide) rfl (fun ls hl => ?_)
                refine lv_iload hx hb dX1_quotient_83 (lv_at hl 0 rfl) ?_
                refine lv_if_eq (tgt := 93) hx hb dX1_quotient_85 (by decide) (fun c_34 => ?_) (fun c_34 => ?_)
                · refine lv_iload_n hx hb dX1_quotient_93 rfl (lv_at hl 1 rfl) ?_
                  exact W.iret (v := F_m_divided (-a1) (-a2) a3) hx hb hr (fun t ht hW => ⟨_, rfl, (by unfold F_m_quotient; first | (rw [if_neg c_1, if_neg c_2, if_neg c_20, if_pos c_30]; done) | (rw [if_neg c_1, if_neg c_2, if_neg c_20, if_pos c_30]; rfl)), ht⟩) (fun _ h => by cases h) dX1_quotient_94
                · exact absurd (by decide) c_34
              · exact absurd (by decide) c_33
        · refine lv_iload_n hx hb dX1_quotient_43 rfl (lv_at hl 1 rfl) ?_
          refine lv_if_ge (tgt := 51) hx hb dX1_quotient_44 (by decide) (fun c_35 => ?_) (fun c_35 => ?_)
          · exact absurd c_35 c_2
          · refine lv_iconst (v := 1) hx hb dX1_quotient_47 (by decide) ?_
            refine lv_goto (tgt := 81) hx hb dX1_quotient_48 (by decide) ?_
            refine lv_istore (lv' := [(4, .int 1), (3, .int (F_m_divided (-a1) (-a2) a3)), (0, .int a1), (1, .int a2), (2, .int a3)]) hx hb dX1_quotient_81 hl (by decide) rfl (fun ls hl => ?_)
            refine lv_iload hx hb dX1_quotient_83 (lv_at hl 0 rfl) ?_
            refine lv_if_eq (tgt := 93) hx hb dX1_quotient_85 (by decide) (fun c_36 => ?_) (fun c_36 => ?_)
            · exact absurd c_36 (by decide)
            · refine lv_iload_n hx hb dX1_quotient_88 rfl (lv_at hl 1 rfl) ?_
              refine lv_ineg hx hb dX1_quotient_89 ?_
              refine lv_goto (tgt := 94) hx hb dX1_quotient_90 (by decide) ?_
              exact W.iret (v := -(F_m_divided (-a1) (-a2) a3)) hx hb hr (fun t ht hW => ⟨_, rfl, (by unfold F_m_quotient; first | (rw [if_neg c_1, if_neg c_2, if_neg c_20, if_neg c_30]; done) | (rw [if_neg c_1, if_neg c_2, if_neg c_20, if_neg c_30]; rfl)), ht⟩) (fun _ h => by cases h) dX1_quotient_94
  · refine lv_iload_n hx hb dX1_quotient_4 rfl (lv_at hl 2 rfl) ?_
    refine lv_if_eq (tgt := 12) hx hb dX1_quotient_5 (by decide) (fun c_37 => ?_) (fun c_37 => ?_)
    · refine lv_iconst (v := (-1)) hx hb dX1_quotient_12 (by decide) ?_
      exact W.iret (v := (-1)) hx hb hr (fun t ht hW => ⟨_, rfl, (by unfold F_m_quotient; first | (rw [if_pos c_1, if_pos c_37]; done) | (rw [if_pos c_1, if_pos c_37]; rfl)), ht⟩) (fun _ h => by cases h) dX1_quotient_13
    · refine lv_iload_n hx hb dX1_quotient_8 rfl (lv_at hl 0 rfl) ?_
      refine lv_goto (tgt := 13) hx hb dX1_quotient_9 (by decide) ?_
      exact W.iret (v := a1) hx hb hr (fun t ht hW => ⟨_, rfl, (by unfold F_m_quotient; first | (rw [if_pos c_1, if_neg c_37]; done) | (rw [if_pos c_1, if_neg c_37]; rfl)), ht⟩) (fun _ h => by cases h) dX1_quotient_13
def B_moved (a1 a3 a4 : Int32) (j : Nat) (acc : Int32) : Int32 :=
  if a3 = 0 then
    if a4 = 0 then
      ((acc).toUInt32 >>> ((1 : Int32).toUInt32 &&& Int32.toUInt32 31)).toInt32
    else
      (acc) >>> ((1 : Int32) &&& 31)
  else
    (acc) + (acc)
def L_moved (a1 a3 a4 : Int32) : Nat → Int32
  | 0 => a1
  | j + 1 => B_moved a1 a3 a4 j (L_moved a1 a3 a4 j)
def F_m_moved  (a1 : Int32) (a2 : Int32) (a3 : Int32) (a4 : Int32) : Int32 :=
  (L_moved a1 a3 a4 (a2.toNatClampNeg))
set_option maxHeartbeats 4000000 in
set_option maxRecDepth 100000 in
theorem c_m_moved (l : Launch) (a1 : Int32) (a2 : Int32) (a3 : Int32) (a4 : Int32) : Met l yX1_moved wsX1_moved ({ frames := 0, cells := 0, slots := 0, locals := 0 }) (fun v _ => v = ([.int a1, .int a2, .int a3, .int a4] : List Value).toArray) (vp_Si (fun r : Int32 => r = F_m_moved a1 a2 a3 a4)) 0 0 (fun _ => False) := by
  refine Met.ofW (cc := cX1_moved) (maxL := 6) (ret := (some .int)) (by decide) rfl ?_
  intro p e s m args below meth c s₁ B hml hv
  obtain rfl := hv
  have hx := B.exec
  have hb := B.bytes
  have hr := B.returns
  have hts := atoms_spec (ws := wsX1_moved) B.pre
  have hown : s.vm.findClass RX1 = some m.cls := findClass_of_methodNamed B.named
  have hlocks := B.notSynchronized
  have hl := lv_entry ([.int a1, .int a2, .int a3, .int a4]) (n := 6) (Nat.le_of_ble_eq_true rfl)
  rw [lg_entry_eq]
  generalize (lg_sl ([.int a1, .int a2, .int a3, .int a4]) ++ List.replicate (6 - (lg_sl ([.int a1, .int a2, .int a3, .int a4])).length) Slot.unset).toArray = ls at hl ⊢
  have hl : lv_has ls 6 [(0, .int a1), (1, .int a2), (2, .int a3), (3, .int a4)] := hl
  refine lv_iload_n hx hb dX1_moved_0 rfl (lv_at hl 0 rfl) ?_
  refine lv_istore (lv' := [(4, .int a1), (0, .int a1), (1, .int a2), (2, .int a3), (3, .int a4)]) hx hb dX1_moved_1 hl (by decide) rfl (fun ls hl => ?_)
  refine lv_iconst (v := 0) hx hb dX1_moved_3 (by decide) ?_
  refine lv_istore (lv' := [(5, .int 0), (4, .int a1), (0, .int a1), (1, .int a2), (2, .int a3), (3, .int a4)]) hx hb dX1_moved_4 hl (by decide) rfl (fun ls hl => ?_)
  have hl := lv_sub hl [0, 1, 2, 3, 4, 5] rfl
  refine lv_loop (n := a2.toNatClampNeg) (P := fun j H locs ls => (H = s.heap ∧ locs = []) ∧ lv_has ls 6 [(5, .int (nI j)), (4, .int ((L_moved a1 a3 a4 j))), (0, .int a1), (1, .int a2), (2, .int a3), (3, .int a4)]) (Wg := fun H locs ls => W p l e _ s m _ below meth c H locs 0 0 _ (F0 m 6 ls [])) ?_ (a2.toNatClampNeg) 0 _ _ ls (by omega) (Nat.zero_le _) ⟨⟨rfl, rfl⟩, hl⟩
  rintro j H locs ls hj ⟨⟨rfl, rfl⟩, hl⟩ ih
  refine lv_iload hx hb dX1_moved_6 (lv_at hl 0 rfl) ?_
  refine lv_iload_n hx hb dX1_moved_8 rfl (lv_at hl 3 rfl) ?_
  refine lv_icmp_ge (tgt := 47) hx hb dX1_moved_9 (by decide) (fun c_1 => ?_) (fun c_1 => ?_)
  · have hjn : j = a2.toNatClampNeg := lp_end hj c_1
    subst hjn
    refine lv_iload hx hb dX1_moved_47 (lv_at hl 1 rfl) ?_
    exact W.iret (v := (L_moved a1 a3 a4 (a2.toNatClampNeg))) hx hb hr (fun t ht hW => ⟨_, rfl, (by unfold F_m_moved; rfl), ht⟩) (fun _ h => by cases h) dX1_moved_49
  · have hlt : j < a2.toNatClampNeg := lp_lt hj c_1
    refine lv_iload_n hx hb dX1_moved_12 rfl (lv_at hl 4 rfl) ?_
    refine lv_if_eq (tgt := 24) hx hb dX1_moved_13 (by decide) (fun c_2 => ?_) (fun c_2 => ?_)
    · refine lv_iload_n hx hb dX1_moved_24 rfl (lv_at hl 5 rfl) ?_
      refine lv_if_eq (tgt := 35) hx hb dX1_moved_25 (by decide) (fun c_3 => ?_) (fun c_3 => ?_)
      · refine lv_iload hx hb dX1_moved_35 (lv_at hl 1 rfl) ?_
        refine lv_iconst (v := 1) hx hb dX1_moved_37 (by decide) ?_
        refine lv_iushr (v := (((L_moved a1 a3 a4 j)).toUInt32 >>> ((1 : Int32).toUInt32 &&& Int32.toUInt32 31)).toInt32) hx hb dX1_moved_38 rfl ?_
        refine lv_istore (lv' := [(4, .int ((((L_moved a1 a3 a4 j)).toUInt32 >>> ((1 : Int32).toUInt32 &&& Int32.toUInt32 31)).toInt32)), (5, .int (nI j)), (0, .int a1), (1, .int a2), (2, .int a3), (3, .int a4)]) hx hb dX1_moved_39 hl (by decide) rfl (fun ls hl => ?_)
        refine lv_iinc (v := (nI j) + 1) (lv' := [(5, .int ((nI j) + 1)), (4, .int ((((L_moved a1 a3 a4 j)).toUInt32 >>> ((1 : Int32).toUInt32 &&& Int32.toUInt32 31)).toInt32)), (0, .int a1), (1, .int a2), (2, .int a3), (3, .int a4)]) hx hb dX1_moved_41 hl (k := 1) rfl rfl (by decide) rfl (fun ls hl => ?_)
        refine lv_goto (tgt := 6) hx hb dX1_moved_44 (by decide) ?_
        have hl := lv_sub hl [0, 1, 2, 3, 4, 5] rfl
        have hacc : (L_moved a1 a3 a4 (j + 1)) = (((L_moved a1 a3 a4 j)).toUInt32 >>> ((1 : Int32).toUInt32 &&& Int32.toUInt32 31)).toInt32 := by show B_moved a1 a3 a4 j (L_moved a1 a3 a4 j) = _; unfold B_moved; first | rfl | (rw [if_pos c_2, if_pos c_3]; done) | (rw [if_pos c_2, if_pos c_3]; rfl)
        rw [nI_1] at hl
        exact ih _ _ ls hlt ⟨⟨rfl, rfl⟩, by rw [hacc]; exact hl⟩
      · refine lv_iload hx hb dX1_moved_28 (lv_at hl 1 rfl) ?_
        refine lv_iconst (v := 1) hx hb dX1_moved_30 (by decide) ?_
        refine lv_ishr hx hb dX1_moved_31 ?_
        refine lv_goto (tgt := 39) hx hb dX1_moved_32 (by decide) ?_
        refine lv_istore (lv' := [(4, .int (((L_moved a1 a3 a4 j)) >>> ((1 : Int32) &&& 31))), (5, .int (nI j)), (0, .int a1), (1, .int a2), (2, .int a3), (3, .int a4)]) hx hb dX1_moved_39 hl (by decide) rfl (fun ls hl => ?_)
        refine lv_iinc (v := (nI j) + 1) (lv' := [(5, .int ((nI j) + 1)), (4, .int (((L_moved a1 a3 a4 j)) >>> ((1 : Int32) &&& 31))), (0, .int a1), (1, .int a2), (2, .int a3), (3, .int a4)]) hx hb dX1_moved_41 hl (k := 1) rfl rfl (by decide) rfl (fun ls hl => ?_)
        refine lv_goto (tgt := 6) hx hb dX1_moved_44 (by decide) ?_
        have hl := lv_sub hl [0, 1, 2, 3, 4, 5] rfl
        have hacc : (L_moved a1 a3 a4 (j + 1)) = ((L_moved a1 a3 a4 j)) >>> ((1 : Int32) &&& 31) := by show B_moved a1 a3 a4 j (L_moved a1 a3 a4 j) = _; unfold B_moved; first | rfl | (rw [if_pos c_2, if_neg c_3]; done) | (rw [if_pos c_2, if_neg c_3]; rfl)
        rw [nI_1] at hl
        exact ih _ _ ls hlt ⟨⟨rfl, rfl⟩, by rw [hacc]; exact hl⟩
    · refine lv_iload hx hb dX1_moved_16 (lv_at hl 1 rfl) ?_
      refine lv_iload hx hb dX1_moved_18 (lv_at hl 1 rfl) ?_
      refine lv_iadd hx hb dX1_moved_20 ?_
      refine lv_goto (tgt := 39) hx hb dX1_moved_21 (by decide) ?_
      refine lv_istore (lv' := [(4, .int (((L_moved a1 a3 a4 j)) + ((L_moved a1 a3 a4 j)))), (5, .int (nI j)), (0, .int a1), (1, .int a2), (2, .int a3), (3, .int a4)]) hx hb dX1_moved_39 hl (by decide) rfl (fun ls hl => ?_)
      refine lv_iinc (v := (nI j) + 1) (lv' := [(5, .int ((nI j) + 1)), (4, .int (((L_moved a1 a3 a4 j)) + ((L_moved a1 a3 a4 j)))), (0, .int a1), (1, .int a2), (2, .int a3), (3, .int a4)]) hx hb dX1_moved_41 hl (k := 1) rfl rfl (by decide) rfl (fun ls hl => ?_)
      refine lv_goto (tgt := 6) hx hb dX1_moved_44 (by decide) ?_
      have hl := lv_sub hl [0, 1, 2, 3, 4, 5] rfl
      have hacc : (L_moved a1 a3 a4 (j + 1)) = ((L_moved a1 a3 a4 j)) + ((L_moved a1 a3 a4 j)) := by show B_moved a1 a3 a4 j (L_moved a1 a3 a4 j) = _; unfold B_moved; first | rfl | (rw [if_neg c_2]; done) | (rw [if_neg c_2]; rfl)
      rw [nI_1] at hl
      exact ih _ _ ls hlt ⟨⟨rfl, rfl⟩, by rw [hacc]; exact hl⟩
def F_m_multiplied  (a1 : Int32) (a2 : Int32) (a3 : Int32) : Int32 :=
  if a1 = 0 then
    a2 * a3
  else
    if a1 = 1 then
      if 0 ≤ a2 then
        if 0 ≤ a3 then
          ((F_m_upper a2 a3) - 0) - 0
        else
          ((F_m_upper a2 a3) - 0) - a2
      else
        if 0 ≤ a3 then
          ((F_m_upper a2 a3) - a3) - 0
        else
          ((F_m_upper a2 a3) - a3) - a2
    else
      if a1 = 2 then
        if 0 ≤ a2 then
          (F_m_upper a2 a3) - 0
        else
          (F_m_upper a2 a3) - a3
      else
        if a1 = 3 then
          F_m_upper a2 a3
        else
          if a1 = 4 then
            F_m_quotient a2 a3 0
          else
            if a1 = 5 then
              if a3 = 0 then
                (-1)
              else
                F_m_divided a2 a3 0
            else
              if a1 = 6 then
                F_m_quotient a2 a3 1
              else
                if a3 = 0 then
                  a2
                else
                  F_m_divided a2 a3 1
set_option maxHeartbeats 4000000 in
set_option maxRecDepth 100000 in
theorem c_m_multiplied (l : Launch) (a1 : Int32) (a2 : Int32) (a3 : Int32) : Met l yX1_multiplied wsX1_multiplied ({ frames := 3, cells := 0, slots := 0, locals := 76 }) (fun v _ => v = ([.int a1, .int a2, .int a3] : List Value).toArray) (vp_Si (fun r : Int32 => r = F_m_multiplied a1 a2 a3)) 0 0 (fun _ => False) := by
  refine Met.ofW (cc := cX1_multiplied) (maxL := 4) (ret := (some .int)) (by decide) rfl ?_
  intro p e s m args below meth c s₁ B hml hv
  obtain rfl := hv
  have hx := B.exec
  have hb := B.bytes
  have hr := B.returns
  have hts := atoms_spec (ws := wsX1_multiplied) B.pre
  have hown : s.vm.findClass RX1 = some m.cls := findClass_of_methodNamed B.named
  have hlocks := B.notSynchronized
  have hl := lv_entry ([.int a1, .int a2, .int a3]) (n := 4) (Nat.le_of_ble_eq_true rfl)
  rw [lg_entry_eq]
  generalize (lg_sl ([.int a1, .int a2, .int a3]) ++ List.replicate (4 - (lg_sl ([.int a1, .int a2, .int a3])).length) Slot.unset).toArray = ls at hl ⊢
  have hl : lv_has ls 4 [(0, .int a1), (1, .int a2), (2, .int a3)] := hl
  refine lv_iload_n hx hb dX1_multiplied_0 rfl (lv_at hl 1 rfl) ?_
  refine lv_iload_n hx hb dX1_multiplied_1 rfl (lv_at hl 2 rfl) ?_
  refine vp_callSi (W.runS (As := [.int a2, .int a3]) (rest := []) ⟨hx, hb, hml, hown, hts⟩ (c_m_upper l a2 a3) (cwS 2 hts (gS mL_X1_48 mS_X1_upper mN_X1 mC_X1_upper) rfl rfl rfl (by decide +kernel) ⟨Nat.le_of_ble_eq_true rfl, Nat.le_of_ble_eq_true rfl⟩) preEq rfl rfl hl.1 rfl (lv_room (Nat.le_of_ble_eq_true rfl)) dX1_multiplied_2 ⟨Nat.zero_le _, Nat.zero_le _⟩) (fun r_1 hw => ?_)
  rw [hw]
  clear hw r_1
  refine lv_istore_n (lv' := [(3, .int (F_m_upper a2 a3)), (0, .int a1), (1, .int a2), (2, .int a3)]) hx hb dX1_multiplied_5 rfl hl (by decide) rfl (fun ls hl => ?_)
  refine lv_iload_n hx hb dX1_multiplied_6 rfl (lv_at hl 1 rfl) ?_
  by_cases c_2 : a1 = 0
  · refine lv_tableIn (tgt := 48) (off := 41) hx hb dX1_multiplied_7 (by rw [c_2]; decide) (by rw [c_2]; decide) (by rw [c_2] <;> rfl) (by decide) ?_
    refine lv_iload_n hx hb dX1_multiplied_48 rfl (lv_at hl 2 rfl) ?_
    refine lv_iload_n hx hb dX1_multiplied_49 rfl (lv_at hl 3 rfl) ?_
    refine lv_imul hx hb dX1_multiplied_50 ?_
    exact W.iret (v := a2 * a3) hx hb hr (fun t ht hW => ⟨_, rfl, (by unfold F_m_multiplied; first | (rw [if_pos c_2]; done) | (rw [if_pos c_2]; rfl)), ht⟩) (fun _ h => by cases h) dX1_multiplied_51
  · by_cases c_3 : a1 = 1
    · refine lv_tableIn (tgt := 52) (off := 45) hx hb dX1_multiplied_7 (by rw [c_3]; decide) (by rw [c_3]; decide) (by rw [c_3] <;> rfl) (by decide) ?_
      refine lv_iload_n hx hb dX1_multiplied_52 rfl (lv_at hl 0 rfl) ?_
      refine lv_iload_n hx hb dX1_multiplied_53 rfl (lv_at hl 2 rfl) ?_
      refine lv_if_ge (tgt := 61) hx hb dX1_multiplied_54 (by decide) (fun c_4 => ?_) (fun c_4 => ?_)
      · refine lv_iconst (v := 0) hx hb dX1_multiplied_61 (by decide) ?_
        refine lv_isub hx hb dX1_multiplied_62 ?_
        refine lv_iload_n hx hb dX1_multiplied_63 rfl (lv_at hl 3 rfl) ?_
        refine lv_if_ge (tgt := 71) hx hb dX1_multiplied_64 (by decide) (fun c_5 => ?_) (fun c_5 => ?_)
        · refine lv_iconst (v := 0) hx hb dX1_multiplied_71 (by decide) ?_
          refine lv_isub hx hb dX1_multiplied_72 ?_
          exact W.iret (v := ((F_m_upper a2 a3) - 0) - 0) hx hb hr (fun t ht hW => ⟨_, rfl, (by unfold F_m_multiplied; first | (rw [if_neg c_2, if_pos c_3, if_pos c_4, if_pos c_5]; done) | (rw [if_neg c_2, if_pos c_3, if_pos c_4, if_pos c_5]; rfl)), ht⟩) (fun _ h => by cases h) dX1_multiplied_73
        · refine lv_iload_n hx hb dX1_multiplied_67 rfl (lv_at hl 2 rfl) ?_
          refine lv_goto (tgt := 72) hx hb dX1_multiplied_68 (by decide) ?_
          refine lv_isub hx hb dX1_multiplied_72 ?_
          exact W.iret (v := ((F_m_upper a2 a3) - 0) - a2) hx hb hr (fun t ht hW => ⟨_, rfl, (by unfold F_m_multiplied; first | (rw [if_neg c_2, if_pos c_3, if_pos c_4, if_neg c_5]; done) | (rw [if_neg c_2, if_pos c_3, if_pos c_4, if_neg c_5]; rfl)), ht⟩) (fun _ h => by cases h) dX1_multiplied_73
      · refine lv_iload_n hx hb dX1_multiplied_57 rfl (lv_at hl 3 rfl) ?_
        refine lv_goto (tgt := 62) hx hb dX1_multiplied_58 (by decide) ?_
        refine lv_isub hx hb dX1_multiplied_62 ?_
        refine lv_iload_n hx hb dX1_multiplied_63 rfl (lv_at hl 3 rfl) ?_
        refine lv_if_ge (tgt := 71) hx hb dX1_multiplied_64 (by decide) (fun c_6 => ?_) (fun c_6 => ?_)
        · refine lv_iconst (v := 0) hx hb dX1_multiplied_71 (by decide) ?_
          refine lv_isub hx hb dX1_multiplied_72 ?_
          exact W.iret (v := ((F_m_upper a2 a3) - a3) - 0) hx hb hr (fun t ht hW => ⟨_, rfl, (by unfold F_m_multiplied; first | (rw [if_neg c_2, if_pos c_3, if_neg c_4, if_pos c_6]; done) | (rw [if_neg c_2, if_pos c_3, if_neg c_4, if_pos c_6]; rfl)), ht⟩) (fun _ h => by cases h) dX1_multiplied_73
        · refine lv_iload_n hx hb dX1_multiplied_67 rfl (lv_at hl 2 rfl) ?_
          refine lv_goto (tgt := 72) hx hb dX1_multiplied_68 (by decide) ?_
          refine lv_isub hx hb dX1_multiplied_72 ?_
          exact W.iret (v := ((F_m_upper a2 a3) - a3) - a2) hx hb hr (fun t ht hW => ⟨_, rfl, (by unfold F_m_multiplied; first | (rw [if_neg c_2, if_pos c_3, if_neg c_4, if_neg c_6]; done) | (rw [if_neg c_2, if_pos c_3, if_neg c_4, if_neg c_6]; rfl)), ht⟩) (fun _ h => by cases h) dX1_multiplied_73
    · by_cases c_7 : a1 = 2
      · refine lv_tableIn (tgt := 74) (off := 67) hx hb dX1_multiplied_7 (by rw [c_7]; decide) (by rw [c_7]; decide) (by rw [c_7] <;> rfl) (by decide) ?_
        refine lv_iload_n hx hb dX1_multiplied_74 rfl (lv_at hl 0 rfl) ?_
        refine lv_iload_n hx hb dX1_multiplied_75 rfl (lv_at hl 2 rfl) ?_
        refine lv_if_ge (tgt := 83) hx hb dX1_multiplied_76 (by decide) (fun c_8 => ?_) (fun c_8 => ?_)
        · refine lv_iconst (v := 0) hx hb dX1_multiplied_83 (by decide) ?_
          refine lv_isub hx hb dX1_multiplied_84 ?_
          exact W.iret (v := (F_m_upper a2 a3) - 0) hx hb hr (fun t ht hW => ⟨_, rfl, (by unfold F_m_multiplied; first | (rw [if_neg c_2, if_neg c_3, if_pos c_7, if_pos c_8]; done) | (rw [if_neg c_2, if_neg c_3, if_pos c_7, if_pos c_8]; rfl)), ht⟩) (fun _ h => by cases h) dX1_multiplied_85
        · refine lv_iload_n hx hb dX1_multiplied_79 rfl (lv_at hl 3 rfl) ?_
          refine lv_goto (tgt := 84) hx hb dX1_multiplied_80 (by decide) ?_
          refine lv_isub hx hb dX1_multiplied_84 ?_
          exact W.iret (v := (F_m_upper a2 a3) - a3) hx hb hr (fun t ht hW => ⟨_, rfl, (by unfold F_m_multiplied; first | (rw [if_neg c_2, if_neg c_3, if_pos c_7, if_neg c_8]; done) | (rw [if_neg c_2, if_neg c_3, if_pos c_7, if_neg c_8]; rfl)), ht⟩) (fun _ h => by cases h) dX1_multiplied_85
      · by_cases c_9 : a1 = 3
        · refine lv_tableIn (tgt := 86) (off := 79) hx hb dX1_multiplied_7 (by rw [c_9]; decide) (by rw [c_9]; decide) (by rw [c_9] <;> rfl) (by decide) ?_
          refine lv_iload_n hx hb dX1_multiplied_86 rfl (lv_at hl 0 rfl) ?_
          exact W.iret (v := F_m_upper a2 a3) hx hb hr (fun t ht hW => ⟨_, rfl, (by unfold F_m_multiplied; first | (rw [if_neg c_2, if_neg c_3, if_neg c_7, if_pos c_9]; done) | (rw [if_neg c_2, if_neg c_3, if_neg c_7, if_pos c_9]; rfl)), ht⟩) (fun _ h => by cases h) dX1_multiplied_87
        · by_cases c_10 : a1 = 4
          · refine lv_tableIn (tgt := 88) (off := 81) hx hb dX1_multiplied_7 (by rw [c_10]; decide) (by rw [c_10]; decide) (by rw [c_10] <;> rfl) (by decide) ?_
            refine lv_iload_n hx hb dX1_multiplied_88 rfl (lv_at hl 2 rfl) ?_
            refine lv_iload_n hx hb dX1_multiplied_89 rfl (lv_at hl 3 rfl) ?_
            refine lv_iconst (v := 0) hx hb dX1_multiplied_90 (by decide) ?_
            refine vp_callSi (W.runS (As := [.int a2, .int a3, .int 0]) (rest := []) ⟨hx, hb, hml, hown, hts⟩ (c_m_quotient l a2 a3 0) (cwS 3 hts (gS mL_X1_51 mS_X1_quotient mN_X1 mC_X1_quotient) rfl rfl rfl (by decide +kernel) ⟨Nat.le_of_ble_eq_true rfl, Nat.le_of_ble_eq_true rfl⟩) preEq rfl rfl hl.1 rfl (lv_room (Nat.le_of_ble_eq_true rfl)) dX1_multiplied_91 ⟨Nat.zero_le _, Nat.zero_le _⟩) (fun r_11 hw => ?_)
            rw [hw]
            clear hw r_11
            exact W.iret (v := F_m_quotient a2 a3 0) hx hb hr (fun t ht hW => ⟨_, rfl, (by unfold F_m_multiplied; first | (rw [if_neg c_2, if_neg c_3, if_neg c_7, if_neg c_9, if_pos c_10]; done) | (rw [if_neg c_2, if_neg c_3, if_neg c_7, if_neg c_9, if_pos c_10]; rfl)), ht⟩) (fun _ h => by cases h) dX1_multiplied_94
          · by_cases c_12 : a1 = 5
            · refine lv_tableIn (tgt := 95) (off := 88) hx hb dX1_multiplied_7 (by rw [c_12]; decide) (by rw [c_12]; decide) (by rw [c_12] <;> rfl) (by decide) ?_
              refine lv_iload_n hx hb dX1_multiplied_95 rfl (lv_at hl 3 rfl) ?_
              refine lv_if_ne (tgt := 103) hx hb dX1_multiplied_96 (by decide) (fun c_13 => ?_) (fun c_13 => ?_)
              · refine lv_iload_n hx hb dX1_multiplied_103 rfl (lv_at hl 2 rfl) ?_
                refine lv_iload_n hx hb dX1_multiplied_104 rfl (lv_at hl 3 rfl) ?_
                refine lv_iconst (v := 0) hx hb dX1_multiplied_105 (by decide) ?_
                refine vp_callSi (W.runS (As := [.int a2, .int a3, .int 0]) (rest := []) ⟨hx, hb, hml, hown, hts⟩ (c_m_divided l a2 a3 0) (cwS 3 hts (gS mL_X1_44 mS_X1_divided mN_X1 mC_X1_divided) rfl rfl rfl (by decide +kernel) ⟨Nat.le_of_ble_eq_true rfl, Nat.le_of_ble_eq_true rfl⟩) preEq rfl rfl hl.1 rfl (lv_room (Nat.le_of_ble_eq_true rfl)) dX1_multiplied_106 ⟨Nat.zero_le _, Nat.zero_le _⟩) (fun r_14 hw => ?_)
                rw [hw]
                clear hw r_14
                exact W.iret (v := F_m_divided a2 a3 0) hx hb hr (fun t ht hW => ⟨_, rfl, (by unfold F_m_multiplied; first | (rw [if_neg c_2, if_neg c_3, if_neg c_7, if_neg c_9, if_neg c_10, if_pos c_12, if_neg c_13]; done) | (rw [if_neg c_2, if_neg c_3, if_neg c_7, if_neg c_9, if_neg c_10, if_pos c_12, if_neg c_13]; rfl)), ht⟩) (fun _ h => by cases h) dX1_multiplied_109
              · refine lv_iconst (v := (-1)) hx hb dX1_multiplied_99 (by decide) ?_
                refine lv_goto (tgt := 109) hx hb dX1_multiplied_100 (by decide) ?_
                exact W.iret (v := (-1)) hx hb hr (fun t ht hW => ⟨_, rfl, (by unfold F_m_multiplied; first | (rw [if_neg c_2, if_neg c_3, if_neg c_7, if_neg c_9, if_neg c_10, if_pos c_12, if_pos c_13]; done) | (rw [if_neg c_2, if_neg c_3, if_neg c_7, if_neg c_9, if_neg c_10, if_pos c_12, if_pos c_13]; rfl)), ht⟩) (fun _ h => by cases h) dX1_multiplied_109
            · by_cases c_15 : a1 = 6
              · refine lv_tableIn (tgt := 110) (off := 103) hx hb dX1_multiplied_7 (by rw [c_15]; decide) (by rw [c_15]; decide) (by rw [c_15] <;> rfl) (by decide) ?_
                refine lv_iload_n hx hb dX1_multiplied_110 rfl (lv_at hl 2 rfl) ?_
                refine lv_iload_n hx hb dX1_multiplied_111 rfl (lv_at hl 3 rfl) ?_
                refine lv_iconst (v := 1) hx hb dX1_multiplied_112 (by decide) ?_
                refine vp_callSi (W.runS (As := [.int a2, .int a3, .int 1]) (rest := []) ⟨hx, hb, hml, hown, hts⟩ (c_m_quotient l a2 a3 1) (cwS 3 hts (gS mL_X1_51 mS_X1_quotient mN_X1 mC_X1_quotient) rfl rfl rfl (by decide +kernel) ⟨Nat.le_of_ble_eq_true rfl, Nat.le_of_ble_eq_true rfl⟩) preEq rfl rfl hl.1 rfl (lv_room (Nat.le_of_ble_eq_true rfl)) dX1_multiplied_113 ⟨Nat.zero_le _, Nat.zero_le _⟩) (fun r_16 hw => ?_)
                rw [hw]
                clear hw r_16
                exact W.iret (v := F_m_quotient a2 a3 1) hx hb hr (fun t ht hW => ⟨_, rfl, (by unfold F_m_multiplied; first | (rw [if_neg c_2, if_neg c_3, if_neg c_7, if_neg c_9, if_neg c_10, if_neg c_12, if_pos c_15]; done) | (rw [if_neg c_2, if_neg c_3, if_neg c_7, if_neg c_9, if_neg c_10, if_neg c_12, if_pos c_15]; rfl)), ht⟩) (fun _ h => by cases h) dX1_multiplied_116
              · have tc_2 := lv_neT (a := 0) c_2 (by decide)
                have tc_3 := lv_neT (a := 1) c_3 (by decide)
                have tc_7 := lv_neT (a := 2) c_7 (by decide)
                have tc_9 := lv_neT (a := 3) c_9 (by decide)
                have tc_10 := lv_neT (a := 4) c_10 (by decide)
                have tc_12 := lv_neT (a := 5) c_12 (by decide)
                have tc_15 := lv_neT (a := 6) c_15 (by decide)
                refine lv_tableOut (tgt := 117) hx hb dX1_multiplied_7 (by omega) (by decide) ?_
                refine lv_iload_n hx hb dX1_multiplied_117 rfl (lv_at hl 3 rfl) ?_
                refine lv_if_ne (tgt := 125) hx hb dX1_multiplied_118 (by decide) (fun c_17 => ?_) (fun c_17 => ?_)
                · refine lv_iload_n hx hb dX1_multiplied_125 rfl (lv_at hl 2 rfl) ?_
                  refine lv_iload_n hx hb dX1_multiplied_126 rfl (lv_at hl 3 rfl) ?_
                  refine lv_iconst (v := 1) hx hb dX1_multiplied_127 (by decide) ?_
                  refine vp_callSi (W.runS (As := [.int a2, .int a3, .int 1]) (rest := []) ⟨hx, hb, hml, hown, hts⟩ (c_m_divided l a2 a3 1) (cwS 3 hts (gS mL_X1_44 mS_X1_divided mN_X1 mC_X1_divided) rfl rfl rfl (by decide +kernel) ⟨Nat.le_of_ble_eq_true rfl, Nat.le_of_ble_eq_true rfl⟩) preEq rfl rfl hl.1 rfl (lv_room (Nat.le_of_ble_eq_true rfl)) dX1_multiplied_128 ⟨Nat.zero_le _, Nat.zero_le _⟩) (fun r_18 hw => ?_)
                  rw [hw]
                  clear hw r_18
                  exact W.iret (v := F_m_divided a2 a3 1) hx hb hr (fun t ht hW => ⟨_, rfl, (by unfold F_m_multiplied; first | (rw [if_neg c_2, if_neg c_3, if_neg c_7, if_neg c_9, if_neg c_10, if_neg c_12, if_neg c_15, if_neg c_17]; done) | (rw [if_neg c_2, if_neg c_3, if_neg c_7, if_neg c_9, if_neg c_10, if_neg c_12, if_neg c_15, if_neg c_17]; rfl)), ht⟩) (fun _ h => by cases h) dX1_multiplied_131
                · refine lv_iload_n hx hb dX1_multiplied_121 rfl (lv_at hl 2 rfl) ?_
                  refine lv_goto (tgt := 131) hx hb dX1_multiplied_122 (by decide) ?_
                  exact W.iret (v := a2) hx hb hr (fun t ht hW => ⟨_, rfl, (by unfold F_m_multiplied; first | (rw [if_neg c_2, if_neg c_3, if_neg c_7, if_neg c_9, if_neg c_10, if_neg c_12, if_neg c_15, if_pos c_17]; done) | (rw [if_neg c_2, if_neg c_3, if_neg c_7, if_neg c_9, if_neg c_10, if_neg c_12, if_neg c_15, if_pos c_17]; rfl)), ht⟩) (fun _ h => by cases h) dX1_multiplied_131
def F_m_worked  (a1 : Int32) (a2 : Int32) (a3 : Int32) (a4 : Int32) : Int32 :=
  if a1 = 0 then
    if a4 = 0 then
      a2 + a3
    else
      a2 - a3
  else
    if a1 = 1 then
      F_m_moved a2 (a3 &&& 31) 1 0
    else
      if a1 = 2 then
        if a3 ≤ a2 then
          0
        else
          1
      else
        if a1 = 3 then
          if (F_m_under a2 a3) = 0 then
            0
          else
            1
        else
          if a1 = 4 then
            (a2 ||| a3) &&& ((a2 &&& a3) ^^^ ((-1)))
          else
            if a1 = 5 then
              F_m_moved a2 (a3 &&& 31) 0 a4
            else
              if a1 = 6 then
                ((a2 ^^^ ((-1))) &&& (a3 ^^^ ((-1)))) ^^^ ((-1))
              else
                a2 &&& a3
set_option maxHeartbeats 4000000 in
set_option maxRecDepth 100000 in
theorem c_m_worked (l : Launch) (a1 : Int32) (a2 : Int32) (a3 : Int32) (a4 : Int32) : Met l yX1_worked wsX1_worked ({ frames := 1, cells := 0, slots := 0, locals := 25 }) (fun v _ => v = ([.int a1, .int a2, .int a3, .int a4] : List Value).toArray) (vp_Si (fun r : Int32 => r = F_m_worked a1 a2 a3 a4)) 0 0 (fun _ => False) := by
  refine Met.ofW (cc := cX1_worked) (maxL := 4) (ret := (some .int)) (by decide) rfl ?_
  intro p e s m args below meth c s₁ B hml hv
  obtain rfl := hv
  have hx := B.exec
  have hb := B.bytes
  have hr := B.returns
  have hts := atoms_spec (ws := wsX1_worked) B.pre
  have hown : s.vm.findClass RX1 = some m.cls := findClass_of_methodNamed B.named
  have hlocks := B.notSynchronized
  have hl := lv_entry ([.int a1, .int a2, .int a3, .int a4]) (n := 4) (Nat.le_of_ble_eq_true rfl)
  rw [lg_entry_eq]
  generalize (lg_sl ([.int a1, .int a2, .int a3, .int a4]) ++ List.replicate (4 - (lg_sl ([.int a1, .int a2, .int a3, .int a4])).length) Slot.unset).toArray = ls at hl ⊢
  have hl : lv_has ls 4 [(0, .int a1), (1, .int a2), (2, .int a3), (3, .int a4)] := hl
  refine lv_iload_n hx hb dX1_worked_0 rfl (lv_at hl 0 rfl) ?_
  by_cases c_1 : a1 = 0
  · refine lv_tableIn (tgt := 44) (off := 43) hx hb dX1_worked_1 (by rw [c_1]; decide) (by rw [c_1]; decide) (by rw [c_1] <;> rfl) (by decide) ?_
    refine lv_iload_n hx hb dX1_worked_44 rfl (lv_at hl 3 rfl) ?_
    refine lv_if_eq (tgt := 54) hx hb dX1_worked_45 (by decide) (fun c_2 => ?_) (fun c_2 => ?_)
    · refine lv_iload_n hx hb dX1_worked_54 rfl (lv_at hl 1 rfl) ?_
      refine lv_iload_n hx hb dX1_worked_55 rfl (lv_at hl 2 rfl) ?_
      refine lv_iadd hx hb dX1_worked_56 ?_
      exact W.iret (v := a2 + a3) hx hb hr (fun t ht hW => ⟨_, rfl, (by unfold F_m_worked; first | (rw [if_pos c_1, if_pos c_2]; done) | (rw [if_pos c_1, if_pos c_2]; rfl)), ht⟩) (fun _ h => by cases h) dX1_worked_57
    · refine lv_iload_n hx hb dX1_worked_48 rfl (lv_at hl 1 rfl) ?_
      refine lv_iload_n hx hb dX1_worked_49 rfl (lv_at hl 2 rfl) ?_
      refine lv_isub hx hb dX1_worked_50 ?_
      refine lv_goto (tgt := 57) hx hb dX1_worked_51 (by decide) ?_
      exact W.iret (v := a2 - a3) hx hb hr (fun t ht hW => ⟨_, rfl, (by unfold F_m_worked; first | (rw [if_pos c_1, if_neg c_2]; done) | (rw [if_pos c_1, if_neg c_2]; rfl)), ht⟩) (fun _ h => by cases h) dX1_worked_57
  · by_cases c_3 : a1 = 1
    · refine lv_tableIn (tgt := 58) (off := 57) hx hb dX1_worked_1 (by rw [c_3]; decide) (by rw [c_3]; decide) (by rw [c_3] <;> rfl) (by decide) ?_
      refine lv_iload_n hx hb dX1_worked_58 rfl (lv_at hl 1 rfl) ?_
      refine lv_iload_n hx hb dX1_worked_59 rfl (lv_at hl 2 rfl) ?_
      refine lv_bipush (v := 31) hx hb dX1_worked_60 (by decide) ?_
      refine lv_iand hx hb dX1_worked_62 ?_
      refine lv_iconst (v := 1) hx hb dX1_worked_63 (by decide) ?_
      refine lv_iconst (v := 0) hx hb dX1_worked_64 (by decide) ?_
      refine vp_callSi (W.runS (As := [.int a2, .int (a3 &&& 31), .int 1, .int 0]) (rest := []) ⟨hx, hb, hml, hown, hts⟩ (c_m_moved l a2 (a3 &&& 31) 1 0) (cwS 4 hts (gS mL_X1_88 mS_X1_moved mN_X1 mC_X1_moved) rfl rfl rfl (by decide +kernel) ⟨Nat.le_of_ble_eq_true rfl, Nat.le_of_ble_eq_true rfl⟩) preEq rfl rfl hl.1 rfl (lv_room (Nat.le_of_ble_eq_true rfl)) dX1_worked_65 ⟨Nat.zero_le _, Nat.zero_le _⟩) (fun r_4 hw => ?_)
      rw [hw]
      clear hw r_4
      exact W.iret (v := F_m_moved a2 (a3 &&& 31) 1 0) hx hb hr (fun t ht hW => ⟨_, rfl, (by unfold F_m_worked; first | (rw [if_neg c_1, if_pos c_3]; done) | (rw [if_neg c_1, if_pos c_3]; rfl)), ht⟩) (fun _ h => by cases h) dX1_worked_68
    · by_cases c_5 : a1 = 2
      · refine lv_tableIn (tgt := 69) (off := 68) hx hb dX1_worked_1 (by rw [c_5]; decide) (by rw [c_5]; decide) (by rw [c_5] <;> rfl) (by decide) ?_
        refine lv_iload_n hx hb dX1_worked_69 rfl (lv_at hl 1 rfl) ?_
        refine lv_iload_n hx hb dX1_worked_70 rfl (lv_at hl 2 rfl) ?_
        refine lv_icmp_ge (tgt := 78) hx hb dX1_worked_71 (by decide) (fun c_6 => ?_) (fun c_6 => ?_)
        · refine lv_iconst (v := 0) hx hb dX1_worked_78 (by decide) ?_
          exact W.iret (v := 0) hx hb hr (fun t ht hW => ⟨_, rfl, (by unfold F_m_worked; first | (rw [if_neg c_1, if_neg c_3, if_pos c_5, if_pos c_6]; done) | (rw [if_neg c_1, if_neg c_3, if_pos c_5, if_pos c_6]; rfl)), ht⟩) (fun _ h => by cases h) dX1_worked_79
        · refine lv_iconst (v := 1) hx hb dX1_worked_74 (by decide) ?_
          refine lv_goto (tgt := 79) hx hb dX1_worked_75 (by decide) ?_
          exact W.iret (v := 1) hx hb hr (fun t ht hW => ⟨_, rfl, (by unfold F_m_worked; first | (rw [if_neg c_1, if_neg c_3, if_pos c_5, if_neg c_6]; done) | (rw [if_neg c_1, if_neg c_3, if_pos c_5, if_neg c_6]; rfl)), ht⟩) (fun _ h => by cases h) dX1_worked_79
      · by_cases c_7 : a1 = 3
        · refine lv_tableIn (tgt := 80) (off := 79) hx hb dX1_worked_1 (by rw [c_7]; decide) (by rw [c_7]; decide) (by rw [c_7] <;> rfl) (by decide) ?_
          refine lv_iload_n hx hb dX1_worked_80 rfl (lv_at hl 1 rfl) ?_
          refine lv_iload_n hx hb dX1_worked_81 rfl (lv_at hl 2 rfl) ?_
          refine vp_callSi (W.runS (As := [.int a2, .int a3]) (rest := []) ⟨hx, hb, hml, hown, hts⟩ (c_m_under l a2 a3) (cwS 2 hts (gS mL_X1_40 mS_X1_under mN_X1 mC_X1_under) rfl rfl rfl (by decide +kernel) ⟨Nat.le_of_ble_eq_true rfl, Nat.le_of_ble_eq_true rfl⟩) preEq rfl rfl hl.1 rfl (lv_room (Nat.le_of_ble_eq_true rfl)) dX1_worked_82 ⟨Nat.zero_le _, Nat.zero_le _⟩) (fun r_8 hw => ?_)
          obtain ⟨b_9, hw⟩ := hw
          rw [hw] at b_9 ⊢
          clear hw
          refine lv_if_eq (tgt := 92) hx hb dX1_worked_85 (by decide) (fun c_10 => ?_) (fun c_10 => ?_)
          · refine lv_iconst (v := 0) hx hb dX1_worked_92 (by decide) ?_
            exact W.iret (v := 0) hx hb hr (fun t ht hW => ⟨_, rfl, (by unfold F_m_worked; first | (rw [if_neg c_1, if_neg c_3, if_neg c_5, if_pos c_7, if_pos c_10]; done) | (rw [if_neg c_1, if_neg c_3, if_neg c_5, if_pos c_7, if_pos c_10]; rfl)), ht⟩) (fun _ h => by cases h) dX1_worked_93
          · refine lv_iconst (v := 1) hx hb dX1_worked_88 (by decide) ?_
            refine lv_goto (tgt := 93) hx hb dX1_worked_89 (by decide) ?_
            exact W.iret (v := 1) hx hb hr (fun t ht hW => ⟨_, rfl, (by unfold F_m_worked; first | (rw [if_neg c_1, if_neg c_3, if_neg c_5, if_pos c_7, if_neg c_10]; done) | (rw [if_neg c_1, if_neg c_3, if_neg c_5, if_pos c_7, if_neg c_10]; rfl)), ht⟩) (fun _ h => by cases h) dX1_worked_93
        · by_cases c_11 : a1 = 4
          · refine lv_tableIn (tgt := 94) (off := 93) hx hb dX1_worked_1 (by rw [c_11]; decide) (by rw [c_11]; decide) (by rw [c_11] <;> rfl) (by decide) ?_
            refine lv_iload_n hx hb dX1_worked_94 rfl (lv_at hl 1 rfl) ?_
            refine lv_iload_n hx hb dX1_worked_95 rfl (lv_at hl 2 rfl) ?_
            refine lv_ior hx hb dX1_worked_96 ?_
            refine lv_iload_n hx hb dX1_worked_97 rfl (lv_at hl 1 rfl) ?_
            refine lv_iload_n hx hb dX1_worked_98 rfl (lv_at hl 2 rfl) ?_
            refine lv_iand hx hb dX1_worked_99 ?_
            refine lv_iconst (v := (-1)) hx hb dX1_worked_100 (by decide) ?_
            refine lv_ixor hx hb dX1_worked_101 ?_
            refine lv_iand hx hb dX1_worked_102 ?_
            exact W.iret (v := (a2 ||| a3) &&& ((a2 &&& a3) ^^^ ((-1)))) hx hb hr (fun t ht hW => ⟨_, rfl, (by unfold F_m_worked; first | (rw [if_neg c_1, if_neg c_3, if_neg c_5, if_neg c_7, if_pos c_11]; done) | (rw [if_neg c_1, if_neg c_3, if_neg c_5, if_neg c_7, if_pos c_11]; rfl)), ht⟩) (fun _ h => by cases h) dX1_worked_103
          · by_cases c_12 : a1 = 5
            · refine lv_tableIn (tgt := 104) (off := 103) hx hb dX1_worked_1 (by rw [c_12]; decide) (by rw [c_12]; decide) (by rw [c_12] <;> rfl) (by decide) ?_
              refine lv_iload_n hx hb dX1_worked_104 rfl (lv_at hl 1 rfl) ?_
              refine lv_iload_n hx hb dX1_worked_105 rfl (lv_at hl 2 rfl) ?_
              refine lv_bipush (v := 31) hx hb dX1_worked_106 (by decide) ?_
              refine lv_iand hx hb dX1_worked_108 ?_
              refine lv_iconst (v := 0) hx hb dX1_worked_109 (by decide) ?_
              refine lv_iload_n hx hb dX1_worked_110 rfl (lv_at hl 3 rfl) ?_
              refine vp_callSi (W.runS (As := [.int a2, .int (a3 &&& 31), .int 0, .int a4]) (rest := []) ⟨hx, hb, hml, hown, hts⟩ (c_m_moved l a2 (a3 &&& 31) 0 a4) (cwS 4 hts (gS mL_X1_88 mS_X1_moved mN_X1 mC_X1_moved) rfl rfl rfl (by decide +kernel) ⟨Nat.le_of_ble_eq_true rfl, Nat.le_of_ble_eq_true rfl⟩) preEq rfl rfl hl.1 rfl (lv_room (Nat.le_of_ble_eq_true rfl)) dX1_worked_111 ⟨Nat.zero_le _, Nat.zero_le _⟩) (fun r_13 hw => ?_)
              rw [hw]
              clear hw r_13
              exact W.iret (v := F_m_moved a2 (a3 &&& 31) 0 a4) hx hb hr (fun t ht hW => ⟨_, rfl, (by unfold F_m_worked; first | (rw [if_neg c_1, if_neg c_3, if_neg c_5, if_neg c_7, if_neg c_11, if_pos c_12]; done) | (rw [if_neg c_1, if_neg c_3, if_neg c_5, if_neg c_7, if_neg c_11, if_pos c_12]; rfl)), ht⟩) (fun _ h => by cases h) dX1_worked_114
            · by_cases c_14 : a1 = 6
              · refine lv_tableIn (tgt := 115) (off := 114) hx hb dX1_worked_1 (by rw [c_14]; decide) (by rw [c_14]; decide) (by rw [c_14] <;> rfl) (by decide) ?_
                refine lv_iload_n hx hb dX1_worked_115 rfl (lv_at hl 1 rfl) ?_
                refine lv_iconst (v := (-1)) hx hb dX1_worked_116 (by decide) ?_
                refine lv_ixor hx hb dX1_worked_117 ?_
                refine lv_iload_n hx hb dX1_worked_118 rfl (lv_at hl 2 rfl) ?_
                refine lv_iconst (v := (-1)) hx hb dX1_worked_119 (by decide) ?_
                refine lv_ixor hx hb dX1_worked_120 ?_
                refine lv_iand hx hb dX1_worked_121 ?_
                refine lv_iconst (v := (-1)) hx hb dX1_worked_122 (by decide) ?_
                refine lv_ixor hx hb dX1_worked_123 ?_
                exact W.iret (v := ((a2 ^^^ ((-1))) &&& (a3 ^^^ ((-1)))) ^^^ ((-1))) hx hb hr (fun t ht hW => ⟨_, rfl, (by unfold F_m_worked; first | (rw [if_neg c_1, if_neg c_3, if_neg c_5, if_neg c_7, if_neg c_11, if_neg c_12, if_pos c_14]; done) | (rw [if_neg c_1, if_neg c_3, if_neg c_5, if_neg c_7, if_neg c_11, if_neg c_12, if_pos c_14]; rfl)), ht⟩) (fun _ h => by cases h) dX1_worked_124
              · have tc_1 := lv_neT (a := 0) c_1 (by decide)
                have tc_3 := lv_neT (a := 1) c_3 (by decide)
                have tc_5 := lv_neT (a := 2) c_5 (by decide)
                have tc_7 := lv_neT (a := 3) c_7 (by decide)
                have tc_11 := lv_neT (a := 4) c_11 (by decide)
                have tc_12 := lv_neT (a := 5) c_12 (by decide)
                have tc_14 := lv_neT (a := 6) c_14 (by decide)
                refine lv_tableOut (tgt := 125) hx hb dX1_worked_1 (by omega) (by decide) ?_
                refine lv_iload_n hx hb dX1_worked_125 rfl (lv_at hl 1 rfl) ?_
                refine lv_iload_n hx hb dX1_worked_126 rfl (lv_at hl 2 rfl) ?_
                refine lv_iand hx hb dX1_worked_127 ?_
                exact W.iret (v := a2 &&& a3) hx hb hr (fun t ht hW => ⟨_, rfl, (by unfold F_m_worked; first | (rw [if_neg c_1, if_neg c_3, if_neg c_5, if_neg c_7, if_neg c_11, if_neg c_12, if_neg c_14]; done) | (rw [if_neg c_1, if_neg c_3, if_neg c_5, if_neg c_7, if_neg c_11, if_neg c_12, if_neg c_14]; rfl)), ht⟩) (fun _ h => by cases h) dX1_worked_128
