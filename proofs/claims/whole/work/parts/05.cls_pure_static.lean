theorem lv_loop {n : Nat} (P : Nat → Heap → List Loc → Array Slot → Prop) (Wg : Heap → List Loc → Array Slot → Prop) (step : ∀ (j : Nat) (H : Heap) (locs : List Loc) (ls : Array Slot), j ≤ n → P j H locs ls → (∀ (H' : Heap) (locs' : List Loc) (ls' : Array Slot), j < n → P (j + 1) H' locs' ls' → Wg H' locs' ls') → Wg H locs ls) : ∀ (k j : Nat) (H : Heap) (locs : List Loc) (ls : Array Slot), n - j ≤ k → j ≤ n → P j H locs ls → Wg H locs ls := by
  intro k
  induction k with
  | zero =>
    intro j H locs ls hk hj hp
    exact step j H locs ls hj hp (fun _ _ _ h _ => absurd h (by omega))
  | succ k ih =>
    intro j H locs ls hk hj hp
    exact step j H locs ls hj hp (fun H' locs' ls' h hp' => ih (j + 1) H' locs' ls' (by omega) (by omega) hp')
def F_partD  (a1 : Int32) : Int32 :=
  ((a1.toUInt32 >>> ((7 : Int32).toUInt32 &&& Int32.toUInt32 31)).toInt32) &&& 31
set_option maxHeartbeats 4000000 in
set_option maxRecDepth 100000 in
theorem c_partD (l : Launch) (a1 : Int32) : Met l yX0_partD wsX0_partD ({ frames := 0, cells := 0, slots := 0, locals := 0 }) (fun v _ => v = ([.int a1] : List Value).toArray) (vp_Si (fun r : Int32 => r = F_partD a1)) 0 0 (fun _ => False) := by
  refine Met.ofW (cc := cX0_partD) (maxL := 1) (ret := (some .int)) (by decide) rfl ?_
  intro p e s m args below meth c s₁ B hml hv
  obtain rfl := hv
  have hx := B.exec
  have hb := B.bytes
  have hr := B.returns
  have hts := atoms_spec (ws := wsX0_partD) B.pre
  have hown : s.vm.findClass RX0 = some m.cls := findClass_of_methodNamed B.named
  have hlocks := B.notSynchronized
  have hl := lv_entry ([.int a1]) (n := 1) (Nat.le_of_ble_eq_true rfl)
  rw [lg_entry_eq]
  generalize (lg_sl ([.int a1]) ++ List.replicate (1 - (lg_sl ([.int a1])).length) Slot.unset).toArray = ls at hl ⊢
  have hl : lv_has ls 1 [(0, .int a1)] := hl
  refine lv_iload_n hx hb dX0_partD_0 rfl (lv_at hl 0 rfl) ?_
  refine lv_bipush (v := 7) hx hb dX0_partD_1 (by decide) ?_
  refine lv_iushr (v := (a1.toUInt32 >>> ((7 : Int32).toUInt32 &&& Int32.toUInt32 31)).toInt32) hx hb dX0_partD_3 rfl ?_
  refine lv_bipush (v := 31) hx hb dX0_partD_4 (by decide) ?_
  refine lv_iand hx hb dX0_partD_6 ?_
  exact W.iret (v := ((a1.toUInt32 >>> ((7 : Int32).toUInt32 &&& Int32.toUInt32 31)).toInt32) &&& 31) hx hb hr (fun t ht hW => ⟨_, rfl, (by unfold F_partD; rfl), ht⟩) (fun _ h => by cases h) dX0_partD_7

def F_partF  (a1 : Int32) : Int32 :=
  ((a1.toUInt32 >>> ((12 : Int32).toUInt32 &&& Int32.toUInt32 31)).toInt32) &&& 7
set_option maxHeartbeats 4000000 in
set_option maxRecDepth 100000 in
theorem c_partF (l : Launch) (a1 : Int32) : Met l yX0_partF wsX0_partF ({ frames := 0, cells := 0, slots := 0, locals := 0 }) (fun v _ => v = ([.int a1] : List Value).toArray) (vp_Si (fun r : Int32 => r = F_partF a1)) 0 0 (fun _ => False) := by
  refine Met.ofW (cc := cX0_partF) (maxL := 1) (ret := (some .int)) (by decide) rfl ?_
  intro p e s m args below meth c s₁ B hml hv
  obtain rfl := hv
  have hx := B.exec
  have hb := B.bytes
  have hr := B.returns
  have hts := atoms_spec (ws := wsX0_partF) B.pre
  have hown : s.vm.findClass RX0 = some m.cls := findClass_of_methodNamed B.named
  have hlocks := B.notSynchronized
  have hl := lv_entry ([.int a1]) (n := 1) (Nat.le_of_ble_eq_true rfl)
  rw [lg_entry_eq]
  generalize (lg_sl ([.int a1]) ++ List.replicate (1 - (lg_sl ([.int a1])).length) Slot.unset).toArray = ls at hl ⊢
  have hl : lv_has ls 1 [(0, .int a1)] := hl
  refine lv_iload_n hx hb dX0_partF_0 rfl (lv_at hl 0 rfl) ?_
  refine lv_bipush (v := 12) hx hb dX0_partF_1 (by decide) ?_
  refine lv_iushr (v := (a1.toUInt32 >>> ((12 : Int32).toUInt32 &&& Int32.toUInt32 31)).toInt32) hx hb dX0_partF_3 rfl ?_
  refine lv_bipush (v := 7) hx hb dX0_partF_4 (by decide) ?_
  refine lv_iand hx hb dX0_partF_6 ?_
  exact W.iret (v := ((a1.toUInt32 >>> ((12 : Int32).toUInt32 &&& Int32.toUInt32 31)).toInt32) &&& 7) hx hb hr (fun t ht hW => ⟨_, rfl, (by unfold F_partF; rfl), ht⟩) (fun _ h => by cases h) dX0_partF_7

def F_partB  (a1 : Int32) : Int32 :=
  ((a1.toUInt32 >>> ((20 : Int32).toUInt32 &&& Int32.toUInt32 31)).toInt32) &&& 31
set_option maxHeartbeats 4000000 in
set_option maxRecDepth 100000 in
theorem c_partB (l : Launch) (a1 : Int32) : Met l yX0_partB wsX0_partB ({ frames := 0, cells := 0, slots := 0, locals := 0 }) (fun v _ => v = ([.int a1] : List Value).toArray) (vp_Si (fun r : Int32 => r = F_partB a1)) 0 0 (fun _ => False) := by
  refine Met.ofW (cc := cX0_partB) (maxL := 1) (ret := (some .int)) (by decide) rfl ?_
  intro p e s m args below meth c s₁ B hml hv
  obtain rfl := hv
  have hx := B.exec
  have hb := B.bytes
  have hr := B.returns
  have hts := atoms_spec (ws := wsX0_partB) B.pre
  have hown : s.vm.findClass RX0 = some m.cls := findClass_of_methodNamed B.named
  have hlocks := B.notSynchronized
  have hl := lv_entry ([.int a1]) (n := 1) (Nat.le_of_ble_eq_true rfl)
  rw [lg_entry_eq]
  generalize (lg_sl ([.int a1]) ++ List.replicate (1 - (lg_sl ([.int a1])).length) Slot.unset).toArray = ls at hl ⊢
  have hl : lv_has ls 1 [(0, .int a1)] := hl
  refine lv_iload_n hx hb dX0_partB_0 rfl (lv_at hl 0 rfl) ?_
  refine lv_bipush (v := 20) hx hb dX0_partB_1 (by decide) ?_
  refine lv_iushr (v := (a1.toUInt32 >>> ((20 : Int32).toUInt32 &&& Int32.toUInt32 31)).toInt32) hx hb dX0_partB_3 rfl ?_
  refine lv_bipush (v := 31) hx hb dX0_partB_4 (by decide) ?_
  refine lv_iand hx hb dX0_partB_6 ?_
  exact W.iret (v := ((a1.toUInt32 >>> ((20 : Int32).toUInt32 &&& Int32.toUInt32 31)).toInt32) &&& 31) hx hb hr (fun t ht hW => ⟨_, rfl, (by unfold F_partB; rfl), ht⟩) (fun _ h => by cases h) dX0_partB_7

def F_partG  (a1 : Int32) : Int32 :=
  (a1.toUInt32 >>> ((25 : Int32).toUInt32 &&& Int32.toUInt32 31)).toInt32
set_option maxHeartbeats 4000000 in
set_option maxRecDepth 100000 in
theorem c_partG (l : Launch) (a1 : Int32) : Met l yX0_partG wsX0_partG ({ frames := 0, cells := 0, slots := 0, locals := 0 }) (fun v _ => v = ([.int a1] : List Value).toArray) (vp_Si (fun r : Int32 => r = F_partG a1)) 0 0 (fun _ => False) := by
  refine Met.ofW (cc := cX0_partG) (maxL := 1) (ret := (some .int)) (by decide) rfl ?_
  intro p e s m args below meth c s₁ B hml hv
  obtain rfl := hv
  have hx := B.exec
  have hb := B.bytes
  have hr := B.returns
  have hts := atoms_spec (ws := wsX0_partG) B.pre
  have hown : s.vm.findClass RX0 = some m.cls := findClass_of_methodNamed B.named
  have hlocks := B.notSynchronized
  have hl := lv_entry ([.int a1]) (n := 1) (Nat.le_of_ble_eq_true rfl)
  rw [lg_entry_eq]
  generalize (lg_sl ([.int a1]) ++ List.replicate (1 - (lg_sl ([.int a1])).length) Slot.unset).toArray = ls at hl ⊢
  have hl : lv_has ls 1 [(0, .int a1)] := hl
  refine lv_iload_n hx hb dX0_partG_0 rfl (lv_at hl 0 rfl) ?_
  refine lv_bipush (v := 25) hx hb dX0_partG_1 (by decide) ?_
  refine lv_iushr (v := (a1.toUInt32 >>> ((25 : Int32).toUInt32 &&& Int32.toUInt32 31)).toInt32) hx hb dX0_partG_3 rfl ?_
  exact W.iret (v := (a1.toUInt32 >>> ((25 : Int32).toUInt32 &&& Int32.toUInt32 31)).toInt32) hx hb hr (fun t ht hW => ⟨_, rfl, (by unfold F_partG; rfl), ht⟩) (fun _ h => by cases h) dX0_partG_4

def F_lowImmediate  (a1 : Int32) : Int32 :=
  a1 >>> ((20 : Int32) &&& 31)
set_option maxHeartbeats 4000000 in
set_option maxRecDepth 100000 in
theorem c_lowImmediate (l : Launch) (a1 : Int32) : Met l yX0_lowImmediate wsX0_lowImmediate ({ frames := 0, cells := 0, slots := 0, locals := 0 }) (fun v _ => v = ([.int a1] : List Value).toArray) (vp_Si (fun r : Int32 => r = F_lowImmediate a1)) 0 0 (fun _ => False) := by
  refine Met.ofW (cc := cX0_lowImmediate) (maxL := 1) (ret := (some .int)) (by decide) rfl ?_
  intro p e s m args below meth c s₁ B hml hv
  obtain rfl := hv
  have hx := B.exec
  have hb := B.bytes
  have hr := B.returns
  have hts := atoms_spec (ws := wsX0_lowImmediate) B.pre
  have hown : s.vm.findClass RX0 = some m.cls := findClass_of_methodNamed B.named
  have hlocks := B.notSynchronized
  have hl := lv_entry ([.int a1]) (n := 1) (Nat.le_of_ble_eq_true rfl)
  rw [lg_entry_eq]
  generalize (lg_sl ([.int a1]) ++ List.replicate (1 - (lg_sl ([.int a1])).length) Slot.unset).toArray = ls at hl ⊢
  have hl : lv_has ls 1 [(0, .int a1)] := hl
  refine lv_iload_n hx hb dX0_lowImmediate_0 rfl (lv_at hl 0 rfl) ?_
  refine lv_bipush (v := 20) hx hb dX0_lowImmediate_1 (by decide) ?_
  refine lv_ishr hx hb dX0_lowImmediate_3 ?_
  exact W.iret (v := a1 >>> ((20 : Int32) &&& 31)) hx hb hr (fun t ht hW => ⟨_, rfl, (by unfold F_lowImmediate; rfl), ht⟩) (fun _ h => by cases h) dX0_lowImmediate_4

def F_storeImmediate  (a1 : Int32) : Int32 :=
  ((a1 >>> ((25 : Int32) &&& 31)) <<< ((5 : Int32) &&& 31)) ||| (F_partD a1)
set_option maxHeartbeats 4000000 in
set_option maxRecDepth 100000 in
theorem c_storeImmediate (l : Launch) (a1 : Int32) : Met l yX0_storeImmediate wsX0_storeImmediate ({ frames := 1, cells := 0, slots := 0, locals := 20 }) (fun v _ => v = ([.int a1] : List Value).toArray) (vp_Si (fun r : Int32 => r = F_storeImmediate a1)) 0 0 (fun _ => False) := by
  refine Met.ofW (cc := cX0_storeImmediate) (maxL := 1) (ret := (some .int)) (by decide) rfl ?_
  intro p e s m args below meth c s₁ B hml hv
  obtain rfl := hv
  have hx := B.exec
  have hb := B.bytes
  have hr := B.returns
  have hts := atoms_spec (ws := wsX0_storeImmediate) B.pre
  have hown : s.vm.findClass RX0 = some m.cls := findClass_of_methodNamed B.named
  have hlocks := B.notSynchronized
  have hl := lv_entry ([.int a1]) (n := 1) (Nat.le_of_ble_eq_true rfl)
  rw [lg_entry_eq]
  generalize (lg_sl ([.int a1]) ++ List.replicate (1 - (lg_sl ([.int a1])).length) Slot.unset).toArray = ls at hl ⊢
  have hl : lv_has ls 1 [(0, .int a1)] := hl
  refine lv_iload_n hx hb dX0_storeImmediate_0 rfl (lv_at hl 0 rfl) ?_
  refine lv_bipush (v := 25) hx hb dX0_storeImmediate_1 (by decide) ?_
  refine lv_ishr hx hb dX0_storeImmediate_3 ?_
  refine lv_iconst (v := 5) hx hb dX0_storeImmediate_4 (by decide) ?_
  refine lv_ishl hx hb dX0_storeImmediate_5 ?_
  refine lv_iload_n hx hb dX0_storeImmediate_6 rfl (lv_at hl 0 rfl) ?_
  refine vp_callSi (W.runS (As := [.int a1]) (rest := [.int ((a1 >>> ((25 : Int32) &&& 31)) <<< ((5 : Int32) &&& 31))]) ⟨hx, hb, hml, hown, hts⟩ (c_partD l a1) (cwS 1 hts (gS mL_X0_154 mS_X0_partD mN_X0 mC_X0_partD) rfl rfl rfl (by decide +kernel) ⟨Nat.le_of_ble_eq_true rfl, Nat.le_of_ble_eq_true rfl⟩) preEq rfl rfl hl.1 rfl (lv_room (Nat.le_of_ble_eq_true rfl)) dX0_storeImmediate_7 ⟨Nat.zero_le _, Nat.zero_le _⟩) (fun r_1 hw => ?_)
  subst hw
  refine lv_ior hx hb dX0_storeImmediate_10 ?_
  exact W.iret (v := ((a1 >>> ((25 : Int32) &&& 31)) <<< ((5 : Int32) &&& 31)) ||| (F_partD a1)) hx hb hr (fun t ht hW => ⟨_, rfl, (by unfold F_storeImmediate; rfl), ht⟩) (fun _ h => by cases h) dX0_storeImmediate_11

def F_branchImmediate  (a1 : Int32) : Int32 :=
  ((((a1 >>> ((31 : Int32) &&& 31)) <<< ((12 : Int32) &&& 31)) ||| ((((a1.toUInt32 >>> ((7 : Int32).toUInt32 &&& Int32.toUInt32 31)).toInt32) &&& 1) <<< ((11 : Int32) &&& 31))) ||| ((((a1.toUInt32 >>> ((25 : Int32).toUInt32 &&& Int32.toUInt32 31)).toInt32) &&& 63) <<< ((5 : Int32) &&& 31))) ||| ((((a1.toUInt32 >>> ((8 : Int32).toUInt32 &&& Int32.toUInt32 31)).toInt32) &&& 15) <<< ((1 : Int32) &&& 31))
set_option maxHeartbeats 4000000 in
set_option maxRecDepth 100000 in
theorem c_branchImmediate (l : Launch) (a1 : Int32) : Met l yX0_branchImmediate wsX0_branchImmediate ({ frames := 0, cells := 0, slots := 0, locals := 0 }) (fun v _ => v = ([.int a1] : List Value).toArray) (vp_Si (fun r : Int32 => r = F_branchImmediate a1)) 0 0 (fun _ => False) := by
  refine Met.ofW (cc := cX0_branchImmediate) (maxL := 1) (ret := (some .int)) (by decide) rfl ?_
  intro p e s m args below meth c s₁ B hml hv
  obtain rfl := hv
  have hx := B.exec
  have hb := B.bytes
  have hr := B.returns
  have hts := atoms_spec (ws := wsX0_branchImmediate) B.pre
  have hown : s.vm.findClass RX0 = some m.cls := findClass_of_methodNamed B.named
  have hlocks := B.notSynchronized
  have hl := lv_entry ([.int a1]) (n := 1) (Nat.le_of_ble_eq_true rfl)
  rw [lg_entry_eq]
  generalize (lg_sl ([.int a1]) ++ List.replicate (1 - (lg_sl ([.int a1])).length) Slot.unset).toArray = ls at hl ⊢
  have hl : lv_has ls 1 [(0, .int a1)] := hl
  refine lv_iload_n hx hb dX0_branchImmediate_0 rfl (lv_at hl 0 rfl) ?_
  refine lv_bipush (v := 31) hx hb dX0_branchImmediate_1 (by decide) ?_
  refine lv_ishr hx hb dX0_branchImmediate_3 ?_
  refine lv_bipush (v := 12) hx hb dX0_branchImmediate_4 (by decide) ?_
  refine lv_ishl hx hb dX0_branchImmediate_6 ?_
  refine lv_iload_n hx hb dX0_branchImmediate_7 rfl (lv_at hl 0 rfl) ?_
  refine lv_bipush (v := 7) hx hb dX0_branchImmediate_8 (by decide) ?_
  refine lv_iushr (v := (a1.toUInt32 >>> ((7 : Int32).toUInt32 &&& Int32.toUInt32 31)).toInt32) hx hb dX0_branchImmediate_10 rfl ?_
  refine lv_iconst (v := 1) hx hb dX0_branchImmediate_11 (by decide) ?_
  refine lv_iand hx hb dX0_branchImmediate_12 ?_
  refine lv_bipush (v := 11) hx hb dX0_branchImmediate_13 (by decide) ?_
  refine lv_ishl hx hb dX0_branchImmediate_15 ?_
  refine lv_ior hx hb dX0_branchImmediate_16 ?_
  refine lv_iload_n hx hb dX0_branchImmediate_17 rfl (lv_at hl 0 rfl) ?_
  refine lv_bipush (v := 25) hx hb dX0_branchImmediate_18 (by decide) ?_
  refine lv_iushr (v := (a1.toUInt32 >>> ((25 : Int32).toUInt32 &&& Int32.toUInt32 31)).toInt32) hx hb dX0_branchImmediate_20 rfl ?_
  refine lv_bipush (v := 63) hx hb dX0_branchImmediate_21 (by decide) ?_
  refine lv_iand hx hb dX0_branchImmediate_23 ?_
  refine lv_iconst (v := 5) hx hb dX0_branchImmediate_24 (by decide) ?_
  refine lv_ishl hx hb dX0_branchImmediate_25 ?_
  refine lv_ior hx hb dX0_branchImmediate_26 ?_
  refine lv_iload_n hx hb dX0_branchImmediate_27 rfl (lv_at hl 0 rfl) ?_
  refine lv_bipush (v := 8) hx hb dX0_branchImmediate_28 (by decide) ?_
  refine lv_iushr (v := (a1.toUInt32 >>> ((8 : Int32).toUInt32 &&& Int32.toUInt32 31)).toInt32) hx hb dX0_branchImmediate_30 rfl ?_
  refine lv_bipush (v := 15) hx hb dX0_branchImmediate_31 (by decide) ?_
  refine lv_iand hx hb dX0_branchImmediate_33 ?_
  refine lv_iconst (v := 1) hx hb dX0_branchImmediate_34 (by decide) ?_
  refine lv_ishl hx hb dX0_branchImmediate_35 ?_
  refine lv_ior hx hb dX0_branchImmediate_36 ?_
  exact W.iret (v := ((((a1 >>> ((31 : Int32) &&& 31)) <<< ((12 : Int32) &&& 31)) ||| ((((a1.toUInt32 >>> ((7 : Int32).toUInt32 &&& Int32.toUInt32 31)).toInt32) &&& 1) <<< ((11 : Int32) &&& 31))) ||| ((((a1.toUInt32 >>> ((25 : Int32).toUInt32 &&& Int32.toUInt32 31)).toInt32) &&& 63) <<< ((5 : Int32) &&& 31))) ||| ((((a1.toUInt32 >>> ((8 : Int32).toUInt32 &&& Int32.toUInt32 31)).toInt32) &&& 15) <<< ((1 : Int32) &&& 31))) hx hb hr (fun t ht hW => ⟨_, rfl, (by unfold F_branchImmediate; rfl), ht⟩) (fun _ h => by cases h) dX0_branchImmediate_37

def F_upperImmediate  (a1 : Int32) : Int32 :=
  ((a1.toUInt32 >>> ((12 : Int32).toUInt32 &&& Int32.toUInt32 31)).toInt32) <<< ((12 : Int32) &&& 31)
set_option maxHeartbeats 4000000 in
set_option maxRecDepth 100000 in
theorem c_upperImmediate (l : Launch) (a1 : Int32) : Met l yX0_upperImmediate wsX0_upperImmediate ({ frames := 0, cells := 0, slots := 0, locals := 0 }) (fun v _ => v = ([.int a1] : List Value).toArray) (vp_Si (fun r : Int32 => r = F_upperImmediate a1)) 0 0 (fun _ => False) := by
  refine Met.ofW (cc := cX0_upperImmediate) (maxL := 1) (ret := (some .int)) (by decide) rfl ?_
  intro p e s m args below meth c s₁ B hml hv
  obtain rfl := hv
  have hx := B.exec
  have hb := B.bytes
  have hr := B.returns
  have hts := atoms_spec (ws := wsX0_upperImmediate) B.pre
  have hown : s.vm.findClass RX0 = some m.cls := findClass_of_methodNamed B.named
  have hlocks := B.notSynchronized
  have hl := lv_entry ([.int a1]) (n := 1) (Nat.le_of_ble_eq_true rfl)
  rw [lg_entry_eq]
  generalize (lg_sl ([.int a1]) ++ List.replicate (1 - (lg_sl ([.int a1])).length) Slot.unset).toArray = ls at hl ⊢
  have hl : lv_has ls 1 [(0, .int a1)] := hl
  refine lv_iload_n hx hb dX0_upperImmediate_0 rfl (lv_at hl 0 rfl) ?_
  refine lv_bipush (v := 12) hx hb dX0_upperImmediate_1 (by decide) ?_
  refine lv_iushr (v := (a1.toUInt32 >>> ((12 : Int32).toUInt32 &&& Int32.toUInt32 31)).toInt32) hx hb dX0_upperImmediate_3 rfl ?_
  refine lv_bipush (v := 12) hx hb dX0_upperImmediate_4 (by decide) ?_
  refine lv_ishl hx hb dX0_upperImmediate_6 ?_
  exact W.iret (v := ((a1.toUInt32 >>> ((12 : Int32).toUInt32 &&& Int32.toUInt32 31)).toInt32) <<< ((12 : Int32) &&& 31)) hx hb hr (fun t ht hW => ⟨_, rfl, (by unfold F_upperImmediate; rfl), ht⟩) (fun _ h => by cases h) dX0_upperImmediate_7

def F_jumpImmediate  (a1 : Int32) : Int32 :=
  ((((a1 >>> ((31 : Int32) &&& 31)) <<< ((20 : Int32) &&& 31)) ||| ((((a1.toUInt32 >>> ((12 : Int32).toUInt32 &&& Int32.toUInt32 31)).toInt32) &&& 255) <<< ((12 : Int32) &&& 31))) ||| ((((a1.toUInt32 >>> ((20 : Int32).toUInt32 &&& Int32.toUInt32 31)).toInt32) &&& 1) <<< ((11 : Int32) &&& 31))) ||| ((((a1.toUInt32 >>> ((21 : Int32).toUInt32 &&& Int32.toUInt32 31)).toInt32) &&& 1023) <<< ((1 : Int32) &&& 31))
set_option maxHeartbeats 4000000 in
set_option maxRecDepth 100000 in
theorem c_jumpImmediate (l : Launch) (a1 : Int32) : Met l yX0_jumpImmediate wsX0_jumpImmediate ({ frames := 0, cells := 0, slots := 0, locals := 0 }) (fun v _ => v = ([.int a1] : List Value).toArray) (vp_Si (fun r : Int32 => r = F_jumpImmediate a1)) 0 0 (fun _ => False) := by
  refine Met.ofW (cc := cX0_jumpImmediate) (maxL := 1) (ret := (some .int)) (by decide) rfl ?_
  intro p e s m args below meth c s₁ B hml hv
  obtain rfl := hv
  have hx := B.exec
  have hb := B.bytes
  have hr := B.returns
  have hts := atoms_spec (ws := wsX0_jumpImmediate) B.pre
  have hown : s.vm.findClass RX0 = some m.cls := findClass_of_methodNamed B.named
  have hlocks := B.notSynchronized
  have hl := lv_entry ([.int a1]) (n := 1) (Nat.le_of_ble_eq_true rfl)
  rw [lg_entry_eq]
  generalize (lg_sl ([.int a1]) ++ List.replicate (1 - (lg_sl ([.int a1])).length) Slot.unset).toArray = ls at hl ⊢
  have hl : lv_has ls 1 [(0, .int a1)] := hl
  refine lv_iload_n hx hb dX0_jumpImmediate_0 rfl (lv_at hl 0 rfl) ?_
  refine lv_bipush (v := 31) hx hb dX0_jumpImmediate_1 (by decide) ?_
  refine lv_ishr hx hb dX0_jumpImmediate_3 ?_
  refine lv_bipush (v := 20) hx hb dX0_jumpImmediate_4 (by decide) ?_
  refine lv_ishl hx hb dX0_jumpImmediate_6 ?_
  refine lv_iload_n hx hb dX0_jumpImmediate_7 rfl (lv_at hl 0 rfl) ?_
  refine lv_bipush (v := 12) hx hb dX0_jumpImmediate_8 (by decide) ?_
  refine lv_iushr (v := (a1.toUInt32 >>> ((12 : Int32).toUInt32 &&& Int32.toUInt32 31)).toInt32) hx hb dX0_jumpImmediate_10 rfl ?_
  refine lv_sipush (v := 255) hx hb dX0_jumpImmediate_11 (by decide) ?_
  refine lv_iand hx hb dX0_jumpImmediate_14 ?_
  refine lv_bipush (v := 12) hx hb dX0_jumpImmediate_15 (by decide) ?_
  refine lv_ishl hx hb dX0_jumpImmediate_17 ?_
  refine lv_ior hx hb dX0_jumpImmediate_18 ?_
  refine lv_iload_n hx hb dX0_jumpImmediate_19 rfl (lv_at hl 0 rfl) ?_
  refine lv_bipush (v := 20) hx hb dX0_jumpImmediate_20 (by decide) ?_
  refine lv_iushr (v := (a1.toUInt32 >>> ((20 : Int32).toUInt32 &&& Int32.toUInt32 31)).toInt32) hx hb dX0_jumpImmediate_22 rfl ?_
  refine lv_iconst (v := 1) hx hb dX0_jumpImmediate_23 (by decide) ?_
  refine lv_iand hx hb dX0_jumpImmediate_24 ?_
  refine lv_bipush (v := 11) hx hb dX0_jumpImmediate_25 (by decide) ?_
  refine lv_ishl hx hb dX0_jumpImmediate_27 ?_
  refine lv_ior hx hb dX0_jumpImmediate_28 ?_
  refine lv_iload_n hx hb dX0_jumpImmediate_29 rfl (lv_at hl 0 rfl) ?_
  refine lv_bipush (v := 21) hx hb dX0_jumpImmediate_30 (by decide) ?_
  refine lv_iushr (v := (a1.toUInt32 >>> ((21 : Int32).toUInt32 &&& Int32.toUInt32 31)).toInt32) hx hb dX0_jumpImmediate_32 rfl ?_
  refine lv_sipush (v := 1023) hx hb dX0_jumpImmediate_33 (by decide) ?_
  refine lv_iand hx hb dX0_jumpImmediate_36 ?_
  refine lv_iconst (v := 1) hx hb dX0_jumpImmediate_37 (by decide) ?_
  refine lv_ishl hx hb dX0_jumpImmediate_38 ?_
  refine lv_ior hx hb dX0_jumpImmediate_39 ?_
  exact W.iret (v := ((((a1 >>> ((31 : Int32) &&& 31)) <<< ((20 : Int32) &&& 31)) ||| ((((a1.toUInt32 >>> ((12 : Int32).toUInt32 &&& Int32.toUInt32 31)).toInt32) &&& 255) <<< ((12 : Int32) &&& 31))) ||| ((((a1.toUInt32 >>> ((20 : Int32).toUInt32 &&& Int32.toUInt32 31)).toInt32) &&& 1) <<< ((11 : Int32) &&& 31))) ||| ((((a1.toUInt32 >>> ((21 : Int32).toUInt32 &&& Int32.toUInt32 31)).toInt32) &&& 1023) <<< ((1 : Int32) &&& 31))) hx hb hr (fun t ht hW => ⟨_, rfl, (by unfold F_jumpImmediate; rfl), ht⟩) (fun _ h => by cases h) dX0_jumpImmediate_40

def F_isRegister  (a1 : Int32) : Int32 :=
  if a1 < 0 then
    0
  else
    if (32 : Int32) ≤ a1 then
      0
    else
      1
set_option maxHeartbeats 4000000 in
set_option maxRecDepth 100000 in
theorem c_isRegister (l : Launch) (a1 : Int32) : Met l yX0_isRegister wsX0_isRegister ({ frames := 0, cells := 0, slots := 0, locals := 0 }) (fun v _ => v = ([.int a1] : List Value).toArray) (vp_Si (fun r : Int32 => narrow .boolean (.int r) = .int r ∧ r = F_isRegister a1)) 0 0 (fun _ => False) := by
  refine Met.ofW (cc := cX0_isRegister) (maxL := 1) (ret := (some .boolean)) (by decide) rfl ?_
  intro p e s m args below meth c s₁ B hml hv
  obtain rfl := hv
  have hx := B.exec
  have hb := B.bytes
  have hr := B.returns
  have hts := atoms_spec (ws := wsX0_isRegister) B.pre
  have hown : s.vm.findClass RX0 = some m.cls := findClass_of_methodNamed B.named
  have hlocks := B.notSynchronized
  have hl := lv_entry ([.int a1]) (n := 1) (Nat.le_of_ble_eq_true rfl)
  rw [lg_entry_eq]
  generalize (lg_sl ([.int a1]) ++ List.replicate (1 - (lg_sl ([.int a1])).length) Slot.unset).toArray = ls at hl ⊢
  have hl : lv_has ls 1 [(0, .int a1)] := hl
  refine lv_iload_n hx hb dX0_isRegister_0 rfl (lv_at hl 0 rfl) ?_
  refine lv_if_lt (tgt := 14) hx hb dX0_isRegister_1 (by decide) (fun c_1 => ?_) (fun c_1 => ?_)
  · refine lv_iconst (v := 0) hx hb dX0_isRegister_14 (by decide) ?_
    exact W.zret (v := 0) (ty := .boolean) hx hb hr rfl (fun t ht hW => ⟨_, rfl, ⟨rfl, (by unfold F_isRegister; rw [if_pos c_1])⟩, ht⟩) (fun _ h => by cases h) dX0_isRegister_15
  · refine lv_iload_n hx hb dX0_isRegister_4 rfl (lv_at hl 0 rfl) ?_
    refine lv_bipush (v := 32) hx hb dX0_isRegister_5 (by decide) ?_
    refine lv_icmp_ge (tgt := 14) hx hb dX0_isRegister_7 (by decide) (fun c_2 => ?_) (fun c_2 => ?_)
    · refine lv_iconst (v := 0) hx hb dX0_isRegister_14 (by decide) ?_
      exact W.zret (v := 0) (ty := .boolean) hx hb hr rfl (fun t ht hW => ⟨_, rfl, ⟨rfl, (by unfold F_isRegister; rw [if_neg c_1, if_pos c_2])⟩, ht⟩) (fun _ h => by cases h) dX0_isRegister_15
    · refine lv_iconst (v := 1) hx hb dX0_isRegister_10 (by decide) ?_
      refine lv_goto (tgt := 15) hx hb dX0_isRegister_11 (by decide) ?_
      exact W.zret (v := 1) (ty := .boolean) hx hb hr rfl (fun t ht hW => ⟨_, rfl, ⟨rfl, (by unfold F_isRegister; rw [if_neg c_1, if_neg c_2])⟩, ht⟩) (fun _ h => by cases h) dX0_isRegister_15

def F_isInPages  (a1 : Int32) : Int32 :=
  if a1 < 0 then
    0
  else
    if (16384 : Int32) ≤ a1 then
      0
    else
      1
set_option maxHeartbeats 4000000 in
set_option maxRecDepth 100000 in
theorem c_isInPages (l : Launch) (a1 : Int32) : Met l yX0_isInPages wsX0_isInPages ({ frames := 0, cells := 0, slots := 0, locals := 0 }) (fun v _ => v = ([.int a1] : List Value).toArray) (vp_Si (fun r : Int32 => narrow .boolean (.int r) = .int r ∧ r = F_isInPages a1)) 0 0 (fun _ => False) := by
  refine Met.ofW (cc := cX0_isInPages) (maxL := 1) (ret := (some .boolean)) (by decide) rfl ?_
  intro p e s m args below meth c s₁ B hml hv
  obtain rfl := hv
  have hx := B.exec
  have hb := B.bytes
  have hr := B.returns
  have hts := atoms_spec (ws := wsX0_isInPages) B.pre
  have hown : s.vm.findClass RX0 = some m.cls := findClass_of_methodNamed B.named
  have hlocks := B.notSynchronized
  have hl := lv_entry ([.int a1]) (n := 1) (Nat.le_of_ble_eq_true rfl)
  rw [lg_entry_eq]
  generalize (lg_sl ([.int a1]) ++ List.replicate (1 - (lg_sl ([.int a1])).length) Slot.unset).toArray = ls at hl ⊢
  have hl : lv_has ls 1 [(0, .int a1)] := hl
  refine lv_iload_n hx hb dX0_isInPages_0 rfl (lv_at hl 0 rfl) ?_
  refine lv_if_lt (tgt := 15) hx hb dX0_isInPages_1 (by decide) (fun c_1 => ?_) (fun c_1 => ?_)
  · refine lv_iconst (v := 0) hx hb dX0_isInPages_15 (by decide) ?_
    exact W.zret (v := 0) (ty := .boolean) hx hb hr rfl (fun t ht hW => ⟨_, rfl, ⟨rfl, (by unfold F_isInPages; rw [if_pos c_1])⟩, ht⟩) (fun _ h => by cases h) dX0_isInPages_16
  · refine lv_iload_n hx hb dX0_isInPages_4 rfl (lv_at hl 0 rfl) ?_
    refine lv_sipush (v := 16384) hx hb dX0_isInPages_5 (by decide) ?_
    refine lv_icmp_ge (tgt := 15) hx hb dX0_isInPages_8 (by decide) (fun c_2 => ?_) (fun c_2 => ?_)
    · refine lv_iconst (v := 0) hx hb dX0_isInPages_15 (by decide) ?_
      exact W.zret (v := 0) (ty := .boolean) hx hb hr rfl (fun t ht hW => ⟨_, rfl, ⟨rfl, (by unfold F_isInPages; rw [if_neg c_1, if_pos c_2])⟩, ht⟩) (fun _ h => by cases h) dX0_isInPages_16
    · refine lv_iconst (v := 1) hx hb dX0_isInPages_11 (by decide) ?_
      refine lv_goto (tgt := 16) hx hb dX0_isInPages_12 (by decide) ?_
      exact W.zret (v := 1) (ty := .boolean) hx hb hr rfl (fun t ht hW => ⟨_, rfl, ⟨rfl, (by unfold F_isInPages; rw [if_neg c_1, if_neg c_2])⟩, ht⟩) (fun _ h => by cases h) dX0_isInPages_16

def F_isCrooked  (a1 : Int32) (a2 : Int32) : Int32 :=
  if (a1 &&& (a2 - 1)) = 0 then
    0
  else
    1
set_option maxHeartbeats 4000000 in
set_option maxRecDepth 100000 in
theorem c_isCrooked (l : Launch) (a1 : Int32) (a2 : Int32) : Met l yX0_isCrooked wsX0_isCrooked ({ frames := 0, cells := 0, slots := 0, locals := 0 }) (fun v _ => v = ([.int a1, .int a2] : List Value).toArray) (vp_Si (fun r : Int32 => narrow .boolean (.int r) = .int r ∧ r = F_isCrooked a1 a2)) 0 0 (fun _ => False) := by
  refine Met.ofW (cc := cX0_isCrooked) (maxL := 2) (ret := (some .boolean)) (by decide) rfl ?_
  intro p e s m args below meth c s₁ B hml hv
  obtain rfl := hv
  have hx := B.exec
  have hb := B.bytes
  have hr := B.returns
  have hts := atoms_spec (ws := wsX0_isCrooked) B.pre
  have hown : s.vm.findClass RX0 = some m.cls := findClass_of_methodNamed B.named
  have hlocks := B.notSynchronized
  have hl := lv_entry ([.int a1, .int a2]) (n := 2) (Nat.le_of_ble_eq_true rfl)
  rw [lg_entry_eq]
  generalize (lg_sl ([.int a1, .int a2]) ++ List.replicate (2 - (lg_sl ([.int a1, .int a2])).length) Slot.unset).toArray = ls at hl ⊢
  have hl : lv_has ls 2 [(0, .int a1), (1, .int a2)] := hl
  refine lv_iload_n hx hb dX0_isCrooked_0 rfl (lv_at hl 0 rfl) ?_
  refine lv_iload_n hx hb dX0_isCrooked_1 rfl (lv_at hl 1 rfl) ?_
  refine lv_iconst (v := 1) hx hb dX0_isCrooked_2 (by decide) ?_
  refine lv_isub hx hb dX0_isCrooked_3 ?_
  refine lv_iand hx hb dX0_isCrooked_4 ?_
  refine lv_if_eq (tgt := 12) hx hb dX0_isCrooked_5 (by decide) (fun c_1 => ?_) (fun c_1 => ?_)
  · refine lv_iconst (v := 0) hx hb dX0_isCrooked_12 (by decide) ?_
    exact W.zret (v := 0) (ty := .boolean) hx hb hr rfl (fun t ht hW => ⟨_, rfl, ⟨rfl, (by unfold F_isCrooked; rw [if_pos c_1])⟩, ht⟩) (fun _ h => by cases h) dX0_isCrooked_13
  · refine lv_iconst (v := 1) hx hb dX0_isCrooked_8 (by decide) ?_
    refine lv_goto (tgt := 13) hx hb dX0_isCrooked_9 (by decide) ?_
    exact W.zret (v := 1) (ty := .boolean) hx hb hr rfl (fun t ht hW => ⟨_, rfl, ⟨rfl, (by unfold F_isCrooked; rw [if_neg c_1])⟩, ht⟩) (fun _ h => by cases h) dX0_isCrooked_13

def F_unsigned  (a1 : Int32) : Int64 :=
  a1.toInt64 &&& 4294967295
set_option maxHeartbeats 4000000 in
set_option maxRecDepth 100000 in
theorem c_unsigned (l : Launch) (a1 : Int32) : Met l yX0_unsigned wsX0_unsigned ({ frames := 0, cells := 0, slots := 0, locals := 0 }) (fun v _ => v = ([.int a1] : List Value).toArray) (vp_Sl (fun r : Int64 => r = F_unsigned a1)) 0 0 (fun _ => False) := by
  refine Met.ofW (cc := cX0_unsigned) (maxL := 1) (ret := (some .long)) (by decide) rfl ?_
  intro p e s m args below meth c s₁ B hml hv
  obtain rfl := hv
  have hx := B.exec
  have hb := B.bytes
  have hr := B.returns
  have hts := atoms_spec (ws := wsX0_unsigned) B.pre
  have hown : s.vm.findClass RX0 = some m.cls := findClass_of_methodNamed B.named
  have hlocks := B.notSynchronized
  have hl := lv_entry ([.int a1]) (n := 1) (Nat.le_of_ble_eq_true rfl)
  rw [lg_entry_eq]
  generalize (lg_sl ([.int a1]) ++ List.replicate (1 - (lg_sl ([.int a1])).length) Slot.unset).toArray = ls at hl ⊢
  have hl : lv_has ls 1 [(0, .int a1)] := hl
  refine lv_iload_n hx hb dX0_unsigned_0 rfl (lv_at hl 0 rfl) ?_
  refine lv_i2l (v := a1.toInt64) hx hb dX0_unsigned_1 rfl ?_
  refine lv_ldc2 (v := 4294967295) hx hb hown (hts _ (gcons mK_X0_157)) dX0_unsigned_2 ?_
  refine lv_land hx hb dX0_unsigned_5 ?_
  exact W.lret (v := a1.toInt64 &&& 4294967295) hx hb hr (fun t ht hW => ⟨_, rfl, (by unfold F_unsigned; rfl), ht⟩) (fun _ h => by cases h) dX0_unsigned_6

def F_compare  (a1 : Int32) (a2 : Int32) (a3 : Int32) : Int32 :=
  if a1 = 0 then
    if a2 = a3 then
      1
    else
      0
  else
    if a1 = 4 then
      if a3 ≤ a2 then
        0
      else
        1
    else
      if 0 ≤ (lg_cmp (F_unsigned a2) (F_unsigned a3)) then
        0
      else
        1
set_option maxHeartbeats 4000000 in
set_option maxRecDepth 100000 in
theorem c_compare (l : Launch) (a1 : Int32) (a2 : Int32) (a3 : Int32) : Met l yX0_compare wsX0_compare ({ frames := 1, cells := 0, slots := 0, locals := 20 }) (fun v _ => v = ([.int a1, .int a2, .int a3] : List Value).toArray) (vp_Si (fun r : Int32 => narrow .boolean (.int r) = .int r ∧ r = F_compare a1 a2 a3)) 0 0 (fun _ => False) := by
  refine Met.ofW (cc := cX0_compare) (maxL := 3) (ret := (some .boolean)) (by decide) rfl ?_
  intro p e s m args below meth c s₁ B hml hv
  obtain rfl := hv
  have hx := B.exec
  have hb := B.bytes
  have hr := B.returns
  have hts := atoms_spec (ws := wsX0_compare) B.pre
  have hown : s.vm.findClass RX0 = some m.cls := findClass_of_methodNamed B.named
  have hlocks := B.notSynchronized
  have hl := lv_entry ([.int a1, .int a2, .int a3]) (n := 3) (Nat.le_of_ble_eq_true rfl)
  rw [lg_entry_eq]
  generalize (lg_sl ([.int a1, .int a2, .int a3]) ++ List.replicate (3 - (lg_sl ([.int a1, .int a2, .int a3])).length) Slot.unset).toArray = ls at hl ⊢
  have hl : lv_has ls 3 [(0, .int a1), (1, .int a2), (2, .int a3)] := hl
  refine lv_iload_n hx hb dX0_compare_0 rfl (lv_at hl 0 rfl) ?_
  by_cases c_1 : a1 = 0
  · refine lv_lookup (tgt := 28) (off := 27) hx hb dX0_compare_1 (by decide) (by rw [c_1] <;> rfl) (by decide) ?_
    refine lv_iload_n hx hb dX0_compare_28 rfl (lv_at hl 1 rfl) ?_
    refine lv_iload_n hx hb dX0_compare_29 rfl (lv_at hl 2 rfl) ?_
    refine lv_icmp_ne (tgt := 37) hx hb dX0_compare_30 (by decide) (fun c_2 => ?_) (fun c_2 => ?_)
    · refine lv_iconst (v := 0) hx hb dX0_compare_37 (by decide) ?_
      exact W.zret (v := 0) (ty := .boolean) hx hb hr rfl (fun t ht hW => ⟨_, rfl, ⟨rfl, (by unfold F_compare; rw [if_pos c_1, if_neg c_2])⟩, ht⟩) (fun _ h => by cases h) dX0_compare_38
    · refine lv_iconst (v := 1) hx hb dX0_compare_33 (by decide) ?_
      refine lv_goto (tgt := 38) hx hb dX0_compare_34 (by decide) ?_
      exact W.zret (v := 1) (ty := .boolean) hx hb hr rfl (fun t ht hW => ⟨_, rfl, ⟨rfl, (by unfold F_compare; rw [if_pos c_1, if_pos c_2])⟩, ht⟩) (fun _ h => by cases h) dX0_compare_38
  · by_cases c_3 : a1 = 4
    · refine lv_lookup (tgt := 39) (off := 38) hx hb dX0_compare_1 (by decide) (by rw [c_3] <;> rfl) (by decide) ?_
      refine lv_iload_n hx hb dX0_compare_39 rfl (lv_at hl 1 rfl) ?_
      refine lv_iload_n hx hb dX0_compare_40 rfl (lv_at hl 2 rfl) ?_
      refine lv_icmp_ge (tgt := 48) hx hb dX0_compare_41 (by decide) (fun c_4 => ?_) (fun c_4 => ?_)
      · refine lv_iconst (v := 0) hx hb dX0_compare_48 (by decide) ?_
        exact W.zret (v := 0) (ty := .boolean) hx hb hr rfl (fun t ht hW => ⟨_, rfl, ⟨rfl, (by unfold F_compare; rw [if_neg c_1, if_pos c_3, if_pos c_4])⟩, ht⟩) (fun _ h => by cases h) dX0_compare_49
      · refine lv_iconst (v := 1) hx hb dX0_compare_44 (by decide) ?_
        refine lv_goto (tgt := 49) hx hb dX0_compare_45 (by decide) ?_
        exact W.zret (v := 1) (ty := .boolean) hx hb hr rfl (fun t ht hW => ⟨_, rfl, ⟨rfl, (by unfold F_compare; rw [if_neg c_1, if_pos c_3, if_neg c_4])⟩, ht⟩) (fun _ h => by cases h) dX0_compare_49
    · refine lv_lookup (tgt := 50) (off := 49) hx hb dX0_compare_1 (by decide) (by rw [lv_osw c_1 (by decide), lv_osw c_3 (by decide)] <;> rfl) (by decide) ?_
      refine lv_iload_n hx hb dX0_compare_50 rfl (lv_at hl 1 rfl) ?_
      refine vp_callSl (W.runS (As := [.int a2]) (rest := []) ⟨hx, hb, hml, hown, hts⟩ (c_unsigned l a2) (cwS 1 hts (gS mL_X0_159 mS_X0_unsigned mN_X0 mC_X0_unsigned) rfl rfl rfl (by decide +kernel) ⟨Nat.le_of_ble_eq_true rfl, Nat.le_of_ble_eq_true rfl⟩) preEq rfl rfl hl.1 rfl (lv_room (Nat.le_of_ble_eq_true rfl)) dX0_compare_51 ⟨Nat.zero_le _, Nat.zero_le _⟩) (fun r_5 hw => ?_)
      subst hw
      refine lv_iload_n hx hb dX0_compare_54 rfl (lv_at hl 2 rfl) ?_
      refine vp_callSl (W.runS (As := [.int a3]) (rest := [.long (F_unsigned a2)]) ⟨hx, hb, hml, hown, hts⟩ (c_unsigned l a3) (cwS 1 hts (gS mL_X0_159 mS_X0_unsigned mN_X0 mC_X0_unsigned) rfl rfl rfl (by decide +kernel) ⟨Nat.le_of_ble_eq_true rfl, Nat.le_of_ble_eq_true rfl⟩) preEq rfl rfl hl.1 rfl (lv_room (Nat.le_of_ble_eq_true rfl)) dX0_compare_55 ⟨Nat.zero_le _, Nat.zero_le _⟩) (fun r_6 hw => ?_)
      subst hw
      refine W.lcmp hx hb dX0_compare_58 ?_
      refine lv_if_ge (tgt := 66) hx hb dX0_compare_59 (by decide) (fun c_7 => ?_) (fun c_7 => ?_)
      · refine lv_iconst (v := 0) hx hb dX0_compare_66 (by decide) ?_
        exact W.zret (v := 0) (ty := .boolean) hx hb hr rfl (fun t ht hW => ⟨_, rfl, ⟨rfl, (by unfold F_compare; rw [if_neg c_1, if_neg c_3, if_pos c_7])⟩, ht⟩) (fun _ h => by cases h) dX0_compare_67
      · refine lv_iconst (v := 1) hx hb dX0_compare_62 (by decide) ?_
        refine lv_goto (tgt := 67) hx hb dX0_compare_63 (by decide) ?_
        exact W.zret (v := 1) (ty := .boolean) hx hb hr rfl (fun t ht hW => ⟨_, rfl, ⟨rfl, (by unfold F_compare; rw [if_neg c_1, if_neg c_3, if_neg c_7])⟩, ht⟩) (fun _ h => by cases h) dX0_compare_67

def F_narrow  (a1 : Int32) (a2 : Int32) : Int32 :=
  if a1 = 0 then
    a2.toInt8.toInt32
  else
    if a1 = 1 then
      a2.toInt16.toInt32
    else
      if a1 = 2 then
        a2
      else
        if a1 = 3 then
          a2
        else
          if a1 = 4 then
            a2 &&& 255
          else
            if a1 = 5 then
              a2 &&& 65535
            else
              a2
set_option maxHeartbeats 4000000 in
set_option maxRecDepth 100000 in
theorem c_narrow (l : Launch) (a1 : Int32) (a2 : Int32) : Met l yX0_narrow wsX0_narrow ({ frames := 0, cells := 0, slots := 0, locals := 0 }) (fun v _ => v = ([.int a1, .int a2] : List Value).toArray) (vp_Si (fun r : Int32 => r = F_narrow a1 a2)) 0 0 (fun _ => False) := by
  refine Met.ofW (cc := cX0_narrow) (maxL := 2) (ret := (some .int)) (by decide) rfl ?_
  intro p e s m args below meth c s₁ B hml hv
  obtain rfl := hv
  have hx := B.exec
  have hb := B.bytes
  have hr := B.returns
  have hts := atoms_spec (ws := wsX0_narrow) B.pre
  have hown : s.vm.findClass RX0 = some m.cls := findClass_of_methodNamed B.named
  have hlocks := B.notSynchronized
  have hl := lv_entry ([.int a1, .int a2]) (n := 2) (Nat.le_of_ble_eq_true rfl)
  rw [lg_entry_eq]
  generalize (lg_sl ([.int a1, .int a2]) ++ List.replicate (2 - (lg_sl ([.int a1, .int a2])).length) Slot.unset).toArray = ls at hl ⊢
  have hl : lv_has ls 2 [(0, .int a1), (1, .int a2)] := hl
  refine lv_iload_n hx hb dX0_narrow_0 rfl (lv_at hl 0 rfl) ?_
  by_cases c_1 : a1 = 0
  · refine lv_tableIn (tgt := 40) (off := 39) hx hb dX0_narrow_1 (by rw [c_1]; decide) (by rw [c_1]; decide) (by rw [c_1] <;> rfl) (by decide) ?_
    refine lv_iload_n hx hb dX0_narrow_40 rfl (lv_at hl 1 rfl) ?_
    refine lv_i2b (v := a2.toInt8.toInt32) hx hb dX0_narrow_41 rfl ?_
    exact W.iret (v := a2.toInt8.toInt32) hx hb hr (fun t ht hW => ⟨_, rfl, (by unfold F_narrow; rw [if_pos c_1]), ht⟩) (fun _ h => by cases h) dX0_narrow_42
  · by_cases c_2 : a1 = 1
    · refine lv_tableIn (tgt := 43) (off := 42) hx hb dX0_narrow_1 (by rw [c_2]; decide) (by rw [c_2]; decide) (by rw [c_2] <;> rfl) (by decide) ?_
      refine lv_iload_n hx hb dX0_narrow_43 rfl (lv_at hl 1 rfl) ?_
      refine lv_i2s (v := a2.toInt16.toInt32) hx hb dX0_narrow_44 rfl ?_
      exact W.iret (v := a2.toInt16.toInt32) hx hb hr (fun t ht hW => ⟨_, rfl, (by unfold F_narrow; rw [if_neg c_1, if_pos c_2]), ht⟩) (fun _ h => by cases h) dX0_narrow_45
    · by_cases c_3 : a1 = 2
      · refine lv_tableIn (tgt := 57) (off := 56) hx hb dX0_narrow_1 (by rw [c_3]; decide) (by rw [c_3]; decide) (by rw [c_3] <;> rfl) (by decide) ?_
        refine lv_iload_n hx hb dX0_narrow_57 rfl (lv_at hl 1 rfl) ?_
        exact W.iret (v := a2) hx hb hr (fun t ht hW => ⟨_, rfl, (by unfold F_narrow; rw [if_neg c_1, if_neg c_2, if_pos c_3]), ht⟩) (fun _ h => by cases h) dX0_narrow_58
      · by_cases c_4 : a1 = 3
        · refine lv_tableIn (tgt := 57) (off := 56) hx hb dX0_narrow_1 (by rw [c_4]; decide) (by rw [c_4]; decide) (by rw [c_4] <;> rfl) (by decide) ?_
          refine lv_iload_n hx hb dX0_narrow_57 rfl (lv_at hl 1 rfl) ?_
          exact W.iret (v := a2) hx hb hr (fun t ht hW => ⟨_, rfl, (by unfold F_narrow; rw [if_neg c_1, if_neg c_2, if_neg c_3, if_pos c_4]), ht⟩) (fun _ h => by cases h) dX0_narrow_58
        · by_cases c_5 : a1 = 4
          · refine lv_tableIn (tgt := 46) (off := 45) hx hb dX0_narrow_1 (by rw [c_5]; decide) (by rw [c_5]; decide) (by rw [c_5] <;> rfl) (by decide) ?_
            refine lv_iload_n hx hb dX0_narrow_46 rfl (lv_at hl 1 rfl) ?_
            refine lv_sipush (v := 255) hx hb dX0_narrow_47 (by decide) ?_
            refine lv_iand hx hb dX0_narrow_50 ?_
            exact W.iret (v := a2 &&& 255) hx hb hr (fun t ht hW => ⟨_, rfl, (by unfold F_narrow; rw [if_neg c_1, if_neg c_2, if_neg c_3, if_neg c_4, if_pos c_5]), ht⟩) (fun _ h => by cases h) dX0_narrow_51
          · by_cases c_6 : a1 = 5
            · refine lv_tableIn (tgt := 52) (off := 51) hx hb dX0_narrow_1 (by rw [c_6]; decide) (by rw [c_6]; decide) (by rw [c_6] <;> rfl) (by decide) ?_
              refine lv_iload_n hx hb dX0_narrow_52 rfl (lv_at hl 1 rfl) ?_
              refine lv_ldc (v := 65535) hx hb hown (hts _ (gcons mK_X0_163)) dX0_narrow_53 ?_
              refine lv_iand hx hb dX0_narrow_55 ?_
              exact W.iret (v := a2 &&& 65535) hx hb hr (fun t ht hW => ⟨_, rfl, (by unfold F_narrow; rw [if_neg c_1, if_neg c_2, if_neg c_3, if_neg c_4, if_neg c_5, if_pos c_6]), ht⟩) (fun _ h => by cases h) dX0_narrow_56
            · have tc_1 := lv_neT (a := 0) c_1 (by decide)
              have tc_2 := lv_neT (a := 1) c_2 (by decide)
              have tc_3 := lv_neT (a := 2) c_3 (by decide)
              have tc_4 := lv_neT (a := 3) c_4 (by decide)
              have tc_5 := lv_neT (a := 4) c_5 (by decide)
              have tc_6 := lv_neT (a := 5) c_6 (by decide)
              refine lv_tableOut (tgt := 57) hx hb dX0_narrow_1 (by omega) (by decide) ?_
              refine lv_iload_n hx hb dX0_narrow_57 rfl (lv_at hl 1 rfl) ?_
              exact W.iret (v := a2) hx hb hr (fun t ht hW => ⟨_, rfl, (by unfold F_narrow; rw [if_neg c_1, if_neg c_2, if_neg c_3, if_neg c_4, if_neg c_5, if_neg c_6]), ht⟩) (fun _ h => by cases h) dX0_narrow_58

def F_compute  (a1 : Int32) (a2 : Int32) (a3 : Int32) : Int32 :=
  if a1 = 0 then
    a2 + a3
  else
    if a1 = 1 then
      a2 <<< ((a3 &&& 31) &&& 31)
    else
      if a1 = 2 then
        if a3 ≤ a2 then
          0
        else
          1
      else
        if a1 = 3 then
          if 0 ≤ (lg_cmp (F_unsigned a2) (F_unsigned a3)) then
            0
          else
            1
        else
          if a1 = 4 then
            a2 ^^^ a3
          else
            if a1 = 5 then
              (a2.toUInt32 >>> ((a3 &&& 31).toUInt32 &&& Int32.toUInt32 31)).toInt32
            else
              if a1 = 6 then
                a2 ||| a3
              else
                a2 &&& a3
set_option maxHeartbeats 4000000 in
set_option maxRecDepth 100000 in
theorem c_compute (l : Launch) (a1 : Int32) (a2 : Int32) (a3 : Int32) : Met l yX0_compute wsX0_compute ({ frames := 1, cells := 0, slots := 0, locals := 20 }) (fun v _ => v = ([.int a1, .int a2, .int a3] : List Value).toArray) (vp_Si (fun r : Int32 => r = F_compute a1 a2 a3)) 0 0 (fun _ => False) := by
  refine Met.ofW (cc := cX0_compute) (maxL := 3) (ret := (some .int)) (by decide) rfl ?_
  intro p e s m args below meth c s₁ B hml hv
  obtain rfl := hv
  have hx := B.exec
  have hb := B.bytes
  have hr := B.returns
  have hts := atoms_spec (ws := wsX0_compute) B.pre
  have hown : s.vm.findClass RX0 = some m.cls := findClass_of_methodNamed B.named
  have hlocks := B.notSynchronized
  have hl := lv_entry ([.int a1, .int a2, .int a3]) (n := 3) (Nat.le_of_ble_eq_true rfl)
  rw [lg_entry_eq]
  generalize (lg_sl ([.int a1, .int a2, .int a3]) ++ List.replicate (3 - (lg_sl ([.int a1, .int a2, .int a3])).length) Slot.unset).toArray = ls at hl ⊢
  have hl : lv_has ls 3 [(0, .int a1), (1, .int a2), (2, .int a3)] := hl
  refine lv_iload_n hx hb dX0_compute_0 rfl (lv_at hl 0 rfl) ?_
  by_cases c_1 : a1 = 0
  · refine lv_tableIn (tgt := 44) (off := 43) hx hb dX0_compute_1 (by rw [c_1]; decide) (by rw [c_1]; decide) (by rw [c_1] <;> rfl) (by decide) ?_
    refine lv_iload_n hx hb dX0_compute_44 rfl (lv_at hl 1 rfl) ?_
    refine lv_iload_n hx hb dX0_compute_45 rfl (lv_at hl 2 rfl) ?_
    refine lv_iadd hx hb dX0_compute_46 ?_
    exact W.iret (v := a2 + a3) hx hb hr (fun t ht hW => ⟨_, rfl, (by unfold F_compute; rw [if_pos c_1]), ht⟩) (fun _ h => by cases h) dX0_compute_47
  · by_cases c_2 : a1 = 1
    · refine lv_tableIn (tgt := 48) (off := 47) hx hb dX0_compute_1 (by rw [c_2]; decide) (by rw [c_2]; decide) (by rw [c_2] <;> rfl) (by decide) ?_
      refine lv_iload_n hx hb dX0_compute_48 rfl (lv_at hl 1 rfl) ?_
      refine lv_iload_n hx hb dX0_compute_49 rfl (lv_at hl 2 rfl) ?_
      refine lv_bipush (v := 31) hx hb dX0_compute_50 (by decide) ?_
      refine lv_iand hx hb dX0_compute_52 ?_
      refine lv_ishl hx hb dX0_compute_53 ?_
      exact W.iret (v := a2 <<< ((a3 &&& 31) &&& 31)) hx hb hr (fun t ht hW => ⟨_, rfl, (by unfold F_compute; rw [if_neg c_1, if_pos c_2]), ht⟩) (fun _ h => by cases h) dX0_compute_54
    · by_cases c_3 : a1 = 2
      · refine lv_tableIn (tgt := 55) (off := 54) hx hb dX0_compute_1 (by rw [c_3]; decide) (by rw [c_3]; decide) (by rw [c_3] <;> rfl) (by decide) ?_
        refine lv_iload_n hx hb dX0_compute_55 rfl (lv_at hl 1 rfl) ?_
        refine lv_iload_n hx hb dX0_compute_56 rfl (lv_at hl 2 rfl) ?_
        refine lv_icmp_ge (tgt := 64) hx hb dX0_compute_57 (by decide) (fun c_4 => ?_) (fun c_4 => ?_)
        · refine lv_iconst (v := 0) hx hb dX0_compute_64 (by decide) ?_
          exact W.iret (v := 0) hx hb hr (fun t ht hW => ⟨_, rfl, (by unfold F_compute; rw [if_neg c_1, if_neg c_2, if_pos c_3, if_pos c_4]), ht⟩) (fun _ h => by cases h) dX0_compute_65
        · refine lv_iconst (v := 1) hx hb dX0_compute_60 (by decide) ?_
          refine lv_goto (tgt := 65) hx hb dX0_compute_61 (by decide) ?_
          exact W.iret (v := 1) hx hb hr (fun t ht hW => ⟨_, rfl, (by unfold F_compute; rw [if_neg c_1, if_neg c_2, if_pos c_3, if_neg c_4]), ht⟩) (fun _ h => by cases h) dX0_compute_65
      · by_cases c_5 : a1 = 3
        · refine lv_tableIn (tgt := 66) (off := 65) hx hb dX0_compute_1 (by rw [c_5]; decide) (by rw [c_5]; decide) (by rw [c_5] <;> rfl) (by decide) ?_
          refine lv_iload_n hx hb dX0_compute_66 rfl (lv_at hl 1 rfl) ?_
          refine vp_callSl (W.runS (As := [.int a2]) (rest := []) ⟨hx, hb, hml, hown, hts⟩ (c_unsigned l a2) (cwS 1 hts (gS mL_X0_159 mS_X0_unsigned mN_X0 mC_X0_unsigned) rfl rfl rfl (by decide +kernel) ⟨Nat.le_of_ble_eq_true rfl, Nat.le_of_ble_eq_true rfl⟩) preEq rfl rfl hl.1 rfl (lv_room (Nat.le_of_ble_eq_true rfl)) dX0_compute_67 ⟨Nat.zero_le _, Nat.zero_le _⟩) (fun r_6 hw => ?_)
          subst hw
          refine lv_iload_n hx hb dX0_compute_70 rfl (lv_at hl 2 rfl) ?_
          refine vp_callSl (W.runS (As := [.int a3]) (rest := [.long (F_unsigned a2)]) ⟨hx, hb, hml, hown, hts⟩ (c_unsigned l a3) (cwS 1 hts (gS mL_X0_159 mS_X0_unsigned mN_X0 mC_X0_unsigned) rfl rfl rfl (by decide +kernel) ⟨Nat.le_of_ble_eq_true rfl, Nat.le_of_ble_eq_true rfl⟩) preEq rfl rfl hl.1 rfl (lv_room (Nat.le_of_ble_eq_true rfl)) dX0_compute_71 ⟨Nat.zero_le _, Nat.zero_le _⟩) (fun r_7 hw => ?_)
          subst hw
          refine W.lcmp hx hb dX0_compute_74 ?_
          refine lv_if_ge (tgt := 82) hx hb dX0_compute_75 (by decide) (fun c_8 => ?_) (fun c_8 => ?_)
          · refine lv_iconst (v := 0) hx hb dX0_compute_82 (by decide) ?_
            exact W.iret (v := 0) hx hb hr (fun t ht hW => ⟨_, rfl, (by unfold F_compute; rw [if_neg c_1, if_neg c_2, if_neg c_3, if_pos c_5, if_pos c_8]), ht⟩) (fun _ h => by cases h) dX0_compute_83
          · refine lv_iconst (v := 1) hx hb dX0_compute_78 (by decide) ?_
            refine lv_goto (tgt := 83) hx hb dX0_compute_79 (by decide) ?_
            exact W.iret (v := 1) hx hb hr (fun t ht hW => ⟨_, rfl, (by unfold F_compute; rw [if_neg c_1, if_neg c_2, if_neg c_3, if_pos c_5, if_neg c_8]), ht⟩) (fun _ h => by cases h) dX0_compute_83
        · by_cases c_9 : a1 = 4
          · refine lv_tableIn (tgt := 84) (off := 83) hx hb dX0_compute_1 (by rw [c_9]; decide) (by rw [c_9]; decide) (by rw [c_9] <;> rfl) (by decide) ?_
            refine lv_iload_n hx hb dX0_compute_84 rfl (lv_at hl 1 rfl) ?_
            refine lv_iload_n hx hb dX0_compute_85 rfl (lv_at hl 2 rfl) ?_
            refine lv_ixor hx hb dX0_compute_86 ?_
            exact W.iret (v := a2 ^^^ a3) hx hb hr (fun t ht hW => ⟨_, rfl, (by unfold F_compute; rw [if_neg c_1, if_neg c_2, if_neg c_3, if_neg c_5, if_pos c_9]), ht⟩) (fun _ h => by cases h) dX0_compute_87
          · by_cases c_10 : a1 = 5
            · refine lv_tableIn (tgt := 88) (off := 87) hx hb dX0_compute_1 (by rw [c_10]; decide) (by rw [c_10]; decide) (by rw [c_10] <;> rfl) (by decide) ?_
              refine lv_iload_n hx hb dX0_compute_88 rfl (lv_at hl 1 rfl) ?_
              refine lv_iload_n hx hb dX0_compute_89 rfl (lv_at hl 2 rfl) ?_
              refine lv_bipush (v := 31) hx hb dX0_compute_90 (by decide) ?_
              refine lv_iand hx hb dX0_compute_92 ?_
              refine lv_iushr (v := (a2.toUInt32 >>> ((a3 &&& 31).toUInt32 &&& Int32.toUInt32 31)).toInt32) hx hb dX0_compute_93 rfl ?_
              exact W.iret (v := (a2.toUInt32 >>> ((a3 &&& 31).toUInt32 &&& Int32.toUInt32 31)).toInt32) hx hb hr (fun t ht hW => ⟨_, rfl, (by unfold F_compute; rw [if_neg c_1, if_neg c_2, if_neg c_3, if_neg c_5, if_neg c_9, if_pos c_10]), ht⟩) (fun _ h => by cases h) dX0_compute_94
            · by_cases c_11 : a1 = 6
              · refine lv_tableIn (tgt := 95) (off := 94) hx hb dX0_compute_1 (by rw [c_11]; decide) (by rw [c_11]; decide) (by rw [c_11] <;> rfl) (by decide) ?_
                refine lv_iload_n hx hb dX0_compute_95 rfl (lv_at hl 1 rfl) ?_
                refine lv_iload_n hx hb dX0_compute_96 rfl (lv_at hl 2 rfl) ?_
                refine lv_ior hx hb dX0_compute_97 ?_
                exact W.iret (v := a2 ||| a3) hx hb hr (fun t ht hW => ⟨_, rfl, (by unfold F_compute; rw [if_neg c_1, if_neg c_2, if_neg c_3, if_neg c_5, if_neg c_9, if_neg c_10, if_pos c_11]), ht⟩) (fun _ h => by cases h) dX0_compute_98
              · have tc_1 := lv_neT (a := 0) c_1 (by decide)
                have tc_2 := lv_neT (a := 1) c_2 (by decide)
                have tc_3 := lv_neT (a := 2) c_3 (by decide)
                have tc_5 := lv_neT (a := 3) c_5 (by decide)
                have tc_9 := lv_neT (a := 4) c_9 (by decide)
                have tc_10 := lv_neT (a := 5) c_10 (by decide)
                have tc_11 := lv_neT (a := 6) c_11 (by decide)
                refine lv_tableOut (tgt := 99) hx hb dX0_compute_1 (by omega) (by decide) ?_
                refine lv_iload_n hx hb dX0_compute_99 rfl (lv_at hl 1 rfl) ?_
                refine lv_iload_n hx hb dX0_compute_100 rfl (lv_at hl 2 rfl) ?_
                refine lv_iand hx hb dX0_compute_101 ?_
                exact W.iret (v := a2 &&& a3) hx hb hr (fun t ht hW => ⟨_, rfl, (by unfold F_compute; rw [if_neg c_1, if_neg c_2, if_neg c_3, if_neg c_5, if_neg c_9, if_neg c_10, if_neg c_11]), ht⟩) (fun _ h => by cases h) dX0_compute_102

def F_upperHalf  (a1 : Int64) : Int32 :=
  ((a1.toUInt64 >>> ((32 : Int32).toInt64.toUInt64 &&& Int64.toUInt64 63)).toInt64).toInt32
set_option maxHeartbeats 4000000 in
set_option maxRecDepth 100000 in
theorem c_upperHalf (l : Launch) (a1 : Int64) : Met l yX0_upperHalf wsX0_upperHalf ({ frames := 0, cells := 0, slots := 0, locals := 0 }) (fun v _ => v = ([.long a1] : List Value).toArray) (vp_Si (fun r : Int32 => r = F_upperHalf a1)) 0 0 (fun _ => False) := by
  refine Met.ofW (cc := cX0_upperHalf) (maxL := 2) (ret := (some .int)) (by decide) rfl ?_
  intro p e s m args below meth c s₁ B hml hv
  obtain rfl := hv
  have hx := B.exec
  have hb := B.bytes
  have hr := B.returns
  have hts := atoms_spec (ws := wsX0_upperHalf) B.pre
  have hown : s.vm.findClass RX0 = some m.cls := findClass_of_methodNamed B.named
  have hlocks := B.notSynchronized
  have hl := lv_entry ([.long a1]) (n := 2) (Nat.le_of_ble_eq_true rfl)
  rw [lg_entry_eq]
  generalize (lg_sl ([.long a1]) ++ List.replicate (2 - (lg_sl ([.long a1])).length) Slot.unset).toArray = ls at hl ⊢
  have hl : lv_has ls 2 [(0, .long a1)] := hl
  refine lv_lload_n hx hb dX0_upperHalf_0 rfl (lv_at hl 0 rfl) ?_
  refine lv_bipush (v := 32) hx hb dX0_upperHalf_1 (by decide) ?_
  refine lv_lushr (v := (a1.toUInt64 >>> ((32 : Int32).toInt64.toUInt64 &&& Int64.toUInt64 63)).toInt64) hx hb dX0_upperHalf_3 rfl ?_
  refine lv_l2i (v := ((a1.toUInt64 >>> ((32 : Int32).toInt64.toUInt64 &&& Int64.toUInt64 63)).toInt64).toInt32) hx hb dX0_upperHalf_4 rfl ?_
  exact W.iret (v := ((a1.toUInt64 >>> ((32 : Int32).toInt64.toUInt64 &&& Int64.toUInt64 63)).toInt64).toInt32) hx hb hr (fun t ht hW => ⟨_, rfl, (by unfold F_upperHalf; rfl), ht⟩) (fun _ h => by cases h) dX0_upperHalf_5
