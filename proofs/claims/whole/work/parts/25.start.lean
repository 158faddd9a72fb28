theorem lst_U : Cond.laysStatic Bundle.tN "UNASSIGNED_STACK" Bundle.steD ∈ lw_tbl := by decide +kernel
theorem lst_N : Cond.laysStatic Bundle.tN "SUPPRESSED_SENTINEL" Bundle.listD ∈ lw_tbl := by decide +kernel
theorem lst_T : Cond.initialized Bundle.tN ∈ lw_tbl := by decide +kernel
theorem lst_S : Cond.stringRef RX0 53 "n is not 0 .. 2000" ∈ lw_tbl := by decide +kernel
theorem inv_start : Inv (fun _ => 0) (upd (upd (upd (upd (fun _ => 0) 0 7) 1 7) 2 7) 3 7) (fun _ => 0) 0 (-1) 0 0 (fun _ => 0) (upd (upd (upd (upd (fun _ => 0) 0 7) 1 7) 2 7) 3 7) (fun _ => 0) 0 (-1) 0 0 := ⟨fun _ _ _ _ => by rw [b_0, b_0], rfl, rfl, rfl, rfl, rfl, rfl, rfl, rg_start⟩
set_option maxHeartbeats 8000000 in
set_option maxRecDepth 100000 in
/-- THE LAW, from its entry -/
theorem whole_start {p : Program} {e : Env} {s : State} {m : MethodId} {below : List Frame} {meth : Method} {c : Code} (l : Launch) (hst : l.stackTraces = false) {b L : Nat} {xs : Nat → Int32} (hL : L ≤ 2560) (C0 : lw_At p s m meth c b L xs) : W p l e room_1 s m #[Value.ref b] below meth c s.heap [] 0 0 (lw_Z below #[Value.ref b] s) (entryFrame m ([Value.ref b] : List Value).toArray 7) := by
  obtain ⟨hx, hb, hr, hml, hown, hts, hX, hbl, hlocks, hgv⟩ := id C0
  have hA : ∀ q : Nat, s.heap.size ≤ q → (fun q : Nat => s.heap.size ≤ q) q := fun _ h => h
  have hbA : ¬ (fun q : Nat => s.heap.size ≤ q) b := Nat.not_le.mpr hbl
  obtain ⟨k0, iS0, hKn0⟩ := u_known (C := RX0) (T := TX0) (N := 7) (n := 7) hts (fun w h => gw_tbl (lay_X0 w h)) (hts _ (gw_tbl mO_X0))
  obtain ⟨k1, iS1, hKn1⟩ := u_known (C := RX1) (T := TX1) (N := 12) (n := 12) hts (fun w h => gw_tbl (lay_X1 w h)) (hts _ (gw_tbl mO_X1))
  have hfc : s.vm.findClass RX0 = some k0 := hKn0.2.1
  have hgs := flat_of_before _ hgv
  have hzU : vx_Zq Bundle.tN "UNASSIGNED_STACK" Bundle.steD (fun q : Nat => s.heap.size ≤ q) s s.heap := vx_Zqof (hts _ (lst_U)) (hts _ (lst_T)) (hgs _ (by decide +kernel)) (fun a h => Nat.not_le.mpr h)
  have hzN : vx_Zq Bundle.tN "SUPPRESSED_SENTINEL" Bundle.listD (fun q : Nat => s.heap.size ≤ q) s s.heap := vx_Zqof (hts _ (lst_N)) (hts _ (lst_T)) (hgs _ (by decide +kernel)) (fun a h => Nat.not_le.mpr h)
  have hcast : xBs s := xBs_of (fun w h => hts w (xB_tbl w h))
  obtain ⟨-, -, -, sa, -, -, -, -, -, hev⟩ := Cond.stringRef_spec hfc (hts (.stringRef RX0 53 "n is not 0 .. 2000") lst_S)
  have hstr : vk_R RX0 53 "n is not 0 .. 2000" sa s := vk_R.of (hts (.stringRef RX0 53 "n is not 0 .. 2000") lst_S) hev
  obtain ⟨dC, dI, hKc⟩ : ∃ (dC : Nat → ClassId) (dI : Nat → Nat → Nat), ∀ (k : Nat) (q : vw_C), vwCl[k]? = some q → u_Kn s q.1 q.2.1 q.2.2 (dC k) (dI k) := by
    refine ⟨fun k => if k = 0 then k0 else k1, fun k => if k = 0 then iS0 else iS1, ?_⟩
    intro k q hq
    match k, hq with
    | 0, hq => cases hq; exact hKn0
    | 1, hq => cases hq; exact hKn1
    | k + 2, hq => simp [vwCl] at hq
  have hS : va_S (fun q : Nat => s.heap.size ≤ q) s.heap s.heap [] := va_S.rf
  have hK : va_K (dC, dI) vwCl [] s := ⟨hKc, fun k q h => by simp at h⟩
  have hP : va_P (dC, dI) vwCl [] s.heap := fun k q h => by simp at h
  have hD : va_D (fun q : Nat => s.heap.size ≤ q) [] := ⟨fun i j p q h => by simp at h, fun k q h => by simp at h⟩
  have hl := lv_entry ([.ref b]) (n := 7) (Nat.le_of_ble_eq_true rfl)
  rw [lg_entry_eq]
  generalize (lg_sl ([.ref b]) ++ List.replicate (7 - (lg_sl ([.ref b])).length) Slot.unset).toArray = ls at hl ⊢
  have hl : lv_has ls 7 [(0, .ref b)] := hl
  refine va_new (ci := 0) (fs := [.null, .null, .null, .int 0, .int 0, .int 0, .int 0]) (C := RX0) (T := TX0) (N := 7) hx hb hts (fun w h => gw_tbl (lay_X0 w h)) tyX0 tyX0_ok hown (hts _ (gw_tbl mT_L_8)) (hts _ (gw_tbl mO_X0)) (hts _ (gw_tbl mN_X0)) hK hP hD hS hA rfl (fun j hj => by rcases (show j = 0 ∨ j = 1 ∨ j = 2 ∨ j = 3 ∨ j = 4 ∨ j = 5 ∨ j = 6 by omega) with rfl | rfl | rfl | rfl | rfl | rfl | rfl <;> rfl) (Nat.le_of_ble_eq_true rfl) (Nat.le_of_ble_eq_true rfl) dL_law_0 (fun x0 H hP hD hS => ?_)
  have hP : va_P (dC, dI) vwCl [(x0, .inr (0, [.null, .null, .null, .int 0, .int 0, .int 0, .int 0]))] H := hP
  have hD : va_D (fun q : Nat => s.heap.size ≤ q) [(x0, .inr (0, [.null, .null, .null, .int 0, .int 0, .int 0, .int 0]))] := hD
  refine W.widen (k := 1) (n := 7) (by omega) (by omega) ?_
  refine lv_dup hx hb dL_law_3 rfl ?_
  have hPc := hP.sub (ws' := [(x0, .inr (0, [.null, .null, .null, .int 0, .int 0, .int 0, .int 0]))]) [0] rfl
  have hDc := hD.sub (ws' := [(x0, .inr (0, [.null, .null, .null, .int 0, .int 0, .int 0, .int 0]))]) [0] (by decide) rfl
  have hKc2 := hK.sub (tys' := []) [] rfl
  have hFc := va_free (wc := [(x0, .inr (0, [.null, .null, .null, .int 0, .int 0, .int 0, .int 0]))]) hD hS hA [0] rfl
  refine va_callv (va_runI (As := []) (rest := [.ref x0]) ⟨hx, hb, hml, hown, hts⟩ (c_init0 l dC dI x0 H.size) (cwI 0 hts (gIL mC_X0_init) rfl rfl rfl (hts _ (gw_tbl mN_X0)) (hts _ (gw_tbl mL_L_15)) (hts _ (gw_tbl mI_X0_init)) rfl (by decide +kernel) ⟨Nat.le_of_ble_eq_true rfl, Nat.le_of_ble_eq_true rfl⟩) ⟨fun a U g mk q => by obtain ⟨q0, q1, qP, qK, qD⟩ := q; exact ⟨q0, q1, qP, va_K.moved (u := U) (U := U.calling g mk a) (Vm.Alike.refl U.vm) qK, qD⟩, fun U hU hW => ⟨rfl, by rw [hU], by rw [hU]; exact hPc, va_K.moved hW.alike hKc2, hDc.weaken (fun _ _ _ _ => trivial)⟩⟩ rfl rfl hl.1 rfl (lv_room (Nat.le_of_ble_eq_true rfl)) dL_law_4 ⟨Nat.le_of_ble_eq_true rfl, Nat.le_of_ble_eq_true rfl⟩) hS (fun q _ h => hFc q h) hFc (fun u0 t H1 locs ht hvm hw hB hz1 hk1 hS => ?_)
  obtain ⟨hP1, hK1, hD1⟩ := hB
  rw [ht] at hP1
  have hK1 := va_K.moved hvm.symm hK1
  obtain ⟨hP, hD⟩ := va_join (wr := []) (w1 := [(x0, .inr (0, [.ref u0.1, .ref u0.2.1, .ref u0.2.2.1, .int 0, .int ((-1)), .int 0, .int 0])), (u0.1, .inl (u0.2.2.2.1, 4096, .inl (fun _ => 0))), (u0.2.1, .inl (u0.2.2.2.2.1, 4, .inl (upd (upd (upd (upd (fun _ => 0) 0 7) 1 7) 2 7) 3 7))), (u0.2.2.1, .inl (u0.2.2.2.2.2, 32, .inl (fun _ => 0)))]) hP hD [0] [] rfl rfl (by decide) (by decide) hk1 hFc hP1 hD1
  have hK := (hK.sub (tys' := []) [] rfl).app hK1
  generalize H1 = H at hP hS ⊢
  have hP : va_P (dC, dI) vwCl [(x0, .inr (0, [.ref u0.1, .ref u0.2.1, .ref u0.2.2.1, .int 0, .int ((-1)), .int 0, .int 0])), (u0.1, .inl (u0.2.2.2.1, 4096, .inl (fun _ => 0))), (u0.2.1, .inl (u0.2.2.2.2.1, 4, .inl (upd (upd (upd (upd (fun _ => 0) 0 7) 1 7) 2 7) 3 7))), (u0.2.2.1, .inl (u0.2.2.2.2.2, 32, .inl (fun _ => 0)))] H := hP
  have hD : va_D (fun q : Nat => s.heap.size ≤ q) [(x0, .inr (0, [.ref u0.1, .ref u0.2.1, .ref u0.2.2.1, .int 0, .int ((-1)), .int 0, .int 0])), (u0.1, .inl (u0.2.2.2.1, 4096, .inl (fun _ => 0))), (u0.2.1, .inl (u0.2.2.2.2.1, 4, .inl (upd (upd (upd (upd (fun _ => 0) 0 7) 1 7) 2 7) 3 7))), (u0.2.2.1, .inl (u0.2.2.2.2.2, 32, .inl (fun _ => 0)))] := hD
  have hK : va_K (dC, dI) vwCl [(u0.2.2.2.1, .int), (u0.2.2.2.2.1, .int), (u0.2.2.2.2.2, .int)] s := hK
  refine W.widen (k := 4) (n := 4139) (by omega) (by omega) ?_
  refine lv_astore_n (lv' := [(1, .ref x0), (0, .ref b)]) hx hb dL_law_7 rfl hl (by decide) rfl (fun ls hl => ?_)
  refine va_new (ci := 1) (fs := [.int 0, .null, .null, .null, .int 0, .int 0, .int 0, .int 0, .int 0, .int 0, .int 0, .int 0]) (C := RX1) (T := TX1) (N := 12) hx hb hts (fun w h => gw_tbl (lay_X1 w h)) tyX1 tyX1_ok hown (hts _ (gw_tbl mT_L_16)) (hts _ (gw_tbl mO_X1)) (hts _ (gw_tbl mN_X1)) hK hP hD hS hA rfl (fun j hj => by rcases (show j = 0 ∨ j = 1 ∨ j = 2 ∨ j = 3 ∨ j = 4 ∨ j = 5 ∨ j = 6 ∨ j = 7 ∨ j = 8 ∨ j = 9 ∨ j = 10 ∨ j = 11 by omega) with rfl | rfl | rfl | rfl | rfl | rfl | rfl | rfl | rfl | rfl | rfl | rfl <;> rfl) (Nat.le_of_ble_eq_true rfl) (Nat.le_of_ble_eq_true rfl) dL_law_8 (fun y0 H hP hD hS => ?_)
  have hP : va_P (dC, dI) vwCl [(x0, .inr (0, [.ref u0.1, .ref u0.2.1, .ref u0.2.2.1, .int 0, .int ((-1)), .int 0, .int 0])), (u0.1, .inl (u0.2.2.2.1, 4096, .inl (fun _ => 0))), (u0.2.1, .inl (u0.2.2.2.2.1, 4, .inl (upd (upd (upd (upd (fun _ => 0) 0 7) 1 7) 2 7) 3 7))), (u0.2.2.1, .inl (u0.2.2.2.2.2, 32, .inl (fun _ => 0))), (y0, .inr (1, [.int 0, .null, .null, .null, .int 0, .int 0, .int 0, .int 0, .int 0, .int 0, .int 0, .int 0]))] H := hP
  have hD : va_D (fun q : Nat => s.heap.size ≤ q) [(x0, .inr (0, [.ref u0.1, .ref u0.2.1, .ref u0.2.2.1, .int 0, .int ((-1)), .int 0, .int 0])), (u0.1, .inl (u0.2.2.2.1, 4096, .inl (fun _ => 0))), (u0.2.1, .inl (u0.2.2.2.2.1, 4, .inl (upd (upd (upd (upd (fun _ => 0) 0 7) 1 7) 2 7) 3 7))), (u0.2.2.1, .inl (u0.2.2.2.2.2, 32, .inl (fun _ => 0))), (y0, .inr (1, [.int 0, .null, .null, .null, .int 0, .int 0, .int 0, .int 0, .int 0, .int 0, .int 0, .int 0]))] := hD
  refine W.widen (k := 5) (n := 4151) (by omega) (by omega) ?_
  refine lv_dup hx hb dL_law_11 rfl ?_
  have hPc := hP.sub (ws' := [(y0, .inr (1, [.int 0, .null, .null, .null, .int 0, .int 0, .int 0, .int 0, .int 0, .int 0, .int 0, .int 0]))]) [4] rfl
  have hDc := hD.sub (ws' := [(y0, .inr (1, [.int 0, .null, .null, .null, .int 0, .int 0, .int 0, .int 0, .int 0, .int 0, .int 0, .int 0]))]) [4] (by decide) rfl
  have hKc2 := hK.sub (tys' := []) [] rfl
  have hFc := va_free (wc := [(y0, .inr (1, [.int 0, .null, .null, .null, .int 0, .int 0, .int 0, .int 0, .int 0, .int 0, .int 0, .int 0]))]) hD hS hA [4] rfl
  refine va_callv (va_runI (As := []) (rest := [.ref y0]) ⟨hx, hb, hml, hown, hts⟩ (c_init1 l dC dI y0 H.size) (cwI 0 hts (gIL mC_X1_init) rfl rfl rfl (hts _ (gw_tbl mN_X1)) (hts _ (gw_tbl mL_L_18)) (hts _ (gw_tbl mI_X1_init)) rfl (by decide +kernel) ⟨Nat.le_of_ble_eq_true rfl, Nat.le_of_ble_eq_true rfl⟩) ⟨fun a U g mk q => by obtain ⟨q0, q1, qP, qK, qD⟩ := q; exact ⟨q0, q1, qP, va_K.moved (u := U) (U := U.calling g mk a) (Vm.Alike.refl U.vm) qK, qD⟩, fun U hU hW => ⟨rfl, by rw [hU], by rw [hU]; exact hPc, va_K.moved hW.alike hKc2, hDc.weaken (fun _ _ _ _ => trivial)⟩⟩ rfl rfl hl.1 rfl (lv_room (Nat.le_of_ble_eq_true rfl)) dL_law_12 ⟨Nat.le_of_ble_eq_true rfl, Nat.le_of_ble_eq_true rfl⟩) hS (fun q _ h => hFc q h) hFc (fun u1 t H1 locs ht hvm hw hB hz1 hk1 hS => ?_)
  obtain ⟨hP1, hK1, hD1⟩ := hB
  rw [ht] at hP1
  have hK1 := va_K.moved hvm.symm hK1
  obtain ⟨hP, hD⟩ := va_join (wr := [(x0, .inr (0, [.ref u0.1, .ref u0.2.1, .ref u0.2.2.1, .int 0, .int ((-1)), .int 0, .int 0])), (u0.1, .inl (u0.2.2.2.1, 4096, .inl (fun _ => 0))), (u0.2.1, .inl (u0.2.2.2.2.1, 4, .inl (upd (upd (upd (upd (fun _ => 0) 0 7) 1 7) 2 7) 3 7))), (u0.2.2.1, .inl (u0.2.2.2.2.2, 32, .inl (fun _ => 0)))]) (w1 := [(y0, .inr (1, [.int 0, .ref u1.1, .ref u1.2.1, .ref u1.2.2.1, .int 0, .int ((-1)), .int 0, .int 0, .int 0, .int 0, .int 0, .int 0])), (u1.1, .inl (u1.2.2.2.1, 16384, .inl (fun _ => 0))), (u1.2.1, .inl (u1.2.2.2.2.1, 4, .inl (upd (upd (upd (upd (fun _ => 0) 0 7) 1 7) 2 7) 3 7))), (u1.2.2.1, .inl (u1.2.2.2.2.2, 32, .inl (fun _ => 0)))]) hP hD [4] [0, 1, 2, 3] rfl rfl (by decide) (by decide) hk1 hFc hP1 hD1
  have hK := (hK.sub (tys' := [(u0.2.2.2.1, .int), (u0.2.2.2.2.1, .int), (u0.2.2.2.2.2, .int)]) [0, 1, 2] rfl).app hK1
  generalize H1 = H at hP hS ⊢
  have hP : va_P (dC, dI) vwCl [(x0, .inr (0, [.ref u0.1, .ref u0.2.1, .ref u0.2.2.1, .int 0, .int ((-1)), .int 0, .int 0])), (u0.1, .inl (u0.2.2.2.1, 4096, .inl (fun _ => 0))), (u0.2.1, .inl (u0.2.2.2.2.1, 4, .inl (upd (upd (upd (upd (fun _ => 0) 0 7) 1 7) 2 7) 3 7))), (u0.2.2.1, .inl (u0.2.2.2.2.2, 32, .inl (fun _ => 0))), (y0, .inr (1, [.int 0, .ref u1.1, .ref u1.2.1, .ref u1.2.2.1, .int 0, .int ((-1)), .int 0, .int 0, .int 0, .int 0, .int 0, .int 0])), (u1.1, .inl (u1.2.2.2.1, 16384, .inl (fun _ => 0))), (u1.2.1, .inl (u1.2.2.2.2.1, 4, .inl (upd (upd (upd (upd (fun _ => 0) 0 7) 1 7) 2 7) 3 7))), (u1.2.2.1, .inl (u1.2.2.2.2.2, 32, .inl (fun _ => 0)))] H := hP
  have hD : va_D (fun q : Nat => s.heap.size ≤ q) [(x0, .inr (0, [.ref u0.1, .ref u0.2.1, .ref u0.2.2.1, .int 0, .int ((-1)), .int 0, .int 0])), (u0.1, .inl (u0.2.2.2.1, 4096, .inl (fun _ => 0))), (u0.2.1, .inl (u0.2.2.2.2.1, 4, .inl (upd (upd (upd (upd (fun _ => 0) 0 7) 1 7) 2 7) 3 7))), (u0.2.2.1, .inl (u0.2.2.2.2.2, 32, .inl (fun _ => 0))), (y0, .inr (1, [.int 0, .ref u1.1, .ref u1.2.1, .ref u1.2.2.1, .int 0, .int ((-1)), .int 0, .int 0, .int 0, .int 0, .int 0, .int 0])), (u1.1, .inl (u1.2.2.2.1, 16384, .inl (fun _ => 0))), (u1.2.1, .inl (u1.2.2.2.2.1, 4, .inl (upd (upd (upd (upd (fun _ => 0) 0 7) 1 7) 2 7) 3 7))), (u1.2.2.1, .inl (u1.2.2.2.2.2, 32, .inl (fun _ => 0)))] := hD
  have hK : va_K (dC, dI) vwCl [(u0.2.2.2.1, .int), (u0.2.2.2.2.1, .int), (u0.2.2.2.2.2, .int), (u1.2.2.2.1, .byte), (u1.2.2.2.2.1, .int), (u1.2.2.2.2.2, .int)] s := hK
  refine W.widen (k := 8) (n := 20571) (by omega) (by omega) ?_
  refine lv_astore_n (lv' := [(2, .ref y0), (1, .ref x0), (0, .ref b)]) hx hb dL_law_15 rfl hl (by decide) rfl (fun ls hl => ?_)
  refine lv_iconst (v := 1) hx hb dL_law_16 (by decide) ?_
  refine va_newa (atype := .long) (ty := .long) hx hb (hts _ (gw_tbl mA_long)) rfl hK hP hD hS hA (n := 1) (N' := 1) (a0 := (1, .inr (.inl (fun _ => 0)))) (fun _ => rfl) (by decide) (by decide) (by decide) (Nat.le_of_ble_eq_true rfl) (Nat.le_of_ble_eq_true rfl) dL_law_17 (fun xo c4 H hK hP hD hS => ?_)
  have hP : va_P (dC, dI) vwCl [(x0, .inr (0, [.ref u0.1, .ref u0.2.1, .ref u0.2.2.1, .int 0, .int ((-1)), .int 0, .int 0])), (u0.1, .inl (u0.2.2.2.1, 4096, .inl (fun _ => 0))), (u0.2.1, .inl (u0.2.2.2.2.1, 4, .inl (upd (upd (upd (upd (fun _ => 0) 0 7) 1 7) 2 7) 3 7))), (u0.2.2.1, .inl (u0.2.2.2.2.2, 32, .inl (fun _ => 0))), (y0, .inr (1, [.int 0, .ref u1.1, .ref u1.2.1, .ref u1.2.2.1, .int 0, .int ((-1)), .int 0, .int 0, .int 0, .int 0, .int 0, .int 0])), (u1.1, .inl (u1.2.2.2.1, 16384, .inl (fun _ => 0))), (u1.2.1, .inl (u1.2.2.2.2.1, 4, .inl (upd (upd (upd (upd (fun _ => 0) 0 7) 1 7) 2 7) 3 7))), (u1.2.2.1, .inl (u1.2.2.2.2.2, 32, .inl (fun _ => 0))), (xo, .inl (c4, 1, .inr (.inl (fun _ => 0))))] H := hP
  have hD : va_D (fun q : Nat => s.heap.size ≤ q) [(x0, .inr (0, [.ref u0.1, .ref u0.2.1, .ref u0.2.2.1, .int 0, .int ((-1)), .int 0, .int 0])), (u0.1, .inl (u0.2.2.2.1, 4096, .inl (fun _ => 0))), (u0.2.1, .inl (u0.2.2.2.2.1, 4, .inl (upd (upd (upd (upd (fun _ => 0) 0 7) 1 7) 2 7) 3 7))), (u0.2.2.1, .inl (u0.2.2.2.2.2, 32, .inl (fun _ => 0))), (y0, .inr (1, [.int 0, .ref u1.1, .ref u1.2.1, .ref u1.2.2.1, .int 0, .int ((-1)), .int 0, .int 0, .int 0, .int 0, .int 0, .int 0])), (u1.1, .inl (u1.2.2.2.1, 16384, .inl (fun _ => 0))), (u1.2.1, .inl (u1.2.2.2.2.1, 4, .inl (upd (upd (upd (upd (fun _ => 0) 0 7) 1 7) 2 7) 3 7))), (u1.2.2.1, .inl (u1.2.2.2.2.2, 32, .inl (fun _ => 0))), (xo, .inl (c4, 1, .inr (.inl (fun _ => 0))))] := hD
  have hK : va_K (dC, dI) vwCl [(u0.2.2.2.1, .int), (u0.2.2.2.2.1, .int), (u0.2.2.2.2.2, .int), (u1.2.2.2.1, .byte), (u1.2.2.2.2.1, .int), (u1.2.2.2.2.2, .int), (c4, .long)] s := hK
  refine W.widen (k := 9) (n := 20572) (by omega) (by omega) ?_
  refine lv_astore_n (lv' := [(3, .ref xo), (2, .ref y0), (1, .ref x0), (0, .ref b)]) hx hb dL_law_19 rfl hl (by decide) rfl (fun ls hl => ?_)
  refine lv_iconst (v := 0) hx hb dL_law_20 (by decide) ?_
  refine lv_istore (lv' := [(4, .int 0), (3, .ref xo), (2, .ref y0), (1, .ref x0), (0, .ref b)]) hx hb dL_law_21 hl (by decide) rfl (fun ls hl => ?_)
  exact law_loop hst hL C0 hzU hzN hstr hcast hK (L + 1) 0 (by omega) (by omega) _ _ _ _ _ _ _ _ _ _ _ _ _ _ _ _ _ _ _ _ inv_start H _ hP hD hS ls (lv_sub hl [0, 4, 3, 2, 1] rfl)
