/-- the words of an exception's making that a warmed table may lose: premises of their own -/
def xB : List Cond := [.castable "java/lang/IllegalArgumentException" "java/lang/IllegalArgumentException", .declares ⟨"java/lang/RuntimeException", "<init>", "(Ljava/lang/String;)V"⟩, .declares ⟨"java/lang/Exception", "<init>", "(Ljava/lang/String;)V"⟩, .declares ⟨"java/lang/Throwable", "<init>", "(Ljava/lang/String;)V"⟩]
def xBs (U : State) : Prop := ∀ w ∈ xB, va_Nw w U
theorem xBs_same {u U : State} (h : u.vm = U.vm) (hz : xBs u) : xBs U := by
  intro w hw
  have h2 := hz w hw
  simp only [xB, List.mem_cons, List.not_mem_nil, or_false] at hw
  rcases hw with rfl | rfl | rfl | rfl <;> exact va_Nw.same rfl h h2
theorem xBs_warm {s U : State} (hW : s.WarmedH U.vm) (hz : xBs s) : xBs U := by
  intro w hw
  have h2 := hz w hw
  simp only [xB, List.mem_cons, List.not_mem_nil, or_false] at hw
  rcases hw with rfl | rfl | rfl | rfl
  · exact va_Nw.warmC hW h2
  · exact va_Nw.warmD hW h2
  · exact va_Nw.warmD hW h2
  · exact va_Nw.warmD hW h2
theorem xBs_use {s : State} {args : Array Value} (hz : xBs s) : ∀ w ∈ xB, w.before args s = true := by
  intro w hw
  have h2 := hz w hw
  simp only [xB, List.mem_cons, List.not_mem_nil, or_false] at hw
  rcases hw with rfl | rfl | rfl | rfl <;> exact va_Nw.use rfl h2
theorem xBs_of {s : State} {args : Array Value} (h : ∀ w ∈ xB, w.before args s = true) : xBs s := by
  intro w hw
  have h2 := h w hw
  simp only [xB, List.mem_cons, List.not_mem_nil, or_false] at hw
  rcases hw with rfl | rfl | rfl | rfl <;> exact va_Nw.of rfl h2
theorem xB_tbl : ∀ w ∈ xB, w ∈ lw_tbl := by decide +kernel
abbrev stC : Type := (Nat → Int32) × (Nat → Int32) × Int32 × Int32 × Int32
/-- n steps, until one fails: how many were done, and the state -/
def runC (rg : Nat → Int32) : Nat → stC → Nat × stC
  | 0, u => (0, u)
  | k + 1, u => if (F_makeStep u.1 rg u.2.1 u.2.2.1 u.2.2.2.1 u.2.2.2.2).1 = 0 then (0, (F_makeStep u.1 rg u.2.1 u.2.2.1 u.2.2.2.1 u.2.2.2.2).2) else ((runC rg k (F_makeStep u.1 rg u.2.1 u.2.2.1 u.2.2.2.1 u.2.2.2.2).2).1 + 1, (runC rg k (F_makeStep u.1 rg u.2.1 u.2.2.1 u.2.2.2.1 u.2.2.2.2).2).2)
theorem runC_le (rg : Nat → Int32) : ∀ (n : Nat) (u : stC), (runC rg n u).1 ≤ n := by
  intro n
  induction n with
  | zero => intro u; exact Nat.le_refl 0
  | succ n ih =>
    intro u
    unfold runC
    split
    · exact Nat.zero_le _
    · exact Nat.succ_le_succ (ih _)
theorem runC_no {rg : Nat → Int32} {n j k : Nat} {u0 u v : stC} {r : Int32} (hw : (r, v) = F_makeStep u.1 rg u.2.1 u.2.2.1 u.2.2.2.1 u.2.2.2.2) (h0 : r = 0) (hk : n - j = k + 1) (h : runC rg n u0 = (j + (runC rg (n - j) u).1, (runC rg (n - j) u).2)) : runC rg n u0 = (j, v) := by
  rw [h, hk]
  unfold runC
  rw [← hw, if_pos h0]
  rfl
theorem runC_go {rg : Nat → Int32} {n j k : Nat} {u0 u v : stC} {r : Int32} (hw : (r, v) = F_makeStep u.1 rg u.2.1 u.2.2.1 u.2.2.2.1 u.2.2.2.2) (h0 : ¬ r = 0) (hk : n - j = k + 1) (h : runC rg n u0 = (j + (runC rg (n - j) u).1, (runC rg (n - j) u).2)) : runC rg n u0 = (j + 1 + (runC rg (n - (j + 1)) v).1, (runC rg (n - (j + 1)) v).2) := by
  have e : n - (j + 1) = k := by omega
  rw [h, hk, e]
  conv => lhs; unfold runC
  rw [← hw, if_neg h0]
  show (j + ((runC rg k v).1 + 1), (runC rg k v).2) = _
  rw [show j + ((runC rg k v).1 + 1) = j + 1 + (runC rg k v).1 by omega]
theorem xat_in : ∀ w ∈ (vx_atS RX0 55 "java/lang/IllegalArgumentException" ["java/lang/RuntimeException", "java/lang/Exception"]).filter goodWord, w ∈ gw := by decide +kernel
theorem xat_ot : ∀ w ∈ Cond.classLink RX0 51 "java/lang/IllegalArgumentException" :: Cond.initialized "java/lang/IllegalArgumentException" :: vx_atS RX0 55 "java/lang/IllegalArgumentException" ["java/lang/RuntimeException", "java/lang/Exception"], vx_ot w = true := by decide +kernel
theorem xat_no : ∀ w ∈ (vx_atS RX0 55 "java/lang/IllegalArgumentException" ["java/lang/RuntimeException", "java/lang/Exception"]).filter (fun w => !goodWord w), w ∈ xB := by decide +kernel
theorem m_iae : Cond.initialized "java/lang/IllegalArgumentException" ∈ gw := by decide +kernel
theorem lpn_lt {n j : Nat} (hn : n ≤ 2000) (hj : j ≤ n) (h : ¬ nI n ≤ nI j) : j < n := by
  rcases Nat.lt_or_ge j n with q | q
  · exact q
  · exact absurd (nI_le q (by omega)) h
theorem lpn_end {n j : Nat} (hn : n ≤ 2000) (hj : j ≤ n) (h : nI n ≤ nI j) : j = n := by
  rcases Nat.lt_or_ge j n with q | q
  · exact absurd h (nI_ge q (by omega))
  · omega
set_option maxHeartbeats 4000000 in
set_option maxRecDepth 100000 in
theorem c_run (l : Launch) (hst : l.stackTraces = false) (dC : Nat → ClassId) (dI : Nat → Nat → Nat) (x0 xw xr xg : Nat) (c1 c2 c3 : ClassId) (sz sa : Nat) (wd : Nat → Int32) (rg : Nat → Int32) (rs : Nat → Int32) (pcv : Int32) (trv : Int32) (vav : Int32) (dnv : Int32) (a1 : Int32) : vx_Met l yX0_run wsX0_run ({ frames := 6, cells := 1, slots := 6, locals := 129 }) (va_Pc [.ref x0, .int a1] (fun U => U.heap.size = sz ∧ va_P (dC, dI) vwCl [(x0, .inr (0, [.ref xw, .ref xr, .ref xg, .int pcv, .int trv, .int vav, .int dnv])), (xw, .inl (c1, 4096, .inl wd)), (xr, .inl (c2, 4, .inl rg)), (xg, .inl (c3, 32, .inl rs))] U.heap ∧ va_K (dC, dI) vwCl [(c1, .int), (c2, .int), (c3, .int)] U ∧ va_D (fun _ => True) [(x0, .inr (0, [.ref xw, .ref xr, .ref xg, .int pcv, .int trv, .int vav, .int dnv])), (xw, .inl (c1, 4096, .inl wd)), (xr, .inl (c2, 4, .inl rg)), (xg, .inl (c3, 32, .inl rs))] ∧ vx_Zq Bundle.tN "UNASSIGNED_STACK" Bundle.steD (va_A [(x0, .inr (0, [.ref xw, .ref xr, .ref xg, .int pcv, .int trv, .int vav, .int dnv])), (xw, .inl (c1, 4096, .inl wd)), (xr, .inl (c2, 4, .inl rg)), (xg, .inl (c3, 32, .inl rs))] sz) U U.heap ∧ vx_Zq Bundle.tN "SUPPRESSED_SENTINEL" Bundle.listD (va_A [(x0, .inr (0, [.ref xw, .ref xr, .ref xg, .int pcv, .int trv, .int vav, .int dnv])), (xw, .inl (c1, 4096, .inl wd)), (xr, .inl (c2, 4, .inl rg)), (xg, .inl (c3, 32, .inl rs))] sz) U U.heap ∧ vk_R RX0 53 "n is not 0 .. 2000" sa U ∧ xBs U)) (va_Qi (fun (r : Int32) (u : ((Nat → Int32) × (Nat → Int32) × Int32 × Int32 × Int32) × Int32) => (¬ a1 < 0 ∧ a1 ≤ 2000) ∧ r = nI (runC rg a1.toNatClampNeg (wd, rs, pcv, (-1), 0)).1 ∧ u = ((runC rg a1.toNatClampNeg (wd, rs, pcv, (-1), 0)).2, dnv + nI (runC rg a1.toNatClampNeg (wd, rs, pcv, (-1), 0)).1)) (fun (u : ((Nat → Int32) × (Nat → Int32) × Int32 × Int32 × Int32) × Int32) (t : State) => va_P (dC, dI) vwCl [(x0, .inr (0, [.ref xw, .ref xr, .ref xg, .int u.1.2.2.1, .int u.1.2.2.2.1, .int u.1.2.2.2.2, .int u.2])), (xw, .inl (c1, 4096, .inl u.1.1)), (xr, .inl (c2, 4, .inl rg)), (xg, .inl (c3, 32, .inl u.1.2.1))] t.heap ∧ va_K (dC, dI) vwCl [(c1, .int), (c2, .int), (c3, .int)] t ∧ va_D (va_A [(x0, .inr (0, [.ref xw, .ref xr, .ref xg, .int pcv, .int trv, .int vav, .int dnv])), (xw, .inl (c1, 4096, .inl wd)), (xr, .inl (c2, 4, .inl rg)), (xg, .inl (c3, 32, .inl rs))] sz) [(x0, .inr (0, [.ref xw, .ref xr, .ref xg, .int u.1.2.2.1, .int u.1.2.2.2.1, .int u.1.2.2.2.2, .int u.2])), (xw, .inl (c1, 4096, .inl u.1.1)), (xr, .inl (c2, 4, .inl rg)), (xg, .inl (c3, 32, .inl u.1.2.1))]) (va_A [(x0, .inr (0, [.ref xw, .ref xr, .ref xg, .int pcv, .int trv, .int vav, .int dnv])), (xw, .inl (c1, 4096, .inl wd)), (xr, .inl (c2, 4, .inl rg)), (xg, .inl (c3, 32, .inl rs))] sz)) (vx_X (fun _ : Unit => a1 < 0 ∨ ¬ a1 ≤ 2000) (fun (E : String) (_ : Unit) (t : State) => E = "java/lang/IllegalArgumentException" ∧ va_P (dC, dI) vwCl [(x0, .inr (0, [.ref xw, .ref xr, .ref xg, .int pcv, .int trv, .int vav, .int dnv])), (xw, .inl (c1, 4096, .inl wd)), (xr, .inl (c2, 4, .inl rg)), (xg, .inl (c3, 32, .inl rs))] t.heap ∧ va_K (dC, dI) vwCl [(c1, .int), (c2, .int), (c3, .int)] t ∧ va_D (va_A [(x0, .inr (0, [.ref xw, .ref xr, .ref xg, .int pcv, .int trv, .int vav, .int dnv])), (xw, .inl (c1, 4096, .inl wd)), (xr, .inl (c2, 4, .inl rg)), (xg, .inl (c3, 32, .inl rs))] sz) [(x0, .inr (0, [.ref xw, .ref xr, .ref xg, .int pcv, .int trv, .int vav, .int dnv])), (xw, .inl (c1, 4096, .inl wd)), (xr, .inl (c2, 4, .inl rg)), (xg, .inl (c3, 32, .inl rs))]) (va_A [(x0, .inr (0, [.ref xw, .ref xr, .ref xg, .int pcv, .int trv, .int vav, .int dnv])), (xw, .inl (c1, 4096, .inl wd)), (xr, .inl (c2, 4, .inl rg)), (xg, .inl (c3, 32, .inl rs))] sz)) 1 6 (va_A [(x0, .inr (0, [.ref xw, .ref xr, .ref xg, .int pcv, .int trv, .int vav, .int dnv])), (xw, .inl (c1, 4096, .inl wd)), (xr, .inl (c2, 4, .inl rg)), (xg, .inl (c3, 32, .inl rs))] sz) := by
  refine vx_ofW (cc := cX0_run) (maxL := 4) (ret := (some .int)) (by decide) rfl ?_
  intro p e s m args below meth c s₁ B hml hnoh hv
  obtain ⟨rfl, hsz, hP, hK, hD0, hzU, hzN, hstr, hcast⟩ := hv
  have hx := B.exec
  have hb := B.bytes
  have hr := B.returns
  have hts := atoms_spec (ws := wsX0_run) B.pre
  have hown : s.vm.findClass RX0 = some m.cls := findClass_of_methodNamed B.named
  have hlocks := B.notSynchronized
  subst hsz
  have hD := hD0.self (sz := s.heap.size)
  generalize hAe : va_A [(x0, .inr (0, [.ref xw, .ref xr, .ref xg, .int pcv, .int trv, .int vav, .int dnv])), (xw, .inl (c1, 4096, .inl wd)), (xr, .inl (c2, 4, .inl rg)), (xg, .inl (c3, 32, .inl rs))] s.heap.size = A at hD hzU hzN ⊢
  have hA : ∀ q : Nat, s.heap.size ≤ q → A q := fun q h => by rw [← hAe]; exact Or.inr h
  have hS : va_S A s.heap s.heap [] := va_S.rf
  have hP : va_P (dC, dI) vwCl [(x0, .inr (0, [.ref xw, .ref xr, .ref xg, .int pcv, .int trv, .int vav, .int dnv])), (xw, .inl (c1, 4096, .inl wd)), (xr, .inl (c2, 4, .inl rg)), (xg, .inl (c3, 32, .inl rs))] s.heap := hP
  have hl := lv_entry ([.ref x0, .int a1]) (n := 4) (Nat.le_of_ble_eq_true rfl)
  rw [lg_entry_eq]
  generalize (lg_sl ([.ref x0, .int a1]) ++ List.replicate (4 - (lg_sl ([.ref x0, .int a1])).length) Slot.unset).toArray = ls at hl ⊢
  have hl : lv_has ls 4 [(0, .ref x0), (1, .int a1)] := hl
  refine lv_iload_n hx hb dX0_run_0 rfl (lv_at hl 1 rfl) ?_
  refine lv_if_lt (tgt := 11) hx hb dX0_run_1 (by decide) (fun c_1 => ?_) (fun c_1 => ?_)
  · exact vx_throwS hx hb hst (own := RX0) (cls := "java/lang/IllegalArgumentException") (text := "n is not 0 .. 2000") (names := ["java/lang/RuntimeException", "java/lang/Exception"]) (ik := 51) (is := 53) (ic := 55) (sa := sa) (A := A) hown (by decide +kernel) (by decide +kernel) (hts _ (gcons mT_X0_51)) (hts _ (gcons m_iae)) hstr (vx_hat (B := xB) (fun w h => hts w (gcons (xat_in w h))) xat_no (xBs_use hcast)) xat_ot hzU hzN hS (hl.1.trans hml.symm) dX0_run_11 dX0_run_14 dX0_run_15 dX0_run_17 dX0_run_20 (fun x h => (hnoh x h).elim) (Nat.le_of_ble_eq_true rfl) (Nat.le_of_ble_eq_true rfl) (Nat.le_of_ble_eq_true rfl) (Nat.le_of_ble_eq_true rfl) hlocks (fun t hvm hz hk => ⟨(), Or.inl c_1, ⟨rfl, hP.kept (fun k q hq => hk q.1 ((hP k q hq).lt)), va_K.moved hvm hK, hD⟩, hz, fun q h1 _ => hk q h1⟩) hS.2.2 (Nat.le_refl _) (Nat.le_refl _)
  · refine lv_iload_n hx hb dX0_run_4 rfl (lv_at hl 1 rfl) ?_
    refine lv_sipush (v := 2000) hx hb dX0_run_5 (by decide) ?_
    refine lv_icmp_le (tgt := 21) hx hb dX0_run_8 (by decide) (fun c_2 => ?_) (fun c_2 => ?_)
    · refine lv_aload_n hx hb dX0_run_21 rfl (lv_at hl 0 rfl) ?_
      refine lv_iconst (v := (-1)) hx hb dX0_run_22 (by decide) ?_
      refine va_put (D := (dC, dI)) (ci := 0) (v := .int ((-1))) (ty := .int) (C := RX0) (T := TX0) (N := 7) hx hb hts (gw_lay lay_X0) tyX0 tyX0_ok nmX0 hown hK hP hD hS 0 rfl rfl 4 (by decide) (hts _ (gcons mF_X0_23)) (fun _ h9 => h9) rfl (by decide +kernel) rfl rfl (Nat.le_of_ble_eq_true rfl) dX0_run_23 (fun H locs hP hD hS => ?_)
      have hP : va_P (dC, dI) vwCl [(x0, .inr (0, [.ref xw, .ref xr, .ref xg, .int pcv, .int ((-1)), .int vav, .int dnv])), (xw, .inl (c1, 4096, .inl wd)), (xr, .inl (c2, 4, .inl rg)), (xg, .inl (c3, 32, .inl rs))] H := hP
      have hD : va_D A [(x0, .inr (0, [.ref xw, .ref xr, .ref xg, .int pcv, .int ((-1)), .int vav, .int dnv])), (xw, .inl (c1, 4096, .inl wd)), (xr, .inl (c2, 4, .inl rg)), (xg, .inl (c3, 32, .inl rs))] := hD
      refine lv_aload_n hx hb dX0_run_26 rfl (lv_at hl 0 rfl) ?_
      refine lv_iconst (v := 0) hx hb dX0_run_27 (by decide) ?_
      refine va_put (D := (dC, dI)) (ci := 0) (v := .int 0) (ty := .int) (C := RX0) (T := TX0) (N := 7) hx hb hts (gw_lay lay_X0) tyX0 tyX0_ok nmX0 hown hK hP hD hS 0 rfl rfl 5 (by decide) (hts _ (gcons mF_X0_26)) (fun _ h9 => h9) rfl (by decide +kernel) rfl rfl (Nat.le_of_ble_eq_true rfl) dX0_run_28 (fun H locs hP hD hS => ?_)
      have hP : va_P (dC, dI) vwCl [(x0, .inr (0, [.ref xw, .ref xr, .ref xg, .int pcv, .int ((-1)), .int 0, .int dnv])), (xw, .inl (c1, 4096, .inl wd)), (xr, .inl (c2, 4, .inl rg)), (xg, .inl (c3, 32, .inl rs))] H := hP
      have hD : va_D A [(x0, .inr (0, [.ref xw, .ref xr, .ref xg, .int pcv, .int ((-1)), .int 0, .int dnv])), (xw, .inl (c1, 4096, .inl wd)), (xr, .inl (c2, 4, .inl rg)), (xg, .inl (c3, 32, .inl rs))] := hD
      refine lv_iconst (v := 0) hx hb dX0_run_31 (by decide) ?_
      refine lv_istore_n (lv' := [(2, .int 0), (0, .ref x0), (1, .int a1)]) hx hb dX0_run_32 rfl hl (by decide) rfl (fun ls hl => ?_)
      refine lv_iconst (v := 0) hx hb dX0_run_33 (by decide) ?_
      refine lv_istore_n (lv' := [(3, .int 0), (2, .int 0), (0, .ref x0), (1, .int a1)]) hx hb dX0_run_34 rfl hl (by decide) rfl (fun ls hl => ?_)
      have hok : ¬ a1 < 0 ∧ a1 ≤ 2000 := ⟨c_1, c_2⟩
      obtain ⟨n, hn, rfl⟩ : ∃ n : Nat, n ≤ 2000 ∧ a1 = nI n := nI_of2 (by decide) c_1 c_2
      have hcl : (nI n).toNatClampNeg = n := nI_clamp (by omega)
      rw [hcl]
      have hl := lv_sub hl [0, 1, 2, 3] rfl
      refine lv_loop (n := n) (P := fun j H locs ls => ∃ u : stC, va_P (dC, dI) vwCl [(x0, .inr (0, [.ref xw, .ref xr, .ref xg, .int u.2.2.1, .int u.2.2.2.1, .int u.2.2.2.2, .int dnv])), (xw, .inl (c1, 4096, .inl u.1)), (xr, .inl (c2, 4, .inl rg)), (xg, .inl (c3, 32, .inl u.2.1))] H ∧ va_D A [(x0, .inr (0, [.ref xw, .ref xr, .ref xg, .int u.2.2.1, .int u.2.2.2.1, .int u.2.2.2.2, .int dnv])), (xw, .inl (c1, 4096, .inl u.1)), (xr, .inl (c2, 4, .inl rg)), (xg, .inl (c3, 32, .inl u.2.1))] ∧ va_S A s.heap H locs ∧ lv_has ls 4 [(3, .int (nI j)), (2, .int (nI j)), (0, .ref x0), (1, .int (nI n))] ∧ runC rg n (wd, rs, pcv, (-1), 0) = (j + (runC rg (n - j) u).1, (runC rg (n - j) u).2)) (Wg := fun H locs ls => W p l e _ s m _ below meth c H locs 0 0 _ (F0 m 35 ls [])) ?_ n 0 H _ ls (by omega) (Nat.zero_le _) ⟨(wd, rs, pcv, (-1), 0), hP, hD, hS, hl, by rw [Nat.zero_add]; rfl⟩
      rintro j H locs ls hj ⟨u, hP, hD, hS, hl, hrun⟩ ih
      refine lv_iload_n hx hb dX0_run_35 rfl (lv_at hl 0 rfl) ?_
      refine lv_iload_n hx hb dX0_run_36 rfl (lv_at hl 3 rfl) ?_
      refine lv_icmp_ge (tgt := 59) hx hb dX0_run_37 (by decide) (fun cx => ?_) (fun cx => ?_)
      · obtain rfl : j = n := lpn_end hn hj cx
        have hrun2 : runC rg j (wd, rs, pcv, (-1), 0) = (j, u) := by rw [hrun, Nat.sub_self]; rfl
        refine lv_aload_n hx hb dX0_run_59 rfl (lv_at hl 2 rfl) ?_
        refine lv_dup hx hb dX0_run_60 rfl ?_
        refine va_get (D := (dC, dI)) (ci := 0) (v := .int dnv) (C := RX0) (T := TX0) (N := 7) hx hb hts (gw_lay lay_X0) hown hK hP 0 rfl rfl 6 (by decide) (hts _ (gcons mF_X0_29)) (fun _ h9 => h9) rfl dX0_run_61 ?_
        refine lv_iload_n hx hb dX0_run_64 rfl (lv_at hl 1 rfl) ?_
        refine lv_iadd hx hb dX0_run_65 ?_
        refine va_put (D := (dC, dI)) (ci := 0) (v := .int (dnv + (nI j))) (ty := .int) (C := RX0) (T := TX0) (N := 7) hx hb hts (gw_lay lay_X0) tyX0 tyX0_ok nmX0 hown hK hP hD hS 0 rfl rfl 6 (by decide) (hts _ (gcons mF_X0_29)) (fun _ h9 => h9) rfl (by decide +kernel) rfl rfl (Nat.le_of_ble_eq_true rfl) dX0_run_66 (fun H locs hP hD hS => ?_)
        have hP : va_P (dC, dI) vwCl [(x0, .inr (0, [.ref xw, .ref xr, .ref xg, .int u.2.2.1, .int u.2.2.2.1, .int u.2.2.2.2, .int (dnv + (nI j))])), (xw, .inl (c1, 4096, .inl u.1)), (xr, .inl (c2, 4, .inl rg)), (xg, .inl (c3, 32, .inl u.2.1))] H := hP
        have hD : va_D A [(x0, .inr (0, [.ref xw, .ref xr, .ref xg, .int u.2.2.1, .int u.2.2.2.1, .int u.2.2.2.2, .int (dnv + (nI j))])), (xw, .inl (c1, 4096, .inl u.1)), (xr, .inl (c2, 4, .inl rg)), (xg, .inl (c3, 32, .inl u.2.1))] := hD
        refine lv_iload_n hx hb dX0_run_69 rfl (lv_at hl 1 rfl) ?_
        refine W.widen (k := 1) (n := 6) (Nat.le_of_ble_eq_true rfl) (Nat.le_of_ble_eq_true rfl) ?_
        exact vx_ret (W.iret (v := nI j) hx hb hr (fun t ht hW => ⟨⟨_, ((u.1, u.2.1, u.2.2.1, u.2.2.2.1, u.2.2.2.2), dnv + (nI j)), rfl, ⟨hok, ⟨by rw [hrun2], by rw [hrun2]⟩⟩, by rw [ht]; exact hP, va_K.moved hW.alike hK, hD⟩, hS.F ht⟩) hS.2.2 dX0_run_70)
      · have hlt : j < n := lpn_lt hn hj cx
        obtain ⟨k, hk⟩ : ∃ k, n - j = k + 1 := ⟨n - j - 1, by omega⟩
        refine lv_aload_n hx hb dX0_run_40 rfl (lv_at hl 2 rfl) ?_
        have hFc := va_free (wc := [(x0, .inr (0, [.ref xw, .ref xr, .ref xg, .int u.2.2.1, .int u.2.2.2.1, .int u.2.2.2.2, .int dnv])), (xw, .inl (c1, 4096, .inl u.1)), (xr, .inl (c2, 4, .inl rg)), (xg, .inl (c3, 32, .inl u.2.1))]) hD hS hA [0, 1, 2, 3] rfl
        refine va_calli (va_runV (As := []) (rest := []) ⟨hx, hb, hml, hown, hts⟩ (c_makeStep l dC dI x0 xw xr xg c1 c2 c3 H.size u.1 rg u.2.1 u.2.2.1 u.2.2.2.1 u.2.2.2.2 dnv) (cwV 0 hts (gV mL_X0_58 mI_X0_makeStep mE_X0_makeStep mN_X0 mC_X0_makeStep) rfl rfl rfl (by decide +kernel) ⟨Nat.le_of_ble_eq_true rfl, Nat.le_of_ble_eq_true rfl⟩) ⟨fun a U g mk q => by obtain ⟨q0, q1, qP, qK, qD⟩ := q; exact ⟨q0, q1, qP, va_K.moved (u := U) (U := U.calling g mk a) (Vm.Alike.refl U.vm) qK, qD⟩, va_recv hK hP (ci := 0) (q0 := 0) rfl rfl, fun U hU hW => ⟨rfl, by rw [hU], by rw [hU]; exact hP, va_K.moved hW.alike hK, hD.weaken (fun _ _ _ _ => trivial)⟩⟩ rfl rfl hl.1 rfl (lv_room (Nat.le_of_ble_eq_true rfl)) dX0_run_41 ⟨Nat.zero_le _, Nat.zero_le _⟩) hS (fun q _ h => hFc q h) hFc (fun r_3 u t H1 locs ht hvm hw hB hz1 hk1 hS => ?_)
        obtain ⟨b_4, hw⟩ := hw
        obtain ⟨wd_5, rs_6, pcv_7, trv_8, vav_9⟩ := u
        obtain ⟨hP1, hK1, hD1⟩ := hB
        rw [ht] at hP1
        obtain ⟨hP, hD⟩ := va_join (wr := []) (w1 := [(x0, .inr (0, [.ref xw, .ref xr, .ref xg, .int pcv_7, .int trv_8, .int vav_9, .int dnv])), (xw, .inl (c1, 4096, .inl wd_5)), (xr, .inl (c2, 4, .inl rg)), (xg, .inl (c3, 32, .inl rs_6))]) hP hD [0, 1, 2, 3] [] rfl rfl (by decide) (by decide) hk1 hFc hP1 hD1
        generalize H1 = H at hP hS ⊢
        have hP : va_P (dC, dI) vwCl [(x0, .inr (0, [.ref xw, .ref xr, .ref xg, .int pcv_7, .int trv_8, .int vav_9, .int dnv])), (xw, .inl (c1, 4096, .inl wd_5)), (xr, .inl (c2, 4, .inl rg)), (xg, .inl (c3, 32, .inl rs_6))] H := hP
        have hD : va_D A [(x0, .inr (0, [.ref xw, .ref xr, .ref xg, .int pcv_7, .int trv_8, .int vav_9, .int dnv])), (xw, .inl (c1, 4096, .inl wd_5)), (xr, .inl (c2, 4, .inl rg)), (xg, .inl (c3, 32, .inl rs_6))] := hD
        refine lv_if_ne (tgt := 50) hx hb dX0_run_44 (by decide) (fun cy => ?_) (fun cy => ?_)
        · refine lv_iinc (v := nI j + 1) (lv' := [(2, .int (nI j + 1)), (3, .int (nI j)), (0, .ref x0), (1, .int (nI n))]) hx hb dX0_run_50 hl (k := 1) rfl rfl (by decide) rfl (fun ls hl => ?_)
          refine lv_iinc (v := nI j + 1) (lv' := [(3, .int (nI j + 1)), (2, .int (nI j + 1)), (0, .ref x0), (1, .int (nI n))]) hx hb dX0_run_53 hl (k := 1) rfl rfl (by decide) rfl (fun ls hl => ?_)
          refine lv_goto (tgt := 35) hx hb dX0_run_56 (by decide) ?_
          rw [nI_1] at hl
          exact ih H locs ls hlt ⟨(wd_5, rs_6, pcv_7, trv_8, vav_9), hP, hD, hS, hl, runC_go hw cy hk hrun⟩
        · have hrun2 := runC_no hw cy hk hrun
          refine lv_goto (tgt := 59) hx hb dX0_run_47 (by decide) ?_
          refine lv_aload_n hx hb dX0_run_59 rfl (lv_at hl 2 rfl) ?_
          refine lv_dup hx hb dX0_run_60 rfl ?_
          refine va_get (D := (dC, dI)) (ci := 0) (v := .int dnv) (C := RX0) (T := TX0) (N := 7) hx hb hts (gw_lay lay_X0) hown hK hP 0 rfl rfl 6 (by decide) (hts _ (gcons mF_X0_29)) (fun _ h9 => h9) rfl dX0_run_61 ?_
          refine lv_iload_n hx hb dX0_run_64 rfl (lv_at hl 1 rfl) ?_
          refine lv_iadd hx hb dX0_run_65 ?_
          refine va_put (D := (dC, dI)) (ci := 0) (v := .int (dnv + (nI j))) (ty := .int) (C := RX0) (T := TX0) (N := 7) hx hb hts (gw_lay lay_X0) tyX0 tyX0_ok nmX0 hown hK hP hD hS 0 rfl rfl 6 (by decide) (hts _ (gcons mF_X0_29)) (fun _ h9 => h9) rfl (by decide +kernel) rfl rfl (Nat.le_of_ble_eq_true rfl) dX0_run_66 (fun H locs hP hD hS => ?_)
          have hP : va_P (dC, dI) vwCl [(x0, .inr (0, [.ref xw, .ref xr, .ref xg, .int pcv_7, .int trv_8, .int vav_9, .int (dnv + (nI j))])), (xw, .inl (c1, 4096, .inl wd_5)), (xr, .inl (c2, 4, .inl rg)), (xg, .inl (c3, 32, .inl rs_6))] H := hP
          have hD : va_D A [(x0, .inr (0, [.ref xw, .ref xr, .ref xg, .int pcv_7, .int trv_8, .int vav_9, .int (dnv + (nI j))])), (xw, .inl (c1, 4096, .inl wd_5)), (xr, .inl (c2, 4, .inl rg)), (xg, .inl (c3, 32, .inl rs_6))] := hD
          refine lv_iload_n hx hb dX0_run_69 rfl (lv_at hl 1 rfl) ?_
          refine W.widen (k := 1) (n := 6) (Nat.le_of_ble_eq_true rfl) (Nat.le_of_ble_eq_true rfl) ?_
          exact vx_ret (W.iret (v := nI j) hx hb hr (fun t ht hW => ⟨⟨_, ((wd_5, rs_6, pcv_7, trv_8, vav_9), dnv + (nI j)), rfl, ⟨hok, ⟨by rw [hrun2], by rw [hrun2]⟩⟩, by rw [ht]; exact hP, va_K.moved hW.alike hK, hD⟩, hS.F ht⟩) hS.2.2 dX0_run_70)
    · exact vx_throwS hx hb hst (own := RX0) (cls := "java/lang/IllegalArgumentException") (text := "n is not 0 .. 2000") (names := ["java/lang/RuntimeException", "java/lang/Exception"]) (ik := 51) (is := 53) (ic := 55) (sa := sa) (A := A) hown (by decide +kernel) (by decide +kernel) (hts _ (gcons mT_X0_51)) (hts _ (gcons m_iae)) hstr (vx_hat (B := xB) (fun w h => hts w (gcons (xat_in w h))) xat_no (xBs_use hcast)) xat_ot hzU hzN hS (hl.1.trans hml.symm) dX0_run_11 dX0_run_14 dX0_run_15 dX0_run_17 dX0_run_20 (fun x h => (hnoh x h).elim) (Nat.le_of_ble_eq_true rfl) (Nat.le_of_ble_eq_true rfl) (Nat.le_of_ble_eq_true rfl) (Nat.le_of_ble_eq_true rfl) hlocks (fun t hvm hz hk => ⟨(), Or.inr c_2, ⟨rfl, hP.kept (fun k q hq => hk q.1 ((hP k q hq).lt)), va_K.moved hvm hK, hD⟩, hz, fun q h1 _ => hk q h1⟩) hS.2.2 (Nat.le_refl _) (Nat.le_refl _)
