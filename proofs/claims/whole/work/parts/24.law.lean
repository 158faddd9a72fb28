def R_law : String := "UserCoreLaw"
def lw_P (b : Addr) (xs : List Int32) (args : Array Value) (s : State) : Prop := args = #[.ref b] ∧ s.IntsAt b xs ∧ xs.length ≤ 2560 ∧ (Jvm.Cond.and given_1 narrow_1).before args s = true
def lw_Q (_ : Array Value) (s : State) (o : Outcome) (t : State) : Prop := o = .returned (some (.int 1)) ∧ Framed s o t [] 1034 28770
def lw_Z (below : List Frame) (a : Array Value) (s : State) : State → Prop := fun t => ∃ o, t.status = .running ∧ Ended t below o ∧ lw_Q a s o t
/-- the law's own end, with 1 on the stack, nothing written that was there before, its room as the claim has it -/
theorem lw_ret {p : Program} {l : Launch} {e : Env} {s : State} {m : MethodId} {below : List Frame} {meth : Method} {c : Code} {b : Nat} (hx : p.tables.exec = Jvm.exec) (hb : c.code = code) (hr : meth.sig.returnType = ret) (hlocks : meth.locks = false) {pc : Nat} {H : Heap} {ls : Array Slot} (hdg : decode code pc = .ok (.ireturn, 1)) : W p l e room_1 s m #[Value.ref b] below meth c H [] 1034 28770 (lw_Z below #[Value.ref b] s) (F0 m pc ls [.int 1]) := by
  intro T hT X
  obtain ⟨fs, hret, hrun, hended, hW, hframe⟩ := X.leave (v := some (.int 1)) (hlocks := hlocks) (fun h => by rw [hr] at h; cases h)
  have hmeth' : T.vm.method? m = some meth := X.method'
  refine ⟨T.setFrames fs, ?_, .returned (some (.int 1)), hrun, hended, rfl, ⟨_, rfl⟩, hW, hframe⟩
  jvm_step X.here [X.here.top, hx, hb, hdg, hmeth', hr, ret, narrow_b1]
  (try refine ⟨rfl, ?_⟩); (try refine ⟨rfl, ?_⟩)
  first | (intro acts; rw [hret _ acts rfl rfl rfl]) | rw [hret _ _ rfl rfl rfl]
  exact Steps.refl _
/-- what holds at the law's entry: the machine, the code, the tables' words (any of lw_tbl by 'hts w (by decide +kernel)'), the script of L ints xs at the cell b, what the Statement gives of the start (any of its parts by flat_of_before) -/
def lw_At (p : Program) (s : State) (m : MethodId) (meth : Method) (c : Code) (b L : Nat) (xs : Nat → Int32) : Prop :=
  p.tables.exec = Jvm.exec ∧ c.code = code ∧ meth.sig.returnType = ret ∧ c.maxLocals = 7 ∧ s.vm.findClass R_law = some m.cls ∧ (∀ w ∈ lw_tbl, w.before #[Value.ref b] s = true) ∧ va_X b L xs s s.heap ∧ b < s.heap.size ∧ meth.locks = false ∧ (Jvm.Cond.and given_1 narrow_1).before #[Value.ref b] s = true
def Inv (wd rg rs : Nat → Int32) (pcv trv vav dnv : Int32) (me rg2 rs2 : Nat → Int32) (pc2 tr2 va2 dn2 : Int32) : Prop := RelM wd me ∧ rg = rg2 ∧ rs = rs2 ∧ rs 0 = 0 ∧ pcv = pc2 ∧ trv = tr2 ∧ vav = va2 ∧ dnv = dn2 ∧ RgOK rg
theorem gVL {own C : String} {idx : Nat} {y : MethodName} {w1 : Cond} (h1 : Cond.methodLink own idx y ∈ gw) (h2 : Cond.instanceMethod y ∈ gw) (h3 : Cond.selects C y y ∈ gw) (h4 : Cond.initialized C ∈ gw) (h5 : w1 ∈ gw) : GoodIn lw_tbl (wsV own idx C y (w1 :: gw)) := by
  intro w hw
  have h : w ∈ gw := by
    unfold wsV at hw
    rcases List.mem_append.mp hw with q | q
    · simp only [List.mem_cons, List.not_mem_nil, or_false] at q
      rcases q with rfl | rfl | rfl | rfl
      · exact h1
      · exact h2
      · exact h3
      · exact h4
    · rcases List.mem_cons.mp q with rfl | q
      · exact h5
      · exact q
  exact ⟨gw_tbl h, gw_good h⟩
theorem gSL {own : String} {idx : Nat} {y : MethodName} {w1 : Cond} (h1 : Cond.methodLink own idx y ∈ gw) (h2 : Cond.static y ∈ gw) (h4 : Cond.initialized y.cls ∈ gw) (h5 : w1 ∈ gw) : GoodIn lw_tbl (va_wsS own idx y (w1 :: gw)) := by
  intro w hw
  have h : w ∈ gw := by
    unfold va_wsS at hw
    rcases List.mem_append.mp hw with q | q
    · simp only [List.mem_cons, List.not_mem_nil, or_false] at q
      rcases q with rfl | rfl | rfl
      · exact h1
      · exact h2
      · exact h4
    · rcases List.mem_cons.mp q with rfl | q
      · exact h5
      · exact q
  exact ⟨gw_tbl h, gw_good h⟩
theorem gIL {w1 : Cond} (h5 : w1 ∈ gw) : GoodIn lw_tbl (w1 :: gw) := by
  intro w hw
  have h : w ∈ gw := by
    rcases List.mem_cons.mp hw with rfl | q
    · exact h5
    · exact q
  exact ⟨gw_tbl h, gw_good h⟩
theorem in_scr {k L : Nat} (j : Nat) {z : Int32} (hz : z = nI j) (hj : j < 5) (h : 5 * k + 5 ≤ L) (hL : L ≤ 2560) : vp_in (nI (5 * k) + z) L := by
  rw [hz, nI_add]
  exact vp_in_nI (by omega) (by omega)
theorem in_scr0 {k L : Nat} (h : 5 * k + 5 ≤ L) (hL : L ≤ 2560) : vp_in (nI (5 * k)) L := vp_in_nI (by omega) (by omega)
theorem scr_go {k L : Nat} (hk : 5 * k ≤ L) (hL : L ≤ 2560) (c : ¬ nI L - 5 < nI (5 * k)) : 5 * k + 5 ≤ L := by
  rw [Int32.lt_iff_toInt_lt, nI_toInt (by omega)] at c
  have h := pk_sub_toInt (a := L) (b := 5) (by omega) (by omega)
  have h2 : (nI L - 5).toInt = (L : Int) - 5 := h
  rw [h2] at c
  omega
theorem lgc_self (x : Int64) : lg_cmp x x = 0 := by unfold lg_cmp; simp
set_option maxHeartbeats 8000000 in
set_option maxRecDepth 100000 in
theorem law_loop {p : Program} {l : Launch} {e : Env} {s : State} {m : MethodId} {below : List Frame} {meth : Method} {c : Code} {dC : Nat → ClassId} {dI : Nat → Nat → Nat} {b L : Nat} {xs : Nat → Int32} {x0 xw xr xg : Nat} {c1 c2 c3 : ClassId} {y0 ym yr yg : Nat} {d1 d2 d3 : ClassId} {xo : Nat} {c4 : ClassId} {sa : Nat} (hst : l.stackTraces = false) (hL : L ≤ 2560) (C0 : lw_At p s m meth c b L xs) (hzU : vx_Zq Bundle.tN "UNASSIGNED_STACK" Bundle.steD (fun q : Nat => s.heap.size ≤ q) s s.heap) (hzN : vx_Zq Bundle.tN "SUPPRESSED_SENTINEL" Bundle.listD (fun q : Nat => s.heap.size ≤ q) s s.heap) (hstr : vk_R RX0 53 "n is not 0 .. 2000" sa s) (hcast : xBs s) (hK : va_K (dC, dI) vwCl [(c1, .int), (c2, .int), (c3, .int), (d1, .byte), (d2, .int), (d3, .int), (c4, .long)] s) :
    ∀ (n k : Nat), 5 * k ≤ L → L + 1 ≤ 5 * (k + n) → ∀ (wd : Nat → Int32) (rg : Nat → Int32) (rs : Nat → Int32) (pcv : Int32) (trv : Int32) (vav : Int32) (dnv : Int32) (th : Int32) (me : Nat → Int32) (rg2 : Nat → Int32) (rs2 : Nat → Int32) (pc2 : Int32) (tr2 : Int32) (va2 : Int32) (dn2 : Int32) (wv : Int32) (fa : Int32) (wi : Int32) (ne : Int32) (ov : Nat → Int64), Inv wd rg rs pcv trv vav dnv me rg2 rs2 pc2 tr2 va2 dn2 → ∀ (H : Heap) (locs : List Loc), va_P (dC, dI) vwCl [(x0, .inr (0, [.ref xw, .ref xr, .ref xg, .int pcv, .int trv, .int vav, .int dnv])), (xw, .inl (c1, 4096, .inl wd)), (xr, .inl (c2, 4, .inl rg)), (xg, .inl (c3, 32, .inl rs)), (y0, .inr (1, [.int th, .ref ym, .ref yr, .ref yg, .int pc2, .int tr2, .int va2, .int dn2, .int wv, .int fa, .int wi, .int ne])), (ym, .inl (d1, 16384, .inl me)), (yr, .inl (d2, 4, .inl rg2)), (yg, .inl (d3, 32, .inl rs2)), (xo, .inl (c4, 1, .inr (.inl ov)))] H → va_D (fun q : Nat => s.heap.size ≤ q) [(x0, .inr (0, [.ref xw, .ref xr, .ref xg, .int pcv, .int trv, .int vav, .int dnv])), (xw, .inl (c1, 4096, .inl wd)), (xr, .inl (c2, 4, .inl rg)), (xg, .inl (c3, 32, .inl rs)), (y0, .inr (1, [.int th, .ref ym, .ref yr, .ref yg, .int pc2, .int tr2, .int va2, .int dn2, .int wv, .int fa, .int wi, .int ne])), (ym, .inl (d1, 16384, .inl me)), (yr, .inl (d2, 4, .inl rg2)), (yg, .inl (d3, 32, .inl rs2)), (xo, .inl (c4, 1, .inr (.inl ov)))] → va_S (fun q : Nat => s.heap.size ≤ q) s.heap H locs → ∀ (ls : Array Slot), lv_has ls 7 [(4, .int (nI (5 * k))), (0, .ref b), (1, .ref x0), (2, .ref y0), (3, .ref xo)] → W p l e room_1 s m #[Value.ref b] below meth c H locs (9 + k) (20572 + 6 * k) (lw_Z below #[Value.ref b] s) (F0 m 23 ls []) := by
  obtain ⟨hx, hb, hr, hml, hown, hts, hX, hbl, hlocks, hgv⟩ := C0
  have hA : ∀ q : Nat, s.heap.size ≤ q → (fun q : Nat => s.heap.size ≤ q) q := fun _ h => h
  have hbA : ¬ (fun q : Nat => s.heap.size ≤ q) b := Nat.not_le.mpr hbl
  intro n
  induction n with
  | zero =>
    intro k h1 h2
    exact absurd h2 (by omega)
  | succ n ih =>
    intro k hk hkn wd rg rs pcv trv vav dnv th me rg2 rs2 pc2 tr2 va2 dn2 wv fa wi ne ov hinv H locs hP hD hS ls hl
    obtain ⟨hR, h1, h2, h00, h3, h4, h5, h6, hG⟩ := hinv
    subst h1
    subst h2
    subst h3
    subst h4
    subst h5
    subst h6
    refine lv_iload hx hb dL_law_23 (lv_at hl 0 rfl) ?_
    refine lv_aload_n hx hb dL_law_25 rfl (lv_at hl 1 rfl) ?_
    refine va_slen hx hb hX hbl hbA hS dL_law_26 ?_
    refine lv_iconst (v := 5) hx hb dL_law_27 (by decide) ?_
    refine lv_isub hx hb dL_law_28 ?_
    refine lv_icmp_gt (tgt := 438) hx hb dL_law_29 (by decide) (fun cx => ?_) (fun cx => ?_)
    · refine lv_iconst (v := 1) hx hb dL_law_438 (by decide) ?_
      refine va_forget (fun q hq => hS.2.2 q hq) ?_
      refine W.widen (k := 1034) (n := 28770) (by omega) (by omega) ?_
      exact lw_ret hx hb hr hlocks dL_law_439
    · have hin : 5 * k + 5 ≤ L := scr_go hk hL cx
      refine lv_aload_n hx hb dL_law_32 rfl (lv_at hl 1 rfl) ?_
      refine lv_iload hx hb dL_law_33 (lv_at hl 0 rfl) ?_
      refine va_sld hx hb hX hbl hbA hS (in_scr0 hin hL) dL_law_35 ?_
      refine lv_bipush (v := 15) hx hb dL_law_36 (by decide) ?_
      refine lv_iand hx hb dL_law_38 ?_
      refine lv_topi (fun op eop => ?_)
      by_cases o0 : op = 0
      · refine lv_tableIn (tgt := 96) (off := 57) hx hb dL_law_39 (by rw [o0]; decide) (by rw [o0]; decide) (by rw [o0] <;> rfl) (by decide) ?_
        refine lv_aload_n hx hb dL_law_96 rfl (lv_at hl 2 rfl) ?_
        refine lv_aload_n hx hb dL_law_97 rfl (lv_at hl 1 rfl) ?_
        refine lv_iload hx hb dL_law_98 (lv_at hl 0 rfl) ?_
        refine lv_iconst (v := 1) hx hb dL_law_100 (by decide) ?_
        refine lv_iadd hx hb dL_law_101 ?_
        refine va_sld hx hb hX hbl hbA hS (in_scr 1 (z := 1) rfl (by decide) hin hL) dL_law_102 ?_
        refine lv_aload_n hx hb dL_law_103 rfl (lv_at hl 1 rfl) ?_
        refine lv_iload hx hb dL_law_104 (lv_at hl 0 rfl) ?_
        refine lv_iconst (v := 2) hx hb dL_law_106 (by decide) ?_
        refine lv_iadd hx hb dL_law_107 ?_
        refine va_sld hx hb hX hbl hbA hS (in_scr 2 (z := 2) rfl (by decide) hin hL) dL_law_108 ?_
        refine lv_aload_n hx hb dL_law_109 rfl (lv_at hl 1 rfl) ?_
        refine lv_iload hx hb dL_law_110 (lv_at hl 0 rfl) ?_
        refine lv_iconst (v := 3) hx hb dL_law_112 (by decide) ?_
        refine lv_iadd hx hb dL_law_113 ?_
        refine va_sld hx hb hX hbl hbA hS (in_scr 3 (z := 3) rfl (by decide) hin hL) dL_law_114 ?_
        refine lv_i2l (v := (xs ((nI (5 * k)) + 3).toNatClampNeg).toInt64) hx hb dL_law_115 rfl ?_
        refine lv_bipush (v := 32) hx hb dL_law_116 (by decide) ?_
        refine lv_lshl (v := ((xs ((nI (5 * k)) + 3).toNatClampNeg).toInt64) <<< ((32 : Int32).toInt64 &&& 63)) hx hb dL_law_118 rfl ?_
        refine lv_aload_n hx hb dL_law_119 rfl (lv_at hl 1 rfl) ?_
        refine lv_iload hx hb dL_law_120 (lv_at hl 0 rfl) ?_
        refine lv_iconst (v := 4) hx hb dL_law_122 (by decide) ?_
        refine lv_iadd hx hb dL_law_123 ?_
        refine va_sld hx hb hX hbl hbA hS (in_scr 4 (z := 4) rfl (by decide) hin hL) dL_law_124 ?_
        refine lv_i2l (v := (xs ((nI (5 * k)) + 4).toNatClampNeg).toInt64) hx hb dL_law_125 rfl ?_
        refine lv_ldc2 (v := 4294967295) hx hb hown (hts _ (gw_tbl mK_L_19)) dL_law_126 ?_
        refine lv_land hx hb dL_law_129 ?_
        refine lv_lor hx hb dL_law_130 ?_
        have hPc := hP.sub (ws' := [(x0, .inr (0, [.ref xw, .ref xr, .ref xg, .int pcv, .int trv, .int vav, .int dnv])), (xw, .inl (c1, 4096, .inl wd)), (xr, .inl (c2, 4, .inl rg)), (xg, .inl (c3, 32, .inl rs))]) [0, 1, 2, 3] rfl
        have hDc := hD.sub (ws' := [(x0, .inr (0, [.ref xw, .ref xr, .ref xg, .int pcv, .int trv, .int vav, .int dnv])), (xw, .inl (c1, 4096, .inl wd)), (xr, .inl (c2, 4, .inl rg)), (xg, .inl (c3, 32, .inl rs))]) [0, 1, 2, 3] (by decide) rfl
        have hKc := hK.sub (tys' := [(c1, .int), (c2, .int), (c3, .int)]) [0, 1, 2] rfl
        have hFc := va_free (wc := [(x0, .inr (0, [.ref xw, .ref xr, .ref xg, .int pcv, .int trv, .int vav, .int dnv])), (xw, .inl (c1, 4096, .inl wd)), (xr, .inl (c2, 4, .inl rg)), (xg, .inl (c3, 32, .inl rs))]) hD hS hA [0, 1, 2, 3] rfl
        refine va_calli (va_runV (As := [.int (xs ((nI (5 * k)) + 1).toNatClampNeg), .int (xs ((nI (5 * k)) + 2).toNatClampNeg), .long ((((xs ((nI (5 * k)) + 3).toNatClampNeg).toInt64) <<< ((32 : Int32).toInt64 &&& 63)) ||| (((xs ((nI (5 * k)) + 4).toNatClampNeg).toInt64) &&& 4294967295))]) (rest := []) ⟨hx, hb, hml, hown, hts⟩ (c_poke l dC dI x0 xw xr xg c1 c2 c3 H.size wd rg rs pcv trv vav dnv (xs ((nI (5 * k)) + 1).toNatClampNeg) (xs ((nI (5 * k)) + 2).toNatClampNeg) ((((xs ((nI (5 * k)) + 3).toNatClampNeg).toInt64) <<< ((32 : Int32).toInt64 &&& 63)) ||| (((xs ((nI (5 * k)) + 4).toNatClampNeg).toInt64) &&& 4294967295))) (cwV 3 hts (gVL mL_L_21 mI_X0_poke mE_X0_poke mN_X0 mC_X0_poke) rfl rfl rfl (by decide +kernel) ⟨Nat.le_of_ble_eq_true rfl, Nat.le_of_ble_eq_true rfl⟩) ⟨fun a U g mk q => by obtain ⟨q0, q1, qP, qK, qD⟩ := q; exact ⟨q0, q1, qP, va_K.moved (u := U) (U := U.calling g mk a) (Vm.Alike.refl U.vm) qK, qD⟩, va_recv hKc hPc (ci := 0) (q0 := 0) rfl rfl, fun U hU hW => ⟨rfl, by rw [hU], by rw [hU]; exact hPc, va_K.moved hW.alike hKc, hDc.weaken (fun _ _ _ _ => trivial)⟩⟩ rfl rfl hl.1 rfl (lv_room (Nat.le_of_ble_eq_true rfl)) dL_law_131 ⟨(show _ ≤ 1034 by omega), (show _ ≤ 28770 by omega)⟩) hS (fun q _ h => hFc q h) hFc (fun rC uC t H1 locs ht hvm hw hB hz1 hk1 hS => ?_)
        have eC := hw
        obtain ⟨hP1, hK1, hD1⟩ := hB
        rw [ht] at hP1
        obtain ⟨hP, hD⟩ := va_join (wr := [(y0, .inr (1, [.int th, .ref ym, .ref yr, .ref yg, .int pcv, .int trv, .int vav, .int dnv, .int wv, .int fa, .int wi, .int ne])), (ym, .inl (d1, 16384, .inl me)), (yr, .inl (d2, 4, .inl rg)), (yg, .inl (d3, 32, .inl rs)), (xo, .inl (c4, 1, .inr (.inl ov)))]) (w1 := [(x0, .inr (0, [.ref xw, .ref xr, .ref xg, .int pcv, .int trv, .int vav, .int dnv])), (xw, .inl (c1, 4096, .inl uC)), (xr, .inl (c2, 4, .inl rg)), (xg, .inl (c3, 32, .inl rs))]) hP hD [0, 1, 2, 3] [4, 5, 6, 7, 8] rfl rfl (by decide) (by decide) hk1 hFc hP1 hD1
        have hP := hP.sub (ws' := [(x0, .inr (0, [.ref xw, .ref xr, .ref xg, .int pcv, .int trv, .int vav, .int dnv])), (xw, .inl (c1, 4096, .inl uC)), (xr, .inl (c2, 4, .inl rg)), (xg, .inl (c3, 32, .inl rs)), (y0, .inr (1, [.int th, .ref ym, .ref yr, .ref yg, .int pcv, .int trv, .int vav, .int dnv, .int wv, .int fa, .int wi, .int ne])), (ym, .inl (d1, 16384, .inl me)), (yr, .inl (d2, 4, .inl rg)), (yg, .inl (d3, 32, .inl rs)), (xo, .inl (c4, 1, .inr (.inl ov)))]) [5, 6, 7, 8, 0, 1, 2, 3, 4] rfl
        have hD := hD.sub (ws' := [(x0, .inr (0, [.ref xw, .ref xr, .ref xg, .int pcv, .int trv, .int vav, .int dnv])), (xw, .inl (c1, 4096, .inl uC)), (xr, .inl (c2, 4, .inl rg)), (xg, .inl (c3, 32, .inl rs)), (y0, .inr (1, [.int th, .ref ym, .ref yr, .ref yg, .int pcv, .int trv, .int vav, .int dnv, .int wv, .int fa, .int wi, .int ne])), (ym, .inl (d1, 16384, .inl me)), (yr, .inl (d2, 4, .inl rg)), (yg, .inl (d3, 32, .inl rs)), (xo, .inl (c4, 1, .inr (.inl ov)))]) [5, 6, 7, 8, 0, 1, 2, 3, 4] (by decide) rfl
        generalize H1 = H at hP hS ⊢
        refine lv_aload_n hx hb dL_law_134 rfl (lv_at hl 3 rfl) ?_
        refine lv_aload_n hx hb dL_law_135 rfl (lv_at hl 1 rfl) ?_
        refine lv_iload hx hb dL_law_136 (lv_at hl 0 rfl) ?_
        refine lv_iconst (v := 1) hx hb dL_law_138 (by decide) ?_
        refine lv_iadd hx hb dL_law_139 ?_
        refine va_sld hx hb hX hbl hbA hS (in_scr 1 (z := 1) rfl (by decide) hin hL) dL_law_140 ?_
        refine lv_aload_n hx hb dL_law_141 rfl (lv_at hl 1 rfl) ?_
        refine lv_iload hx hb dL_law_142 (lv_at hl 0 rfl) ?_
        refine lv_iconst (v := 2) hx hb dL_law_144 (by decide) ?_
        refine lv_iadd hx hb dL_law_145 ?_
        refine va_sld hx hb hX hbl hbA hS (in_scr 2 (z := 2) rfl (by decide) hin hL) dL_law_146 ?_
        refine lv_aload_n hx hb dL_law_147 rfl (lv_at hl 1 rfl) ?_
        refine lv_iload hx hb dL_law_148 (lv_at hl 0 rfl) ?_
        refine lv_iconst (v := 3) hx hb dL_law_150 (by decide) ?_
        refine lv_iadd hx hb dL_law_151 ?_
        refine va_sld hx hb hX hbl hbA hS (in_scr 3 (z := 3) rfl (by decide) hin hL) dL_law_152 ?_
        refine lv_i2l (v := (xs ((nI (5 * k)) + 3).toNatClampNeg).toInt64) hx hb dL_law_153 rfl ?_
        refine lv_bipush (v := 32) hx hb dL_law_154 (by decide) ?_
        refine lv_lshl (v := ((xs ((nI (5 * k)) + 3).toNatClampNeg).toInt64) <<< ((32 : Int32).toInt64 &&& 63)) hx hb dL_law_156 rfl ?_
        refine lv_aload_n hx hb dL_law_157 rfl (lv_at hl 1 rfl) ?_
        refine lv_iload hx hb dL_law_158 (lv_at hl 0 rfl) ?_
        refine lv_iconst (v := 4) hx hb dL_law_160 (by decide) ?_
        refine lv_iadd hx hb dL_law_161 ?_
        refine va_sld hx hb hX hbl hbA hS (in_scr 4 (z := 4) rfl (by decide) hin hL) dL_law_162 ?_
        refine lv_i2l (v := (xs ((nI (5 * k)) + 4).toNatClampNeg).toInt64) hx hb dL_law_163 rfl ?_
        refine lv_ldc2 (v := 4294967295) hx hb hown (hts _ (gw_tbl mK_L_19)) dL_law_164 ?_
        refine lv_land hx hb dL_law_167 ?_
        refine lv_lor hx hb dL_law_168 ?_
        have hPc := hP.sub (ws' := [(y0, .inr (1, [.int th, .ref ym, .ref yr, .ref yg, .int pcv, .int trv, .int vav, .int dnv, .int wv, .int fa, .int wi, .int ne])), (ym, .inl (d1, 16384, .inl me)), (yr, .inl (d2, 4, .inl rg)), (yg, .inl (d3, 32, .inl rs))]) [4, 5, 6, 7] rfl
        have hDc := hD.sub (ws' := [(y0, .inr (1, [.int th, .ref ym, .ref yr, .ref yg, .int pcv, .int trv, .int vav, .int dnv, .int wv, .int fa, .int wi, .int ne])), (ym, .inl (d1, 16384, .inl me)), (yr, .inl (d2, 4, .inl rg)), (yg, .inl (d3, 32, .inl rs))]) [4, 5, 6, 7] (by decide) rfl
        have hKc := hK.sub (tys' := [(d1, .byte), (d2, .int), (d3, .int)]) [3, 4, 5] rfl
        have hFc := va_free (wc := [(y0, .inr (1, [.int th, .ref ym, .ref yr, .ref yg, .int pcv, .int trv, .int vav, .int dnv, .int wv, .int fa, .int wi, .int ne])), (ym, .inl (d1, 16384, .inl me)), (yr, .inl (d2, 4, .inl rg)), (yg, .inl (d3, 32, .inl rs))]) hD hS hA [4, 5, 6, 7] rfl
        refine va_calli (va_runV (As := [.int (xs ((nI (5 * k)) + 1).toNatClampNeg), .int (xs ((nI (5 * k)) + 2).toNatClampNeg), .long ((((xs ((nI (5 * k)) + 3).toNatClampNeg).toInt64) <<< ((32 : Int32).toInt64 &&& 63)) ||| (((xs ((nI (5 * k)) + 4).toNatClampNeg).toInt64) &&& 4294967295))]) (rest := [.int rC]) ⟨hx, hb, hml, hown, hts⟩ (c_m_poke l dC dI y0 ym yr yg d1 d2 d3 H.size th me rg rs pcv trv vav dnv wv fa wi ne (xs ((nI (5 * k)) + 1).toNatClampNeg) (xs ((nI (5 * k)) + 2).toNatClampNeg) ((((xs ((nI (5 * k)) + 3).toNatClampNeg).toInt64) <<< ((32 : Int32).toInt64 &&& 63)) ||| (((xs ((nI (5 * k)) + 4).toNatClampNeg).toInt64) &&& 4294967295))) (cwV 3 hts (gVL mL_L_25 mI_X1_poke mE_X1_poke mN_X1 mC_X1_poke) rfl rfl rfl (by decide +kernel) ⟨Nat.le_of_ble_eq_true rfl, Nat.le_of_ble_eq_true rfl⟩) ⟨fun a U g mk q => by obtain ⟨q0, q1, qP, qK, qD⟩ := q; exact ⟨q0, q1, qP, va_K.moved (u := U) (U := U.calling g mk a) (Vm.Alike.refl U.vm) qK, qD⟩, va_recv hKc hPc (ci := 1) (q0 := 0) rfl rfl, fun U hU hW => ⟨rfl, by rw [hU], by rw [hU]; exact hPc, va_K.moved hW.alike hKc, hDc.weaken (fun _ _ _ _ => trivial)⟩⟩ rfl rfl hl.1 rfl (lv_room (Nat.le_of_ble_eq_true rfl)) dL_law_169 ⟨(show _ ≤ 1034 by omega), (show _ ≤ 28770 by omega)⟩) hS (fun q _ h => hFc q h) hFc (fun rM uM t H1 locs ht hvm hw hB hz1 hk1 hS => ?_)
        have eM := hw
        obtain ⟨hP1, hK1, hD1⟩ := hB
        rw [ht] at hP1
        obtain ⟨hP, hD⟩ := va_join (wr := [(x0, .inr (0, [.ref xw, .ref xr, .ref xg, .int pcv, .int trv, .int vav, .int dnv])), (xw, .inl (c1, 4096, .inl uC)), (xr, .inl (c2, 4, .inl rg)), (xg, .inl (c3, 32, .inl rs)), (xo, .inl (c4, 1, .inr (.inl ov)))]) (w1 := [(y0, .inr (1, [.int uM.1, .ref ym, .ref yr, .ref yg, .int pcv, .int trv, .int vav, .int dnv, .int wv, .int fa, .int wi, .int ne])), (ym, .inl (d1, 16384, .inl uM.2)), (yr, .inl (d2, 4, .inl rg)), (yg, .inl (d3, 32, .inl rs))]) hP hD [4, 5, 6, 7] [0, 1, 2, 3, 8] rfl rfl (by decide) (by decide) hk1 hFc hP1 hD1
        have hP := hP.sub (ws' := [(x0, .inr (0, [.ref xw, .ref xr, .ref xg, .int pcv, .int trv, .int vav, .int dnv])), (xw, .inl (c1, 4096, .inl uC)), (xr, .inl (c2, 4, .inl rg)), (xg, .inl (c3, 32, .inl rs)), (y0, .inr (1, [.int uM.1, .ref ym, .ref yr, .ref yg, .int pcv, .int trv, .int vav, .int dnv, .int wv, .int fa, .int wi, .int ne])), (ym, .inl (d1, 16384, .inl uM.2)), (yr, .inl (d2, 4, .inl rg)), (yg, .inl (d3, 32, .inl rs)), (xo, .inl (c4, 1, .inr (.inl ov)))]) [0, 1, 2, 3, 5, 6, 7, 8, 4] rfl
        have hD := hD.sub (ws' := [(x0, .inr (0, [.ref xw, .ref xr, .ref xg, .int pcv, .int trv, .int vav, .int dnv])), (xw, .inl (c1, 4096, .inl uC)), (xr, .inl (c2, 4, .inl rg)), (xg, .inl (c3, 32, .inl rs)), (y0, .inr (1, [.int uM.1, .ref ym, .ref yr, .ref yg, .int pcv, .int trv, .int vav, .int dnv, .int wv, .int fa, .int wi, .int ne])), (ym, .inl (d1, 16384, .inl uM.2)), (yr, .inl (d2, 4, .inl rg)), (yg, .inl (d3, 32, .inl rs)), (xo, .inl (c4, 1, .inr (.inl ov)))]) [0, 1, 2, 3, 5, 6, 7, 8, 4] (by decide) rfl
        generalize H1 = H at hP hS ⊢
        refine lv_icmp_eq (tgt := 432) hx hb dL_law_172 (by decide) (fun cq => ?_) (fun cq => absurd ((congrArg Prod.fst eC.2).trans ((q_poke hR _ _ _).1.trans (congrArg Prod.fst eM.2).symm)) cq)
        refine lv_iinc (v := nI (5 * k) + 5) (lv' := [(4, .int (nI (5 * k) + 5)), (0, .ref b), (1, .ref x0), (2, .ref y0), (3, .ref xo)]) hx hb dL_law_432 hl (k := 0) rfl rfl (by decide) rfl (fun ls hl => ?_)
        refine lv_goto (tgt := 23) hx hb dL_law_435 (by decide) ?_
        refine W.widen (k := 9 + (k + 1)) (n := 20572 + 6 * (k + 1)) (by omega) (by omega) ?_
        have hl := lv_sub hl [0, 1, 2, 3, 4] rfl
        have hl : lv_has ls 7 [(4, .int (nI (5 * k) + 5)), (0, .ref b), (1, .ref x0), (2, .ref y0), (3, .ref xo)] := hl
        rw [show nI (5 * k) + 5 = nI (5 * (k + 1)) from nI_add (5 * k) 5] at hl
        exact ih (k + 1) (by omega) (by omega) uC rg rs pcv trv vav dnv uM.1 uM.2 rg rs pcv trv vav dnv wv fa wi ne ov (by rw [show uC = _ from congrArg Prod.snd eC.2, show uM.2 = _ from congrArg (fun z => z.2.2) eM.2]; exact ⟨(q_poke hR _ _ _).2, rfl, rfl, h00, rfl, rfl, rfl, rfl, hG⟩) H _ hP hD hS ls hl
      · by_cases o1 : op = 1
        · refine lv_tableIn (tgt := 177) (off := 138) hx hb dL_law_39 (by rw [o1]; decide) (by rw [o1]; decide) (by rw [o1] <;> rfl) (by decide) ?_
          refine lv_aload_n hx hb dL_law_177 rfl (lv_at hl 2 rfl) ?_
          refine lv_aload_n hx hb dL_law_178 rfl (lv_at hl 1 rfl) ?_
          refine lv_iload hx hb dL_law_179 (lv_at hl 0 rfl) ?_
          refine lv_iconst (v := 1) hx hb dL_law_181 (by decide) ?_
          refine lv_iadd hx hb dL_law_182 ?_
          refine va_sld hx hb hX hbl hbA hS (in_scr 1 (z := 1) rfl (by decide) hin hL) dL_law_183 ?_
          have hPc := hP.sub (ws' := [(x0, .inr (0, [.ref xw, .ref xr, .ref xg, .int pcv, .int trv, .int vav, .int dnv])), (xw, .inl (c1, 4096, .inl wd)), (xr, .inl (c2, 4, .inl rg)), (xg, .inl (c3, 32, .inl rs))]) [0, 1, 2, 3] rfl
          have hDc := hD.sub (ws' := [(x0, .inr (0, [.ref xw, .ref xr, .ref xg, .int pcv, .int trv, .int vav, .int dnv])), (xw, .inl (c1, 4096, .inl wd)), (xr, .inl (c2, 4, .inl rg)), (xg, .inl (c3, 32, .inl rs))]) [0, 1, 2, 3] (by decide) rfl
          have hKc := hK.sub (tys' := [(c1, .int), (c2, .int), (c3, .int)]) [0, 1, 2] rfl
          refine vp_callSi (W.runV (As := [.int (xs ((nI (5 * k)) + 1).toNatClampNeg)]) (rest := []) ⟨hx, hb, hml, hown, hts⟩ (c_peek l dC dI x0 xw xr xg c1 c2 c3 wd rg rs pcv trv vav dnv (xs ((nI (5 * k)) + 1).toNatClampNeg)) (cwV 1 hts (gVL mL_L_26 mI_X0_peek mE_X0_peek mN_X0 mC_X0_peek) rfl rfl rfl (by decide +kernel) ⟨Nat.le_of_ble_eq_true rfl, Nat.le_of_ble_eq_true rfl⟩) ⟨fun a U g mk q => by obtain ⟨q0, qP, qK⟩ := q; exact ⟨q0, qP, va_K.moved (u := U) (U := U.calling g mk a) (Vm.Alike.refl U.vm) qK⟩, va_recv hKc hPc (ci := 0) (q0 := 0) rfl rfl, fun U hU hW => ⟨rfl, by rw [hU]; exact hPc, va_K.moved hW.alike hKc⟩⟩ rfl rfl hl.1 rfl (lv_room (Nat.le_of_ble_eq_true rfl)) dL_law_184 ⟨(show _ ≤ 1034 by omega), (show _ ≤ 28770 by omega)⟩) (fun rC hw => ?_)
          have eC := hw
          refine lv_aload_n hx hb dL_law_187 rfl (lv_at hl 3 rfl) ?_
          refine lv_aload_n hx hb dL_law_188 rfl (lv_at hl 1 rfl) ?_
          refine lv_iload hx hb dL_law_189 (lv_at hl 0 rfl) ?_
          refine lv_iconst (v := 1) hx hb dL_law_191 (by decide) ?_
          refine lv_iadd hx hb dL_law_192 ?_
          refine va_sld hx hb hX hbl hbA hS (in_scr 1 (z := 1) rfl (by decide) hin hL) dL_law_193 ?_
          have hPc := hP.sub (ws' := [(y0, .inr (1, [.int th, .ref ym, .ref yr, .ref yg, .int pcv, .int trv, .int vav, .int dnv, .int wv, .int fa, .int wi, .int ne])), (ym, .inl (d1, 16384, .inl me)), (yr, .inl (d2, 4, .inl rg)), (yg, .inl (d3, 32, .inl rs))]) [4, 5, 6, 7] rfl
          have hDc := hD.sub (ws' := [(y0, .inr (1, [.int th, .ref ym, .ref yr, .ref yg, .int pcv, .int trv, .int vav, .int dnv, .int wv, .int fa, .int wi, .int ne])), (ym, .inl (d1, 16384, .inl me)), (yr, .inl (d2, 4, .inl rg)), (yg, .inl (d3, 32, .inl rs))]) [4, 5, 6, 7] (by decide) rfl
          have hKc := hK.sub (tys' := [(d1, .byte), (d2, .int), (d3, .int)]) [3, 4, 5] rfl
          have hFc := va_free (wc := [(y0, .inr (1, [.int th, .ref ym, .ref yr, .ref yg, .int pcv, .int trv, .int vav, .int dnv, .int wv, .int fa, .int wi, .int ne])), (ym, .inl (d1, 16384, .inl me)), (yr, .inl (d2, 4, .inl rg)), (yg, .inl (d3, 32, .inl rs))]) hD hS hA [4, 5, 6, 7] rfl
          refine va_calli (va_runV (As := [.int (xs ((nI (5 * k)) + 1).toNatClampNeg)]) (rest := [.int rC]) ⟨hx, hb, hml, hown, hts⟩ (c_m_peek l dC dI y0 ym yr yg d1 d2 d3 H.size th me rg rs pcv trv vav dnv wv fa wi ne (xs ((nI (5 * k)) + 1).toNatClampNeg)) (cwV 1 hts (gVL mL_L_29 mI_X1_peek mE_X1_peek mN_X1 mC_X1_peek) rfl rfl rfl (by decide +kernel) ⟨Nat.le_of_ble_eq_true rfl, Nat.le_of_ble_eq_true rfl⟩) ⟨fun a U g mk q => by obtain ⟨q0, q1, qP, qK, qD⟩ := q; exact ⟨q0, q1, qP, va_K.moved (u := U) (U := U.calling g mk a) (Vm.Alike.refl U.vm) qK, qD⟩, va_recv hKc hPc (ci := 1) (q0 := 0) rfl rfl, fun U hU hW => ⟨rfl, by rw [hU], by rw [hU]; exact hPc, va_K.moved hW.alike hKc, hDc.weaken (fun _ _ _ _ => trivial)⟩⟩ rfl rfl hl.1 rfl (lv_room (Nat.le_of_ble_eq_true rfl)) dL_law_194 ⟨(show _ ≤ 1034 by omega), (show _ ≤ 28770 by omega)⟩) hS (fun q _ h => hFc q h) hFc (fun rM uM t H1 locs ht hvm hw hB hz1 hk1 hS => ?_)
          have eM := hw
          obtain ⟨hP1, hK1, hD1⟩ := hB
          rw [ht] at hP1
          obtain ⟨hP, hD⟩ := va_join (wr := [(x0, .inr (0, [.ref xw, .ref xr, .ref xg, .int pcv, .int trv, .int vav, .int dnv])), (xw, .inl (c1, 4096, .inl wd)), (xr, .inl (c2, 4, .inl rg)), (xg, .inl (c3, 32, .inl rs)), (xo, .inl (c4, 1, .inr (.inl ov)))]) (w1 := [(y0, .inr (1, [.int uM, .ref ym, .ref yr, .ref yg, .int pcv, .int trv, .int vav, .int dnv, .int wv, .int fa, .int wi, .int ne])), (ym, .inl (d1, 16384, .inl me)), (yr, .inl (d2, 4, .inl rg)), (yg, .inl (d3, 32, .inl rs))]) hP hD [4, 5, 6, 7] [0, 1, 2, 3, 8] rfl rfl (by decide) (by decide) hk1 hFc hP1 hD1
          have hP := hP.sub (ws' := [(x0, .inr (0, [.ref xw, .ref xr, .ref xg, .int pcv, .int trv, .int vav, .int dnv])), (xw, .inl (c1, 4096, .inl wd)), (xr, .inl (c2, 4, .inl rg)), (xg, .inl (c3, 32, .inl rs)), (y0, .inr (1, [.int uM, .ref ym, .ref yr, .ref yg, .int pcv, .int trv, .int vav, .int dnv, .int wv, .int fa, .int wi, .int ne])), (ym, .inl (d1, 16384, .inl me)), (yr, .inl (d2, 4, .inl rg)), (yg, .inl (d3, 32, .inl rs)), (xo, .inl (c4, 1, .inr (.inl ov)))]) [0, 1, 2, 3, 5, 6, 7, 8, 4] rfl
          have hD := hD.sub (ws' := [(x0, .inr (0, [.ref xw, .ref xr, .ref xg, .int pcv, .int trv, .int vav, .int dnv])), (xw, .inl (c1, 4096, .inl wd)), (xr, .inl (c2, 4, .inl rg)), (xg, .inl (c3, 32, .inl rs)), (y0, .inr (1, [.int uM, .ref ym, .ref yr, .ref yg, .int pcv, .int trv, .int vav, .int dnv, .int wv, .int fa, .int wi, .int ne])), (ym, .inl (d1, 16384, .inl me)), (yr, .inl (d2, 4, .inl rg)), (yg, .inl (d3, 32, .inl rs)), (xo, .inl (c4, 1, .inr (.inl ov)))]) [0, 1, 2, 3, 5, 6, 7, 8, 4] (by decide) rfl
          generalize H1 = H at hP hS ⊢
          refine lv_icmp_eq (tgt := 432) hx hb dL_law_197 (by decide) (fun cq => ?_) (fun cq => absurd (eC.trans ((q_peek hR _).trans (congrArg Prod.fst eM).symm)) cq)
          refine lv_iinc (v := nI (5 * k) + 5) (lv' := [(4, .int (nI (5 * k) + 5)), (0, .ref b), (1, .ref x0), (2, .ref y0), (3, .ref xo)]) hx hb dL_law_432 hl (k := 0) rfl rfl (by decide) rfl (fun ls hl => ?_)
          refine lv_goto (tgt := 23) hx hb dL_law_435 (by decide) ?_
          refine W.widen (k := 9 + (k + 1)) (n := 20572 + 6 * (k + 1)) (by omega) (by omega) ?_
          have hl := lv_sub hl [0, 1, 2, 3, 4] rfl
          have hl : lv_has ls 7 [(4, .int (nI (5 * k) + 5)), (0, .ref b), (1, .ref x0), (2, .ref y0), (3, .ref xo)] := hl
          rw [show nI (5 * k) + 5 = nI (5 * (k + 1)) from nI_add (5 * k) 5] at hl
          exact ih (k + 1) (by omega) (by omega) wd rg rs pcv trv vav dnv uM me rg rs pcv trv vav dnv wv fa wi ne ov (⟨hR, rfl, rfl, h00, rfl, rfl, rfl, rfl, hG⟩) H _ hP hD hS ls hl
        · by_cases o2 : op = 2
          · refine lv_tableIn (tgt := 202) (off := 163) hx hb dL_law_39 (by rw [o2]; decide) (by rw [o2]; decide) (by rw [o2] <;> rfl) (by decide) ?_
            refine lv_aload_n hx hb dL_law_202 rfl (lv_at hl 2 rfl) ?_
            refine lv_aload_n hx hb dL_law_203 rfl (lv_at hl 1 rfl) ?_
            refine lv_iload hx hb dL_law_204 (lv_at hl 0 rfl) ?_
            refine lv_iconst (v := 1) hx hb dL_law_206 (by decide) ?_
            refine lv_iadd hx hb dL_law_207 ?_
            refine va_sld hx hb hX hbl hbA hS (in_scr 1 (z := 1) rfl (by decide) hin hL) dL_law_208 ?_
            refine lv_aload_n hx hb dL_law_209 rfl (lv_at hl 1 rfl) ?_
            refine lv_iload hx hb dL_law_210 (lv_at hl 0 rfl) ?_
            refine lv_iconst (v := 2) hx hb dL_law_212 (by decide) ?_
            refine lv_iadd hx hb dL_law_213 ?_
            refine va_sld hx hb hX hbl hbA hS (in_scr 2 (z := 2) rfl (by decide) hin hL) dL_law_214 ?_
            have hPc := hP.sub (ws' := [(x0, .inr (0, [.ref xw, .ref xr, .ref xg, .int pcv, .int trv, .int vav, .int dnv])), (xw, .inl (c1, 4096, .inl wd)), (xr, .inl (c2, 4, .inl rg)), (xg, .inl (c3, 32, .inl rs))]) [0, 1, 2, 3] rfl
            have hDc := hD.sub (ws' := [(x0, .inr (0, [.ref xw, .ref xr, .ref xg, .int pcv, .int trv, .int vav, .int dnv])), (xw, .inl (c1, 4096, .inl wd)), (xr, .inl (c2, 4, .inl rg)), (xg, .inl (c3, 32, .inl rs))]) [0, 1, 2, 3] (by decide) rfl
            have hKc := hK.sub (tys' := [(c1, .int), (c2, .int), (c3, .int)]) [0, 1, 2] rfl
            have hFc := va_free (wc := [(x0, .inr (0, [.ref xw, .ref xr, .ref xg, .int pcv, .int trv, .int vav, .int dnv])), (xw, .inl (c1, 4096, .inl wd)), (xr, .inl (c2, 4, .inl rg)), (xg, .inl (c3, 32, .inl rs))]) hD hS hA [0, 1, 2, 3] rfl
            refine va_calli (va_runV (As := [.int (xs ((nI (5 * k)) + 1).toNatClampNeg), .int (xs ((nI (5 * k)) + 2).toNatClampNeg)]) (rest := []) ⟨hx, hb, hml, hown, hts⟩ (c_protect l dC dI x0 xw xr xg c1 c2 c3 H.size wd rg rs pcv trv vav dnv (xs ((nI (5 * k)) + 1).toNatClampNeg) (xs ((nI (5 * k)) + 2).toNatClampNeg)) (cwV 2 hts (gVL mL_L_30 mI_X0_protect mE_X0_protect mN_X0 mC_X0_protect) rfl rfl rfl (by decide +kernel) ⟨Nat.le_of_ble_eq_true rfl, Nat.le_of_ble_eq_true rfl⟩) ⟨fun a U g mk q => by obtain ⟨q0, q1, qP, qK, qD⟩ := q; exact ⟨q0, q1, qP, va_K.moved (u := U) (U := U.calling g mk a) (Vm.Alike.refl U.vm) qK, qD⟩, va_recv hKc hPc (ci := 0) (q0 := 0) rfl rfl, fun U hU hW => ⟨rfl, by rw [hU], by rw [hU]; exact hPc, va_K.moved hW.alike hKc, hDc.weaken (fun _ _ _ _ => trivial)⟩⟩ rfl rfl hl.1 rfl (lv_room (Nat.le_of_ble_eq_true rfl)) dL_law_215 ⟨(show _ ≤ 1034 by omega), (show _ ≤ 28770 by omega)⟩) hS (fun q _ h => hFc q h) hFc (fun rC uC t H1 locs ht hvm hw hB hz1 hk1 hS => ?_)
            have eC := hw
            obtain ⟨hP1, hK1, hD1⟩ := hB
            rw [ht] at hP1
            obtain ⟨hP, hD⟩ := va_join (wr := [(y0, .inr (1, [.int th, .ref ym, .ref yr, .ref yg, .int pcv, .int trv, .int vav, .int dnv, .int wv, .int fa, .int wi, .int ne])), (ym, .inl (d1, 16384, .inl me)), (yr, .inl (d2, 4, .inl rg)), (yg, .inl (d3, 32, .inl rs)), (xo, .inl (c4, 1, .inr (.inl ov)))]) (w1 := [(x0, .inr (0, [.ref xw, .ref xr, .ref xg, .int pcv, .int trv, .int vav, .int dnv])), (xw, .inl (c1, 4096, .inl wd)), (xr, .inl (c2, 4, .inl uC)), (xg, .inl (c3, 32, .inl rs))]) hP hD [0, 1, 2, 3] [4, 5, 6, 7, 8] rfl rfl (by decide) (by decide) hk1 hFc hP1 hD1
            have hP := hP.sub (ws' := [(x0, .inr (0, [.ref xw, .ref xr, .ref xg, .int pcv, .int trv, .int vav, .int dnv])), (xw, .inl (c1, 4096, .inl wd)), (xr, .inl (c2, 4, .inl uC)), (xg, .inl (c3, 32, .inl rs)), (y0, .inr (1, [.int th, .ref ym, .ref yr, .ref yg, .int pcv, .int trv, .int vav, .int dnv, .int wv, .int fa, .int wi, .int ne])), (ym, .inl (d1, 16384, .inl me)), (yr, .inl (d2, 4, .inl rg)), (yg, .inl (d3, 32, .inl rs)), (xo, .inl (c4, 1, .inr (.inl ov)))]) [5, 6, 7, 8, 0, 1, 2, 3, 4] rfl
            have hD := hD.sub (ws' := [(x0, .inr (0, [.ref xw, .ref xr, .ref xg, .int pcv, .int trv, .int vav, .int dnv])), (xw, .inl (c1, 4096, .inl wd)), (xr, .inl (c2, 4, .inl uC)), (xg, .inl (c3, 32, .inl rs)), (y0, .inr (1, [.int th, .ref ym, .ref yr, .ref yg, .int pcv, .int trv, .int vav, .int dnv, .int wv, .int fa, .int wi, .int ne])), (ym, .inl (d1, 16384, .inl me)), (yr, .inl (d2, 4, .inl rg)), (yg, .inl (d3, 32, .inl rs)), (xo, .inl (c4, 1, .inr (.inl ov)))]) [5, 6, 7, 8, 0, 1, 2, 3, 4] (by decide) rfl
            generalize H1 = H at hP hS ⊢
            refine lv_aload_n hx hb dL_law_218 rfl (lv_at hl 3 rfl) ?_
            refine lv_aload_n hx hb dL_law_219 rfl (lv_at hl 1 rfl) ?_
            refine lv_iload hx hb dL_law_220 (lv_at hl 0 rfl) ?_
            refine lv_iconst (v := 1) hx hb dL_law_222 (by decide) ?_
            refine lv_iadd hx hb dL_law_223 ?_
            refine va_sld hx hb hX hbl hbA hS (in_scr 1 (z := 1) rfl (by decide) hin hL) dL_law_224 ?_
            refine lv_aload_n hx hb dL_law_225 rfl (lv_at hl 1 rfl) ?_
            refine lv_iload hx hb dL_law_226 (lv_at hl 0 rfl) ?_
            refine lv_iconst (v := 2) hx hb dL_law_228 (by decide) ?_
            refine lv_iadd hx hb dL_law_229 ?_
            refine va_sld hx hb hX hbl hbA hS (in_scr 2 (z := 2) rfl (by decide) hin hL) dL_law_230 ?_
            have hPc := hP.sub (ws' := [(y0, .inr (1, [.int th, .ref ym, .ref yr, .ref yg, .int pcv, .int trv, .int vav, .int dnv, .int wv, .int fa, .int wi, .int ne])), (ym, .inl (d1, 16384, .inl me)), (yr, .inl (d2, 4, .inl rg)), (yg, .inl (d3, 32, .inl rs))]) [4, 5, 6, 7] rfl
            have hDc := hD.sub (ws' := [(y0, .inr (1, [.int th, .ref ym, .ref yr, .ref yg, .int pcv, .int trv, .int vav, .int dnv, .int wv, .int fa, .int wi, .int ne])), (ym, .inl (d1, 16384, .inl me)), (yr, .inl (d2, 4, .inl rg)), (yg, .inl (d3, 32, .inl rs))]) [4, 5, 6, 7] (by decide) rfl
            have hKc := hK.sub (tys' := [(d1, .byte), (d2, .int), (d3, .int)]) [3, 4, 5] rfl
            have hFc := va_free (wc := [(y0, .inr (1, [.int th, .ref ym, .ref yr, .ref yg, .int pcv, .int trv, .int vav, .int dnv, .int wv, .int fa, .int wi, .int ne])), (ym, .inl (d1, 16384, .inl me)), (yr, .inl (d2, 4, .inl rg)), (yg, .inl (d3, 32, .inl rs))]) hD hS hA [4, 5, 6, 7] rfl
            refine va_calli (va_runV (As := [.int (xs ((nI (5 * k)) + 1).toNatClampNeg), .int (xs ((nI (5 * k)) + 2).toNatClampNeg)]) (rest := [.int rC]) ⟨hx, hb, hml, hown, hts⟩ (c_m_protect l dC dI y0 ym yr yg d1 d2 d3 H.size th me rg rs pcv trv vav dnv wv fa wi ne (xs ((nI (5 * k)) + 1).toNatClampNeg) (xs ((nI (5 * k)) + 2).toNatClampNeg)) (cwV 2 hts (gVL mL_L_34 mI_X1_protect mE_X1_protect mN_X1 mC_X1_protect) rfl rfl rfl (by decide +kernel) ⟨Nat.le_of_ble_eq_true rfl, Nat.le_of_ble_eq_true rfl⟩) ⟨fun a U g mk q => by obtain ⟨q0, q1, qP, qK, qD⟩ := q; exact ⟨q0, q1, qP, va_K.moved (u := U) (U := U.calling g mk a) (Vm.Alike.refl U.vm) qK, qD⟩, va_recv hKc hPc (ci := 1) (q0 := 0) rfl rfl, fun U hU hW => ⟨rfl, by rw [hU], by rw [hU]; exact hPc, va_K.moved hW.alike hKc, hDc.weaken (fun _ _ _ _ => trivial)⟩⟩ rfl rfl hl.1 rfl (lv_room (Nat.le_of_ble_eq_true rfl)) dL_law_231 ⟨(show _ ≤ 1034 by omega), (show _ ≤ 28770 by omega)⟩) hS (fun q _ h => hFc q h) hFc (fun rM uM t H1 locs ht hvm hw hB hz1 hk1 hS => ?_)
            have eM := hw
            obtain ⟨hP1, hK1, hD1⟩ := hB
            rw [ht] at hP1
            obtain ⟨hP, hD⟩ := va_join (wr := [(x0, .inr (0, [.ref xw, .ref xr, .ref xg, .int pcv, .int trv, .int vav, .int dnv])), (xw, .inl (c1, 4096, .inl wd)), (xr, .inl (c2, 4, .inl uC)), (xg, .inl (c3, 32, .inl rs)), (xo, .inl (c4, 1, .inr (.inl ov)))]) (w1 := [(y0, .inr (1, [.int uM.1, .ref ym, .ref yr, .ref yg, .int pcv, .int trv, .int vav, .int dnv, .int wv, .int fa, .int wi, .int ne])), (ym, .inl (d1, 16384, .inl me)), (yr, .inl (d2, 4, .inl uM.2)), (yg, .inl (d3, 32, .inl rs))]) hP hD [4, 5, 6, 7] [0, 1, 2, 3, 8] rfl rfl (by decide) (by decide) hk1 hFc hP1 hD1
            have hP := hP.sub (ws' := [(x0, .inr (0, [.ref xw, .ref xr, .ref xg, .int pcv, .int trv, .int vav, .int dnv])), (xw, .inl (c1, 4096, .inl wd)), (xr, .inl (c2, 4, .inl uC)), (xg, .inl (c3, 32, .inl rs)), (y0, .inr (1, [.int uM.1, .ref ym, .ref yr, .ref yg, .int pcv, .int trv, .int vav, .int dnv, .int wv, .int fa, .int wi, .int ne])), (ym, .inl (d1, 16384, .inl me)), (yr, .inl (d2, 4, .inl uM.2)), (yg, .inl (d3, 32, .inl rs)), (xo, .inl (c4, 1, .inr (.inl ov)))]) [0, 1, 2, 3, 5, 6, 7, 8, 4] rfl
            have hD := hD.sub (ws' := [(x0, .inr (0, [.ref xw, .ref xr, .ref xg, .int pcv, .int trv, .int vav, .int dnv])), (xw, .inl (c1, 4096, .inl wd)), (xr, .inl (c2, 4, .inl uC)), (xg, .inl (c3, 32, .inl rs)), (y0, .inr (1, [.int uM.1, .ref ym, .ref yr, .ref yg, .int pcv, .int trv, .int vav, .int dnv, .int wv, .int fa, .int wi, .int ne])), (ym, .inl (d1, 16384, .inl me)), (yr, .inl (d2, 4, .inl uM.2)), (yg, .inl (d3, 32, .inl rs)), (xo, .inl (c4, 1, .inr (.inl ov)))]) [0, 1, 2, 3, 5, 6, 7, 8, 4] (by decide) rfl
            generalize H1 = H at hP hS ⊢
            refine lv_icmp_eq (tgt := 432) hx hb dL_law_234 (by decide) (fun cq => ?_) (fun cq => absurd ((congrArg Prod.fst eC.2).trans ((q_protect _ _ _).1.trans (congrArg Prod.fst eM.2).symm)) cq)
            refine lv_iinc (v := nI (5 * k) + 5) (lv' := [(4, .int (nI (5 * k) + 5)), (0, .ref b), (1, .ref x0), (2, .ref y0), (3, .ref xo)]) hx hb dL_law_432 hl (k := 0) rfl rfl (by decide) rfl (fun ls hl => ?_)
            refine lv_goto (tgt := 23) hx hb dL_law_435 (by decide) ?_
            refine W.widen (k := 9 + (k + 1)) (n := 20572 + 6 * (k + 1)) (by omega) (by omega) ?_
            have hl := lv_sub hl [0, 1, 2, 3, 4] rfl
            have hl : lv_has ls 7 [(4, .int (nI (5 * k) + 5)), (0, .ref b), (1, .ref x0), (2, .ref y0), (3, .ref xo)] := hl
            rw [show nI (5 * k) + 5 = nI (5 * (k + 1)) from nI_add (5 * k) 5] at hl
            exact ih (k + 1) (by omega) (by omega) wd uC rs pcv trv vav dnv uM.1 me uM.2 rs pcv trv vav dnv wv fa wi ne ov (⟨hR, by rw [show uC = _ from congrArg Prod.snd eC.2, show uM.2 = _ from congrArg (fun z => z.2.2) eM.2]; exact (q_protect _ _ _).2, rfl, h00, rfl, rfl, rfl, rfl, by rw [show uC = _ from congrArg Prod.snd eC.2]; exact q_protectG hG _ _⟩) H _ hP hD hS ls hl
          · by_cases o3 : op = 3
            · refine lv_tableIn (tgt := 239) (off := 200) hx hb dL_law_39 (by rw [o3]; decide) (by rw [o3]; decide) (by rw [o3] <;> rfl) (by decide) ?_
              refine lv_aload_n hx hb dL_law_239 rfl (lv_at hl 2 rfl) ?_
              refine lv_aload_n hx hb dL_law_240 rfl (lv_at hl 1 rfl) ?_
              refine lv_iload hx hb dL_law_241 (lv_at hl 0 rfl) ?_
              refine lv_iconst (v := 1) hx hb dL_law_243 (by decide) ?_
              refine lv_iadd hx hb dL_law_244 ?_
              refine va_sld hx hb hX hbl hbA hS (in_scr 1 (z := 1) rfl (by decide) hin hL) dL_law_245 ?_
              refine lv_aload_n hx hb dL_law_246 rfl (lv_at hl 1 rfl) ?_
              refine lv_iload hx hb dL_law_247 (lv_at hl 0 rfl) ?_
              refine lv_iconst (v := 2) hx hb dL_law_249 (by decide) ?_
              refine lv_iadd hx hb dL_law_250 ?_
              refine va_sld hx hb hX hbl hbA hS (in_scr 2 (z := 2) rfl (by decide) hin hL) dL_law_251 ?_
              have hPc := hP.sub (ws' := [(x0, .inr (0, [.ref xw, .ref xr, .ref xg, .int pcv, .int trv, .int vav, .int dnv])), (xw, .inl (c1, 4096, .inl wd)), (xr, .inl (c2, 4, .inl rg)), (xg, .inl (c3, 32, .inl rs))]) [0, 1, 2, 3] rfl
              have hDc := hD.sub (ws' := [(x0, .inr (0, [.ref xw, .ref xr, .ref xg, .int pcv, .int trv, .int vav, .int dnv])), (xw, .inl (c1, 4096, .inl wd)), (xr, .inl (c2, 4, .inl rg)), (xg, .inl (c3, 32, .inl rs))]) [0, 1, 2, 3] (by decide) rfl
              have hKc := hK.sub (tys' := [(c1, .int), (c2, .int), (c3, .int)]) [0, 1, 2] rfl
              have hFc := va_free (wc := [(x0, .inr (0, [.ref xw, .ref xr, .ref xg, .int pcv, .int trv, .int vav, .int dnv])), (xw, .inl (c1, 4096, .inl wd)), (xr, .inl (c2, 4, .inl rg)), (xg, .inl (c3, 32, .inl rs))]) hD hS hA [0, 1, 2, 3] rfl
              refine va_calli (va_runV (As := [.int (xs ((nI (5 * k)) + 1).toNatClampNeg), .int (xs ((nI (5 * k)) + 2).toNatClampNeg)]) (rest := []) ⟨hx, hb, hml, hown, hts⟩ (c_set l dC dI x0 xw xr xg c1 c2 c3 H.size wd rg rs pcv trv vav dnv (xs ((nI (5 * k)) + 1).toNatClampNeg) (xs ((nI (5 * k)) + 2).toNatClampNeg)) (cwV 2 hts (gVL mL_L_35 mI_X0_set mE_X0_set mN_X0 mC_X0_set) rfl rfl rfl (by decide +kernel) ⟨Nat.le_of_ble_eq_true rfl, Nat.le_of_ble_eq_true rfl⟩) ⟨fun a U g mk q => by obtain ⟨q0, q1, qP, qK, qD⟩ := q; exact ⟨q0, q1, qP, va_K.moved (u := U) (U := U.calling g mk a) (Vm.Alike.refl U.vm) qK, qD⟩, va_recv hKc hPc (ci := 0) (q0 := 0) rfl rfl, fun U hU hW => ⟨rfl, by rw [hU], by rw [hU]; exact hPc, va_K.moved hW.alike hKc, hDc.weaken (fun _ _ _ _ => trivial)⟩⟩ rfl rfl hl.1 rfl (lv_room (Nat.le_of_ble_eq_true rfl)) dL_law_252 ⟨(show _ ≤ 1034 by omega), (show _ ≤ 28770 by omega)⟩) hS (fun q _ h => hFc q h) hFc (fun rC uC t H1 locs ht hvm hw hB hz1 hk1 hS => ?_)
              have eC := hw
              obtain ⟨hP1, hK1, hD1⟩ := hB
              rw [ht] at hP1
              obtain ⟨hP, hD⟩ := va_join (wr := [(y0, .inr (1, [.int th, .ref ym, .ref yr, .ref yg, .int pcv, .int trv, .int vav, .int dnv, .int wv, .int fa, .int wi, .int ne])), (ym, .inl (d1, 16384, .inl me)), (yr, .inl (d2, 4, .inl rg)), (yg, .inl (d3, 32, .inl rs)), (xo, .inl (c4, 1, .inr (.inl ov)))]) (w1 := [(x0, .inr (0, [.ref xw, .ref xr, .ref xg, .int pcv, .int trv, .int vav, .int dnv])), (xw, .inl (c1, 4096, .inl wd)), (xr, .inl (c2, 4, .inl rg)), (xg, .inl (c3, 32, .inl uC))]) hP hD [0, 1, 2, 3] [4, 5, 6, 7, 8] rfl rfl (by decide) (by decide) hk1 hFc hP1 hD1
              have hP := hP.sub (ws' := [(x0, .inr (0, [.ref xw, .ref xr, .ref xg, .int pcv, .int trv, .int vav, .int dnv])), (xw, .inl (c1, 4096, .inl wd)), (xr, .inl (c2, 4, .inl rg)), (xg, .inl (c3, 32, .inl uC)), (y0, .inr (1, [.int th, .ref ym, .ref yr, .ref yg, .int pcv, .int trv, .int vav, .int dnv, .int wv, .int fa, .int wi, .int ne])), (ym, .inl (d1, 16384, .inl me)), (yr, .inl (d2, 4, .inl rg)), (yg, .inl (d3, 32, .inl rs)), (xo, .inl (c4, 1, .inr (.inl ov)))]) [5, 6, 7, 8, 0, 1, 2, 3, 4] rfl
              have hD := hD.sub (ws' := [(x0, .inr (0, [.ref xw, .ref xr, .ref xg, .int pcv, .int trv, .int vav, .int dnv])), (xw, .inl (c1, 4096, .inl wd)), (xr, .inl (c2, 4, .inl rg)), (xg, .inl (c3, 32, .inl uC)), (y0, .inr (1, [.int th, .ref ym, .ref yr, .ref yg, .int pcv, .int trv, .int vav, .int dnv, .int wv, .int fa, .int wi, .int ne])), (ym, .inl (d1, 16384, .inl me)), (yr, .inl (d2, 4, .inl rg)), (yg, .inl (d3, 32, .inl rs)), (xo, .inl (c4, 1, .inr (.inl ov)))]) [5, 6, 7, 8, 0, 1, 2, 3, 4] (by decide) rfl
              generalize H1 = H at hP hS ⊢
              refine lv_aload_n hx hb dL_law_255 rfl (lv_at hl 3 rfl) ?_
              refine lv_aload_n hx hb dL_law_256 rfl (lv_at hl 1 rfl) ?_
              refine lv_iload hx hb dL_law_257 (lv_at hl 0 rfl) ?_
              refine lv_iconst (v := 1) hx hb dL_law_259 (by decide) ?_
              refine lv_iadd hx hb dL_law_260 ?_
              refine va_sld hx hb hX hbl hbA hS (in_scr 1 (z := 1) rfl (by decide) hin hL) dL_law_261 ?_
              refine lv_aload_n hx hb dL_law_262 rfl (lv_at hl 1 rfl) ?_
              refine lv_iload hx hb dL_law_263 (lv_at hl 0 rfl) ?_
              refine lv_iconst (v := 2) hx hb dL_law_265 (by decide) ?_
              refine lv_iadd hx hb dL_law_266 ?_
              refine va_sld hx hb hX hbl hbA hS (in_scr 2 (z := 2) rfl (by decide) hin hL) dL_law_267 ?_
              have hPc := hP.sub (ws' := [(y0, .inr (1, [.int th, .ref ym, .ref yr, .ref yg, .int pcv, .int trv, .int vav, .int dnv, .int wv, .int fa, .int wi, .int ne])), (ym, .inl (d1, 16384, .inl me)), (yr, .inl (d2, 4, .inl rg)), (yg, .inl (d3, 32, .inl rs))]) [4, 5, 6, 7] rfl
              have hDc := hD.sub (ws' := [(y0, .inr (1, [.int th, .ref ym, .ref yr, .ref yg, .int pcv, .int trv, .int vav, .int dnv, .int wv, .int fa, .int wi, .int ne])), (ym, .inl (d1, 16384, .inl me)), (yr, .inl (d2, 4, .inl rg)), (yg, .inl (d3, 32, .inl rs))]) [4, 5, 6, 7] (by decide) rfl
              have hKc := hK.sub (tys' := [(d1, .byte), (d2, .int), (d3, .int)]) [3, 4, 5] rfl
              have hFc := va_free (wc := [(y0, .inr (1, [.int th, .ref ym, .ref yr, .ref yg, .int pcv, .int trv, .int vav, .int dnv, .int wv, .int fa, .int wi, .int ne])), (ym, .inl (d1, 16384, .inl me)), (yr, .inl (d2, 4, .inl rg)), (yg, .inl (d3, 32, .inl rs))]) hD hS hA [4, 5, 6, 7] rfl
              refine va_calli (va_runV (As := [.int (xs ((nI (5 * k)) + 1).toNatClampNeg), .int (xs ((nI (5 * k)) + 2).toNatClampNeg)]) (rest := [.int rC]) ⟨hx, hb, hml, hown, hts⟩ (c_m_set l dC dI y0 ym yr yg d1 d2 d3 H.size th me rg rs pcv trv vav dnv wv fa wi ne (xs ((nI (5 * k)) + 1).toNatClampNeg) (xs ((nI (5 * k)) + 2).toNatClampNeg)) (cwV 2 hts (gVL mL_L_38 mI_X1_set mE_X1_set mN_X1 mC_X1_set) rfl rfl rfl (by decide +kernel) ⟨Nat.le_of_ble_eq_true rfl, Nat.le_of_ble_eq_true rfl⟩) ⟨fun a U g mk q => by obtain ⟨q0, q1, qP, qK, qD⟩ := q; exact ⟨q0, q1, qP, va_K.moved (u := U) (U := U.calling g mk a) (Vm.Alike.refl U.vm) qK, qD⟩, va_recv hKc hPc (ci := 1) (q0 := 0) rfl rfl, fun U hU hW => ⟨rfl, by rw [hU], by rw [hU]; exact hPc, va_K.moved hW.alike hKc, hDc.weaken (fun _ _ _ _ => trivial)⟩⟩ rfl rfl hl.1 rfl (lv_room (Nat.le_of_ble_eq_true rfl)) dL_law_268 ⟨(show _ ≤ 1034 by omega), (show _ ≤ 28770 by omega)⟩) hS (fun q _ h => hFc q h) hFc (fun rM uM t H1 locs ht hvm hw hB hz1 hk1 hS => ?_)
              have eM := hw
              obtain ⟨hP1, hK1, hD1⟩ := hB
              rw [ht] at hP1
              obtain ⟨hP, hD⟩ := va_join (wr := [(x0, .inr (0, [.ref xw, .ref xr, .ref xg, .int pcv, .int trv, .int vav, .int dnv])), (xw, .inl (c1, 4096, .inl wd)), (xr, .inl (c2, 4, .inl rg)), (xg, .inl (c3, 32, .inl uC)), (xo, .inl (c4, 1, .inr (.inl ov)))]) (w1 := [(y0, .inr (1, [.int uM.1, .ref ym, .ref yr, .ref yg, .int pcv, .int trv, .int vav, .int dnv, .int wv, .int fa, .int wi, .int ne])), (ym, .inl (d1, 16384, .inl me)), (yr, .inl (d2, 4, .inl rg)), (yg, .inl (d3, 32, .inl uM.2))]) hP hD [4, 5, 6, 7] [0, 1, 2, 3, 8] rfl rfl (by decide) (by decide) hk1 hFc hP1 hD1
              have hP := hP.sub (ws' := [(x0, .inr (0, [.ref xw, .ref xr, .ref xg, .int pcv, .int trv, .int vav, .int dnv])), (xw, .inl (c1, 4096, .inl wd)), (xr, .inl (c2, 4, .inl rg)), (xg, .inl (c3, 32, .inl uC)), (y0, .inr (1, [.int uM.1, .ref ym, .ref yr, .ref yg, .int pcv, .int trv, .int vav, .int dnv, .int wv, .int fa, .int wi, .int ne])), (ym, .inl (d1, 16384, .inl me)), (yr, .inl (d2, 4, .inl rg)), (yg, .inl (d3, 32, .inl uM.2)), (xo, .inl (c4, 1, .inr (.inl ov)))]) [0, 1, 2, 3, 5, 6, 7, 8, 4] rfl
              have hD := hD.sub (ws' := [(x0, .inr (0, [.ref xw, .ref xr, .ref xg, .int pcv, .int trv, .int vav, .int dnv])), (xw, .inl (c1, 4096, .inl wd)), (xr, .inl (c2, 4, .inl rg)), (xg, .inl (c3, 32, .inl uC)), (y0, .inr (1, [.int uM.1, .ref ym, .ref yr, .ref yg, .int pcv, .int trv, .int vav, .int dnv, .int wv, .int fa, .int wi, .int ne])), (ym, .inl (d1, 16384, .inl me)), (yr, .inl (d2, 4, .inl rg)), (yg, .inl (d3, 32, .inl uM.2)), (xo, .inl (c4, 1, .inr (.inl ov)))]) [0, 1, 2, 3, 5, 6, 7, 8, 4] (by decide) rfl
              generalize H1 = H at hP hS ⊢
              refine lv_icmp_eq (tgt := 432) hx hb dL_law_271 (by decide) (fun cq => ?_) (fun cq => absurd ((congrArg Prod.fst eC.2).trans ((q_set h00 _ _).1.trans (congrArg Prod.fst eM.2).symm)) cq)
              refine lv_iinc (v := nI (5 * k) + 5) (lv' := [(4, .int (nI (5 * k) + 5)), (0, .ref b), (1, .ref x0), (2, .ref y0), (3, .ref xo)]) hx hb dL_law_432 hl (k := 0) rfl rfl (by decide) rfl (fun ls hl => ?_)
              refine lv_goto (tgt := 23) hx hb dL_law_435 (by decide) ?_
              refine W.widen (k := 9 + (k + 1)) (n := 20572 + 6 * (k + 1)) (by omega) (by omega) ?_
              have hl := lv_sub hl [0, 1, 2, 3, 4] rfl
              have hl : lv_has ls 7 [(4, .int (nI (5 * k) + 5)), (0, .ref b), (1, .ref x0), (2, .ref y0), (3, .ref xo)] := hl
              rw [show nI (5 * k) + 5 = nI (5 * (k + 1)) from nI_add (5 * k) 5] at hl
              exact ih (k + 1) (by omega) (by omega) wd rg uC pcv trv vav dnv uM.1 me rg uM.2 pcv trv vav dnv wv fa wi ne ov (⟨hR, rfl, by rw [show uC = _ from congrArg Prod.snd eC.2, show uM.2 = _ from congrArg (fun z => z.2.2) eM.2]; exact (q_set h00 _ _).2.1, by rw [show uC = _ from congrArg Prod.snd eC.2]; exact (q_set h00 _ _).2.2, rfl, rfl, rfl, rfl, hG⟩) H _ hP hD hS ls hl
            · by_cases o4 : op = 4
              · refine lv_tableIn (tgt := 276) (off := 237) hx hb dL_law_39 (by rw [o4]; decide) (by rw [o4]; decide) (by rw [o4] <;> rfl) (by decide) ?_
                refine lv_aload_n hx hb dL_law_276 rfl (lv_at hl 2 rfl) ?_
                refine lv_aload_n hx hb dL_law_277 rfl (lv_at hl 1 rfl) ?_
                refine lv_iload hx hb dL_law_278 (lv_at hl 0 rfl) ?_
                refine lv_iconst (v := 1) hx hb dL_law_280 (by decide) ?_
                refine lv_iadd hx hb dL_law_281 ?_
                refine va_sld hx hb hX hbl hbA hS (in_scr 1 (z := 1) rfl (by decide) hin hL) dL_law_282 ?_
                have hPc := hP.sub (ws' := [(x0, .inr (0, [.ref xw, .ref xr, .ref xg, .int pcv, .int trv, .int vav, .int dnv])), (xw, .inl (c1, 4096, .inl wd)), (xr, .inl (c2, 4, .inl rg)), (xg, .inl (c3, 32, .inl rs))]) [0, 1, 2, 3] rfl
                have hDc := hD.sub (ws' := [(x0, .inr (0, [.ref xw, .ref xr, .ref xg, .int pcv, .int trv, .int vav, .int dnv])), (xw, .inl (c1, 4096, .inl wd)), (xr, .inl (c2, 4, .inl rg)), (xg, .inl (c3, 32, .inl rs))]) [0, 1, 2, 3] (by decide) rfl
                have hKc := hK.sub (tys' := [(c1, .int), (c2, .int), (c3, .int)]) [0, 1, 2] rfl
                refine vp_callSi (W.runV (As := [.int (xs ((nI (5 * k)) + 1).toNatClampNeg)]) (rest := []) ⟨hx, hb, hml, hown, hts⟩ (c_register l dC dI x0 xw xr xg c1 c2 c3 wd rg rs pcv trv vav dnv (xs ((nI (5 * k)) + 1).toNatClampNeg)) (cwV 1 hts (gVL mL_L_39 mI_X0_register mE_X0_register mN_X0 mC_X0_register) rfl rfl rfl (by decide +kernel) ⟨Nat.le_of_ble_eq_true rfl, Nat.le_of_ble_eq_true rfl⟩) ⟨fun a U g mk q => by obtain ⟨q0, qP, qK⟩ := q; exact ⟨q0, qP, va_K.moved (u := U) (U := U.calling g mk a) (Vm.Alike.refl U.vm) qK⟩, va_recv hKc hPc (ci := 0) (q0 := 0) rfl rfl, fun U hU hW => ⟨rfl, by rw [hU]; exact hPc, va_K.moved hW.alike hKc⟩⟩ rfl rfl hl.1 rfl (lv_room (Nat.le_of_ble_eq_true rfl)) dL_law_283 ⟨(show _ ≤ 1034 by omega), (show _ ≤ 28770 by omega)⟩) (fun rC hw => ?_)
                have eC := hw
                refine lv_aload_n hx hb dL_law_286 rfl (lv_at hl 3 rfl) ?_
                refine lv_aload_n hx hb dL_law_287 rfl (lv_at hl 1 rfl) ?_
                refine lv_iload hx hb dL_law_288 (lv_at hl 0 rfl) ?_
                refine lv_iconst (v := 1) hx hb dL_law_290 (by decide) ?_
                refine lv_iadd hx hb dL_law_291 ?_
                refine va_sld hx hb hX hbl hbA hS (in_scr 1 (z := 1) rfl (by decide) hin hL) dL_law_292 ?_
                have hPc := hP.sub (ws' := [(y0, .inr (1, [.int th, .ref ym, .ref yr, .ref yg, .int pcv, .int trv, .int vav, .int dnv, .int wv, .int fa, .int wi, .int ne])), (ym, .inl (d1, 16384, .inl me)), (yr, .inl (d2, 4, .inl rg)), (yg, .inl (d3, 32, .inl rs))]) [4, 5, 6, 7] rfl
                have hDc := hD.sub (ws' := [(y0, .inr (1, [.int th, .ref ym, .ref yr, .ref yg, .int pcv, .int trv, .int vav, .int dnv, .int wv, .int fa, .int wi, .int ne])), (ym, .inl (d1, 16384, .inl me)), (yr, .inl (d2, 4, .inl rg)), (yg, .inl (d3, 32, .inl rs))]) [4, 5, 6, 7] (by decide) rfl
                have hKc := hK.sub (tys' := [(d1, .byte), (d2, .int), (d3, .int)]) [3, 4, 5] rfl
                have hFc := va_free (wc := [(y0, .inr (1, [.int th, .ref ym, .ref yr, .ref yg, .int pcv, .int trv, .int vav, .int dnv, .int wv, .int fa, .int wi, .int ne])), (ym, .inl (d1, 16384, .inl me)), (yr, .inl (d2, 4, .inl rg)), (yg, .inl (d3, 32, .inl rs))]) hD hS hA [4, 5, 6, 7] rfl
                refine va_calli (va_runV (As := [.int (xs ((nI (5 * k)) + 1).toNatClampNeg)]) (rest := [.int rC]) ⟨hx, hb, hml, hown, hts⟩ (c_m_register l dC dI y0 ym yr yg d1 d2 d3 H.size th me rg rs pcv trv vav dnv wv fa wi ne (xs ((nI (5 * k)) + 1).toNatClampNeg)) (cwV 1 hts (gVL mL_L_42 mI_X1_register mE_X1_register mN_X1 mC_X1_register) rfl rfl rfl (by decide +kernel) ⟨Nat.le_of_ble_eq_true rfl, Nat.le_of_ble_eq_true rfl⟩) ⟨fun a U g mk q => by obtain ⟨q0, q1, qP, qK, qD⟩ := q; exact ⟨q0, q1, qP, va_K.moved (u := U) (U := U.calling g mk a) (Vm.Alike.refl U.vm) qK, qD⟩, va_recv hKc hPc (ci := 1) (q0 := 0) rfl rfl, fun U hU hW => ⟨rfl, by rw [hU], by rw [hU]; exact hPc, va_K.moved hW.alike hKc, hDc.weaken (fun _ _ _ _ => trivial)⟩⟩ rfl rfl hl.1 rfl (lv_room (Nat.le_of_ble_eq_true rfl)) dL_law_293 ⟨(show _ ≤ 1034 by omega), (show _ ≤ 28770 by omega)⟩) hS (fun q _ h => hFc q h) hFc (fun rM uM t H1 locs ht hvm hw hB hz1 hk1 hS => ?_)
                have eM := hw
                obtain ⟨hP1, hK1, hD1⟩ := hB
                rw [ht] at hP1
                obtain ⟨hP, hD⟩ := va_join (wr := [(x0, .inr (0, [.ref xw, .ref xr, .ref xg, .int pcv, .int trv, .int vav, .int dnv])), (xw, .inl (c1, 4096, .inl wd)), (xr, .inl (c2, 4, .inl rg)), (xg, .inl (c3, 32, .inl rs)), (xo, .inl (c4, 1, .inr (.inl ov)))]) (w1 := [(y0, .inr (1, [.int uM, .ref ym, .ref yr, .ref yg, .int pcv, .int trv, .int vav, .int dnv, .int wv, .int fa, .int wi, .int ne])), (ym, .inl (d1, 16384, .inl me)), (yr, .inl (d2, 4, .inl rg)), (yg, .inl (d3, 32, .inl rs))]) hP hD [4, 5, 6, 7] [0, 1, 2, 3, 8] rfl rfl (by decide) (by decide) hk1 hFc hP1 hD1
                have hP := hP.sub (ws' := [(x0, .inr (0, [.ref xw, .ref xr, .ref xg, .int pcv, .int trv, .int vav, .int dnv])), (xw, .inl (c1, 4096, .inl wd)), (xr, .inl (c2, 4, .inl rg)), (xg, .inl (c3, 32, .inl rs)), (y0, .inr (1, [.int uM, .ref ym, .ref yr, .ref yg, .int pcv, .int trv, .int vav, .int dnv, .int wv, .int fa, .int wi, .int ne])), (ym, .inl (d1, 16384, .inl me)), (yr, .inl (d2, 4, .inl rg)), (yg, .inl (d3, 32, .inl rs)), (xo, .inl (c4, 1, .inr (.inl ov)))]) [0, 1, 2, 3, 5, 6, 7, 8, 4] rfl
                have hD := hD.sub (ws' := [(x0, .inr (0, [.ref xw, .ref xr, .ref xg, .int pcv, .int trv, .int vav, .int dnv])), (xw, .inl (c1, 4096, .inl wd)), (xr, .inl (c2, 4, .inl rg)), (xg, .inl (c3, 32, .inl rs)), (y0, .inr (1, [.int uM, .ref ym, .ref yr, .ref yg, .int pcv, .int trv, .int vav, .int dnv, .int wv, .int fa, .int wi, .int ne])), (ym, .inl (d1, 16384, .inl me)), (yr, .inl (d2, 4, .inl rg)), (yg, .inl (d3, 32, .inl rs)), (xo, .inl (c4, 1, .inr (.inl ov)))]) [0, 1, 2, 3, 5, 6, 7, 8, 4] (by decide) rfl
                generalize H1 = H at hP hS ⊢
                refine lv_icmp_eq (tgt := 432) hx hb dL_law_296 (by decide) (fun cq => ?_) (fun cq => absurd (eC.trans ((q_register _ _).trans (congrArg Prod.fst eM).symm)) cq)
                refine lv_iinc (v := nI (5 * k) + 5) (lv' := [(4, .int (nI (5 * k) + 5)), (0, .ref b), (1, .ref x0), (2, .ref y0), (3, .ref xo)]) hx hb dL_law_432 hl (k := 0) rfl rfl (by decide) rfl (fun ls hl => ?_)
                refine lv_goto (tgt := 23) hx hb dL_law_435 (by decide) ?_
                refine W.widen (k := 9 + (k + 1)) (n := 20572 + 6 * (k + 1)) (by omega) (by omega) ?_
                have hl := lv_sub hl [0, 1, 2, 3, 4] rfl
                have hl : lv_has ls 7 [(4, .int (nI (5 * k) + 5)), (0, .ref b), (1, .ref x0), (2, .ref y0), (3, .ref xo)] := hl
                rw [show nI (5 * k) + 5 = nI (5 * (k + 1)) from nI_add (5 * k) 5] at hl
                exact ih (k + 1) (by omega) (by omega) wd rg rs pcv trv vav dnv uM me rg rs pcv trv vav dnv wv fa wi ne ov (⟨hR, rfl, rfl, h00, rfl, rfl, rfl, rfl, hG⟩) H _ hP hD hS ls hl
              · by_cases o5 : op = 5
                · refine lv_tableIn (tgt := 301) (off := 262) hx hb dL_law_39 (by rw [o5]; decide) (by rw [o5]; decide) (by rw [o5] <;> rfl) (by decide) ?_
                  refine lv_aload_n hx hb dL_law_301 rfl (lv_at hl 2 rfl) ?_
                  refine lv_aload_n hx hb dL_law_302 rfl (lv_at hl 1 rfl) ?_
                  refine lv_iload hx hb dL_law_303 (lv_at hl 0 rfl) ?_
                  refine lv_iconst (v := 1) hx hb dL_law_305 (by decide) ?_
                  refine lv_iadd hx hb dL_law_306 ?_
                  refine va_sld hx hb hX hbl hbA hS (in_scr 1 (z := 1) rfl (by decide) hin hL) dL_law_307 ?_
                  have hPc := hP.sub (ws' := [(x0, .inr (0, [.ref xw, .ref xr, .ref xg, .int pcv, .int trv, .int vav, .int dnv])), (xw, .inl (c1, 4096, .inl wd)), (xr, .inl (c2, 4, .inl rg)), (xg, .inl (c3, 32, .inl rs))]) [0, 1, 2, 3] rfl
                  have hDc := hD.sub (ws' := [(x0, .inr (0, [.ref xw, .ref xr, .ref xg, .int pcv, .int trv, .int vav, .int dnv])), (xw, .inl (c1, 4096, .inl wd)), (xr, .inl (c2, 4, .inl rg)), (xg, .inl (c3, 32, .inl rs))]) [0, 1, 2, 3] (by decide) rfl
                  have hKc := hK.sub (tys' := [(c1, .int), (c2, .int), (c3, .int)]) [0, 1, 2] rfl
                  have hFc := va_free (wc := [(x0, .inr (0, [.ref xw, .ref xr, .ref xg, .int pcv, .int trv, .int vav, .int dnv])), (xw, .inl (c1, 4096, .inl wd)), (xr, .inl (c2, 4, .inl rg)), (xg, .inl (c3, 32, .inl rs))]) hD hS hA [0, 1, 2, 3] rfl
                  refine va_callv (va_runV (As := [.int (xs ((nI (5 * k)) + 1).toNatClampNeg)]) (rest := []) ⟨hx, hb, hml, hown, hts⟩ (c_jump l dC dI x0 xw xr xg c1 c2 c3 H.size wd rg rs pcv trv vav dnv (xs ((nI (5 * k)) + 1).toNatClampNeg)) (cwV 1 hts (gVL mL_L_43 mI_X0_jump mE_X0_jump mN_X0 mC_X0_jump) rfl rfl rfl (by decide +kernel) ⟨Nat.le_of_ble_eq_true rfl, Nat.le_of_ble_eq_true rfl⟩) ⟨fun a U g mk q => by obtain ⟨q0, q1, qP, qK, qD⟩ := q; exact ⟨q0, q1, qP, va_K.moved (u := U) (U := U.calling g mk a) (Vm.Alike.refl U.vm) qK, qD⟩, va_recv hKc hPc (ci := 0) (q0 := 0) rfl rfl, fun U hU hW => ⟨rfl, by rw [hU], by rw [hU]; exact hPc, va_K.moved hW.alike hKc, hDc.weaken (fun _ _ _ _ => trivial)⟩⟩ rfl rfl hl.1 rfl (lv_room (Nat.le_of_ble_eq_true rfl)) dL_law_308 ⟨(show _ ≤ 1034 by omega), (show _ ≤ 28770 by omega)⟩) hS (fun q _ h => hFc q h) hFc (fun uC t H1 locs ht hvm hw hB hz1 hk1 hS => ?_)
                  have eC := hw
                  obtain ⟨hP1, hK1, hD1⟩ := hB
                  rw [ht] at hP1
                  obtain ⟨hP, hD⟩ := va_join (wr := [(y0, .inr (1, [.int th, .ref ym, .ref yr, .ref yg, .int pcv, .int trv, .int vav, .int dnv, .int wv, .int fa, .int wi, .int ne])), (ym, .inl (d1, 16384, .inl me)), (yr, .inl (d2, 4, .inl rg)), (yg, .inl (d3, 32, .inl rs)), (xo, .inl (c4, 1, .inr (.inl ov)))]) (w1 := [(x0, .inr (0, [.ref xw, .ref xr, .ref xg, .int uC, .int trv, .int vav, .int dnv])), (xw, .inl (c1, 4096, .inl wd)), (xr, .inl (c2, 4, .inl rg)), (xg, .inl (c3, 32, .inl rs))]) hP hD [0, 1, 2, 3] [4, 5, 6, 7, 8] rfl rfl (by decide) (by decide) hk1 hFc hP1 hD1
                  have hP := hP.sub (ws' := [(x0, .inr (0, [.ref xw, .ref xr, .ref xg, .int uC, .int trv, .int vav, .int dnv])), (xw, .inl (c1, 4096, .inl wd)), (xr, .inl (c2, 4, .inl rg)), (xg, .inl (c3, 32, .inl rs)), (y0, .inr (1, [.int th, .ref ym, .ref yr, .ref yg, .int pcv, .int trv, .int vav, .int dnv, .int wv, .int fa, .int wi, .int ne])), (ym, .inl (d1, 16384, .inl me)), (yr, .inl (d2, 4, .inl rg)), (yg, .inl (d3, 32, .inl rs)), (xo, .inl (c4, 1, .inr (.inl ov)))]) [5, 6, 7, 8, 0, 1, 2, 3, 4] rfl
                  have hD := hD.sub (ws' := [(x0, .inr (0, [.ref xw, .ref xr, .ref xg, .int uC, .int trv, .int vav, .int dnv])), (xw, .inl (c1, 4096, .inl wd)), (xr, .inl (c2, 4, .inl rg)), (xg, .inl (c3, 32, .inl rs)), (y0, .inr (1, [.int th, .ref ym, .ref yr, .ref yg, .int pcv, .int trv, .int vav, .int dnv, .int wv, .int fa, .int wi, .int ne])), (ym, .inl (d1, 16384, .inl me)), (yr, .inl (d2, 4, .inl rg)), (yg, .inl (d3, 32, .inl rs)), (xo, .inl (c4, 1, .inr (.inl ov)))]) [5, 6, 7, 8, 0, 1, 2, 3, 4] (by decide) rfl
                  generalize H1 = H at hP hS ⊢
                  refine lv_aload_n hx hb dL_law_311 rfl (lv_at hl 3 rfl) ?_
                  refine lv_aload_n hx hb dL_law_312 rfl (lv_at hl 1 rfl) ?_
                  refine lv_iload hx hb dL_law_313 (lv_at hl 0 rfl) ?_
                  refine lv_iconst (v := 1) hx hb dL_law_315 (by decide) ?_
                  refine lv_iadd hx hb dL_law_316 ?_
                  refine va_sld hx hb hX hbl hbA hS (in_scr 1 (z := 1) rfl (by decide) hin hL) dL_law_317 ?_
                  have hPc := hP.sub (ws' := [(y0, .inr (1, [.int th, .ref ym, .ref yr, .ref yg, .int pcv, .int trv, .int vav, .int dnv, .int wv, .int fa, .int wi, .int ne])), (ym, .inl (d1, 16384, .inl me)), (yr, .inl (d2, 4, .inl rg)), (yg, .inl (d3, 32, .inl rs))]) [4, 5, 6, 7] rfl
                  have hDc := hD.sub (ws' := [(y0, .inr (1, [.int th, .ref ym, .ref yr, .ref yg, .int pcv, .int trv, .int vav, .int dnv, .int wv, .int fa, .int wi, .int ne])), (ym, .inl (d1, 16384, .inl me)), (yr, .inl (d2, 4, .inl rg)), (yg, .inl (d3, 32, .inl rs))]) [4, 5, 6, 7] (by decide) rfl
                  have hKc := hK.sub (tys' := [(d1, .byte), (d2, .int), (d3, .int)]) [3, 4, 5] rfl
                  have hFc := va_free (wc := [(y0, .inr (1, [.int th, .ref ym, .ref yr, .ref yg, .int pcv, .int trv, .int vav, .int dnv, .int wv, .int fa, .int wi, .int ne])), (ym, .inl (d1, 16384, .inl me)), (yr, .inl (d2, 4, .inl rg)), (yg, .inl (d3, 32, .inl rs))]) hD hS hA [4, 5, 6, 7] rfl
                  refine va_callv (va_runV (As := [.int (xs ((nI (5 * k)) + 1).toNatClampNeg)]) (rest := []) ⟨hx, hb, hml, hown, hts⟩ (c_m_jump l dC dI y0 ym yr yg d1 d2 d3 H.size th me rg rs pcv trv vav dnv wv fa wi ne (xs ((nI (5 * k)) + 1).toNatClampNeg)) (cwV 1 hts (gVL mL_L_47 mI_X1_jump mE_X1_jump mN_X1 mC_X1_jump) rfl rfl rfl (by decide +kernel) ⟨Nat.le_of_ble_eq_true rfl, Nat.le_of_ble_eq_true rfl⟩) ⟨fun a U g mk q => by obtain ⟨q0, q1, qP, qK, qD⟩ := q; exact ⟨q0, q1, qP, va_K.moved (u := U) (U := U.calling g mk a) (Vm.Alike.refl U.vm) qK, qD⟩, va_recv hKc hPc (ci := 1) (q0 := 0) rfl rfl, fun U hU hW => ⟨rfl, by rw [hU], by rw [hU]; exact hPc, va_K.moved hW.alike hKc, hDc.weaken (fun _ _ _ _ => trivial)⟩⟩ rfl rfl hl.1 rfl (lv_room (Nat.le_of_ble_eq_true rfl)) dL_law_318 ⟨(show _ ≤ 1034 by omega), (show _ ≤ 28770 by omega)⟩) hS (fun q _ h => hFc q h) hFc (fun uM t H1 locs ht hvm hw hB hz1 hk1 hS => ?_)
                  have eM := hw
                  obtain ⟨hP1, hK1, hD1⟩ := hB
                  rw [ht] at hP1
                  obtain ⟨hP, hD⟩ := va_join (wr := [(x0, .inr (0, [.ref xw, .ref xr, .ref xg, .int uC, .int trv, .int vav, .int dnv])), (xw, .inl (c1, 4096, .inl wd)), (xr, .inl (c2, 4, .inl rg)), (xg, .inl (c3, 32, .inl rs)), (xo, .inl (c4, 1, .inr (.inl ov)))]) (w1 := [(y0, .inr (1, [.int uM.1, .ref ym, .ref yr, .ref yg, .int uM.2, .int trv, .int vav, .int dnv, .int wv, .int fa, .int wi, .int ne])), (ym, .inl (d1, 16384, .inl me)), (yr, .inl (d2, 4, .inl rg)), (yg, .inl (d3, 32, .inl rs))]) hP hD [4, 5, 6, 7] [0, 1, 2, 3, 8] rfl rfl (by decide) (by decide) hk1 hFc hP1 hD1
                  have hP := hP.sub (ws' := [(x0, .inr (0, [.ref xw, .ref xr, .ref xg, .int uC, .int trv, .int vav, .int dnv])), (xw, .inl (c1, 4096, .inl wd)), (xr, .inl (c2, 4, .inl rg)), (xg, .inl (c3, 32, .inl rs)), (y0, .inr (1, [.int uM.1, .ref ym, .ref yr, .ref yg, .int uM.2, .int trv, .int vav, .int dnv, .int wv, .int fa, .int wi, .int ne])), (ym, .inl (d1, 16384, .inl me)), (yr, .inl (d2, 4, .inl rg)), (yg, .inl (d3, 32, .inl rs)), (xo, .inl (c4, 1, .inr (.inl ov)))]) [0, 1, 2, 3, 5, 6, 7, 8, 4] rfl
                  have hD := hD.sub (ws' := [(x0, .inr (0, [.ref xw, .ref xr, .ref xg, .int uC, .int trv, .int vav, .int dnv])), (xw, .inl (c1, 4096, .inl wd)), (xr, .inl (c2, 4, .inl rg)), (xg, .inl (c3, 32, .inl rs)), (y0, .inr (1, [.int uM.1, .ref ym, .ref yr, .ref yg, .int uM.2, .int trv, .int vav, .int dnv, .int wv, .int fa, .int wi, .int ne])), (ym, .inl (d1, 16384, .inl me)), (yr, .inl (d2, 4, .inl rg)), (yg, .inl (d3, 32, .inl rs)), (xo, .inl (c4, 1, .inr (.inl ov)))]) [0, 1, 2, 3, 5, 6, 7, 8, 4] (by decide) rfl
                  generalize H1 = H at hP hS ⊢
                  refine lv_goto (tgt := 432) hx hb dL_law_321 (by decide) ?_
                  refine lv_iinc (v := nI (5 * k) + 5) (lv' := [(4, .int (nI (5 * k) + 5)), (0, .ref b), (1, .ref x0), (2, .ref y0), (3, .ref xo)]) hx hb dL_law_432 hl (k := 0) rfl rfl (by decide) rfl (fun ls hl => ?_)
                  refine lv_goto (tgt := 23) hx hb dL_law_435 (by decide) ?_
                  refine W.widen (k := 9 + (k + 1)) (n := 20572 + 6 * (k + 1)) (by omega) (by omega) ?_
                  have hl := lv_sub hl [0, 1, 2, 3, 4] rfl
                  have hl : lv_has ls 7 [(4, .int (nI (5 * k) + 5)), (0, .ref b), (1, .ref x0), (2, .ref y0), (3, .ref xo)] := hl
                  rw [show nI (5 * k) + 5 = nI (5 * (k + 1)) from nI_add (5 * k) 5] at hl
                  exact ih (k + 1) (by omega) (by omega) wd rg rs uC trv vav dnv uM.1 me rg rs uM.2 trv vav dnv wv fa wi ne ov (⟨hR, rfl, rfl, h00, by rw [eC, eM]; rfl, rfl, rfl, rfl, hG⟩) H _ hP hD hS ls hl
                · by_cases o6 : op = 6
                  · refine lv_tableIn (tgt := 324) (off := 285) hx hb dL_law_39 (by rw [o6]; decide) (by rw [o6]; decide) (by rw [o6] <;> rfl) (by decide) ?_
                    refine lv_aload_n hx hb dL_law_324 rfl (lv_at hl 2 rfl) ?_
                    have hPc := hP.sub (ws' := [(x0, .inr (0, [.ref xw, .ref xr, .ref xg, .int pcv, .int trv, .int vav, .int dnv])), (xw, .inl (c1, 4096, .inl wd)), (xr, .inl (c2, 4, .inl rg)), (xg, .inl (c3, 32, .inl rs))]) [0, 1, 2, 3] rfl
                    have hDc := hD.sub (ws' := [(x0, .inr (0, [.ref xw, .ref xr, .ref xg, .int pcv, .int trv, .int vav, .int dnv])), (xw, .inl (c1, 4096, .inl wd)), (xr, .inl (c2, 4, .inl rg)), (xg, .inl (c3, 32, .inl rs))]) [0, 1, 2, 3] (by decide) rfl
                    have hKc := hK.sub (tys' := [(c1, .int), (c2, .int), (c3, .int)]) [0, 1, 2] rfl
                    refine vp_callSi (W.runV (As := []) (rest := []) ⟨hx, hb, hml, hown, hts⟩ (c_get_pc l dC dI x0 xw xr xg c1 c2 c3 wd rg rs pcv trv vav dnv) (cwV 0 hts (gVL mL_L_48 mI_X0_pc mE_X0_pc mN_X0 mC_X0_pc) rfl rfl rfl (by decide +kernel) ⟨Nat.le_of_ble_eq_true rfl, Nat.le_of_ble_eq_true rfl⟩) ⟨fun a U g mk q => by obtain ⟨q0, qP, qK⟩ := q; exact ⟨q0, qP, va_K.moved (u := U) (U := U.calling g mk a) (Vm.Alike.refl U.vm) qK⟩, va_recv hKc hPc (ci := 0) (q0 := 0) rfl rfl, fun U hU hW => ⟨rfl, by rw [hU]; exact hPc, va_K.moved hW.alike hKc⟩⟩ rfl rfl hl.1 rfl (lv_room (Nat.le_of_ble_eq_true rfl)) dL_law_325 ⟨(show _ ≤ 1034 by omega), (show _ ≤ 28770 by omega)⟩) (fun rC hw => ?_)
                    have eC := hw
                    refine lv_aload_n hx hb dL_law_328 rfl (lv_at hl 3 rfl) ?_
                    have hPc := hP.sub (ws' := [(y0, .inr (1, [.int th, .ref ym, .ref yr, .ref yg, .int pcv, .int trv, .int vav, .int dnv, .int wv, .int fa, .int wi, .int ne])), (ym, .inl (d1, 16384, .inl me)), (yr, .inl (d2, 4, .inl rg)), (yg, .inl (d3, 32, .inl rs))]) [4, 5, 6, 7] rfl
                    have hDc := hD.sub (ws' := [(y0, .inr (1, [.int th, .ref ym, .ref yr, .ref yg, .int pcv, .int trv, .int vav, .int dnv, .int wv, .int fa, .int wi, .int ne])), (ym, .inl (d1, 16384, .inl me)), (yr, .inl (d2, 4, .inl rg)), (yg, .inl (d3, 32, .inl rs))]) [4, 5, 6, 7] (by decide) rfl
                    have hKc := hK.sub (tys' := [(d1, .byte), (d2, .int), (d3, .int)]) [3, 4, 5] rfl
                    have hFc := va_free (wc := [(y0, .inr (1, [.int th, .ref ym, .ref yr, .ref yg, .int pcv, .int trv, .int vav, .int dnv, .int wv, .int fa, .int wi, .int ne])), (ym, .inl (d1, 16384, .inl me)), (yr, .inl (d2, 4, .inl rg)), (yg, .inl (d3, 32, .inl rs))]) hD hS hA [4, 5, 6, 7] rfl
                    refine va_calli (va_runV (As := []) (rest := [.int rC]) ⟨hx, hb, hml, hown, hts⟩ (c_m_get_pc l dC dI y0 ym yr yg d1 d2 d3 H.size th me rg rs pcv trv vav dnv wv fa wi ne) (cwV 0 hts (gVL mL_L_52 mI_X1_pc mE_X1_pc mN_X1 mC_X1_pc) rfl rfl rfl (by decide +kernel) ⟨Nat.le_of_ble_eq_true rfl, Nat.le_of_ble_eq_true rfl⟩) ⟨fun a U g mk q => by obtain ⟨q0, q1, qP, qK, qD⟩ := q; exact ⟨q0, q1, qP, va_K.moved (u := U) (U := U.calling g mk a) (Vm.Alike.refl U.vm) qK, qD⟩, va_recv hKc hPc (ci := 1) (q0 := 0) rfl rfl, fun U hU hW => ⟨rfl, by rw [hU], by rw [hU]; exact hPc, va_K.moved hW.alike hKc, hDc.weaken (fun _ _ _ _ => trivial)⟩⟩ rfl rfl hl.1 rfl (lv_room (Nat.le_of_ble_eq_true rfl)) dL_law_329 ⟨(show _ ≤ 1034 by omega), (show _ ≤ 28770 by omega)⟩) hS (fun q _ h => hFc q h) hFc (fun rM uM t H1 locs ht hvm hw hB hz1 hk1 hS => ?_)
                    have eM := hw
                    obtain ⟨hP1, hK1, hD1⟩ := hB
                    rw [ht] at hP1
                    obtain ⟨hP, hD⟩ := va_join (wr := [(x0, .inr (0, [.ref xw, .ref xr, .ref xg, .int pcv, .int trv, .int vav, .int dnv])), (xw, .inl (c1, 4096, .inl wd)), (xr, .inl (c2, 4, .inl rg)), (xg, .inl (c3, 32, .inl rs)), (xo, .inl (c4, 1, .inr (.inl ov)))]) (w1 := [(y0, .inr (1, [.int uM, .ref ym, .ref yr, .ref yg, .int pcv, .int trv, .int vav, .int dnv, .int wv, .int fa, .int wi, .int ne])), (ym, .inl (d1, 16384, .inl me)), (yr, .inl (d2, 4, .inl rg)), (yg, .inl (d3, 32, .inl rs))]) hP hD [4, 5, 6, 7] [0, 1, 2, 3, 8] rfl rfl (by decide) (by decide) hk1 hFc hP1 hD1
                    have hP := hP.sub (ws' := [(x0, .inr (0, [.ref xw, .ref xr, .ref xg, .int pcv, .int trv, .int vav, .int dnv])), (xw, .inl (c1, 4096, .inl wd)), (xr, .inl (c2, 4, .inl rg)), (xg, .inl (c3, 32, .inl rs)), (y0, .inr (1, [.int uM, .ref ym, .ref yr, .ref yg, .int pcv, .int trv, .int vav, .int dnv, .int wv, .int fa, .int wi, .int ne])), (ym, .inl (d1, 16384, .inl me)), (yr, .inl (d2, 4, .inl rg)), (yg, .inl (d3, 32, .inl rs)), (xo, .inl (c4, 1, .inr (.inl ov)))]) [0, 1, 2, 3, 5, 6, 7, 8, 4] rfl
                    have hD := hD.sub (ws' := [(x0, .inr (0, [.ref xw, .ref xr, .ref xg, .int pcv, .int trv, .int vav, .int dnv])), (xw, .inl (c1, 4096, .inl wd)), (xr, .inl (c2, 4, .inl rg)), (xg, .inl (c3, 32, .inl rs)), (y0, .inr (1, [.int uM, .ref ym, .ref yr, .ref yg, .int pcv, .int trv, .int vav, .int dnv, .int wv, .int fa, .int wi, .int ne])), (ym, .inl (d1, 16384, .inl me)), (yr, .inl (d2, 4, .inl rg)), (yg, .inl (d3, 32, .inl rs)), (xo, .inl (c4, 1, .inr (.inl ov)))]) [0, 1, 2, 3, 5, 6, 7, 8, 4] (by decide) rfl
                    generalize H1 = H at hP hS ⊢
                    refine lv_icmp_eq (tgt := 432) hx hb dL_law_332 (by decide) (fun cq => ?_) (fun cq => absurd (eC.trans (congrArg Prod.fst eM).symm) cq)
                    refine lv_iinc (v := nI (5 * k) + 5) (lv' := [(4, .int (nI (5 * k) + 5)), (0, .ref b), (1, .ref x0), (2, .ref y0), (3, .ref xo)]) hx hb dL_law_432 hl (k := 0) rfl rfl (by decide) rfl (fun ls hl => ?_)
                    refine lv_goto (tgt := 23) hx hb dL_law_435 (by decide) ?_
                    refine W.widen (k := 9 + (k + 1)) (n := 20572 + 6 * (k + 1)) (by omega) (by omega) ?_
                    have hl := lv_sub hl [0, 1, 2, 3, 4] rfl
                    have hl : lv_has ls 7 [(4, .int (nI (5 * k) + 5)), (0, .ref b), (1, .ref x0), (2, .ref y0), (3, .ref xo)] := hl
                    rw [show nI (5 * k) + 5 = nI (5 * (k + 1)) from nI_add (5 * k) 5] at hl
                    exact ih (k + 1) (by omega) (by omega) wd rg rs pcv trv vav dnv uM me rg rs pcv trv vav dnv wv fa wi ne ov (⟨hR, rfl, rfl, h00, rfl, rfl, rfl, rfl, hG⟩) H _ hP hD hS ls hl
                  · by_cases o7 : op = 7
                    · refine lv_tableIn (tgt := 337) (off := 298) hx hb dL_law_39 (by rw [o7]; decide) (by rw [o7]; decide) (by rw [o7] <;> rfl) (by decide) ?_
                      refine lv_aload_n hx hb dL_law_337 rfl (lv_at hl 2 rfl) ?_
                      refine lv_aload_n hx hb dL_law_338 rfl (lv_at hl 1 rfl) ?_
                      refine lv_iload hx hb dL_law_339 (lv_at hl 0 rfl) ?_
                      refine lv_iconst (v := 1) hx hb dL_law_341 (by decide) ?_
                      refine lv_iadd hx hb dL_law_342 ?_
                      refine va_sld hx hb hX hbl hbA hS (in_scr 1 (z := 1) rfl (by decide) hin hL) dL_law_343 ?_
                      refine lv_aload_n hx hb dL_law_344 rfl (lv_at hl 4 rfl) ?_
                      have hPc := hP.sub (ws' := [(x0, .inr (0, [.ref xw, .ref xr, .ref xg, .int pcv, .int trv, .int vav, .int dnv])), (xw, .inl (c1, 4096, .inl wd)), (xr, .inl (c2, 4, .inl rg)), (xg, .inl (c3, 32, .inl rs)), (xo, .inl (c4, 1, .inr (.inl ov)))]) [0, 1, 2, 3, 8] rfl
                      have hDc := hD.sub (ws' := [(x0, .inr (0, [.ref xw, .ref xr, .ref xg, .int pcv, .int trv, .int vav, .int dnv])), (xw, .inl (c1, 4096, .inl wd)), (xr, .inl (c2, 4, .inl rg)), (xg, .inl (c3, 32, .inl rs)), (xo, .inl (c4, 1, .inr (.inl ov)))]) [0, 1, 2, 3, 8] (by decide) rfl
                      have hKc := hK.sub (tys' := [(c1, .int), (c2, .int), (c3, .int), (c4, .long)]) [0, 1, 2, 6] rfl
                      have hFc := va_free (wc := [(x0, .inr (0, [.ref xw, .ref xr, .ref xg, .int pcv, .int trv, .int vav, .int dnv])), (xw, .inl (c1, 4096, .inl wd)), (xr, .inl (c2, 4, .inl rg)), (xg, .inl (c3, 32, .inl rs)), (xo, .inl (c4, 1, .inr (.inl ov)))]) hD hS hA [0, 1, 2, 3, 8] rfl
                      refine va_calli (vx_runSW (As := [.ref x0, .int (xs ((nI (5 * k)) + 1).toNatClampNeg), .ref xo]) (rest := []) ⟨hx, hb, hml, hown, hts⟩ (c_L_run l hst dC dI x0 xw xr xg c1 c2 c3 xo c4 H.size sa wd rg rs pcv trv vav dnv ov (xs ((nI (5 * k)) + 1).toNatClampNeg)) (vx_cwSW 3 hts (gSL mL_L_53 mS_L_run mN_L mC_L_run) rfl rfl rfl (by decide +kernel) ⟨Nat.le_of_ble_eq_true rfl, Nat.le_of_ble_eq_true rfl⟩) ⟨fun a U g mk q => by obtain ⟨q0, q1, qP, qK, qD, z1, z2, z3, z4⟩ := q; exact ⟨q0, q1, qP, va_K.moved (u := U) (U := U.calling g mk a) (Vm.Alike.refl U.vm) qK, qD, vx_Zq.moved (u := U) (U := U.calling g mk a) (Vm.Alike.refl U.vm) z1, vx_Zq.moved (u := U) (U := U.calling g mk a) (Vm.Alike.refl U.vm) z2, vk_R.same (u := U) (U := U.calling g mk a) rfl z3, xBs_same (u := U) (U := U.calling g mk a) rfl z4⟩, fun U hU hW => ⟨rfl, by rw [hU], by rw [hU]; exact hPc, va_K.moved hW.alike hKc, hDc.weaken (fun _ _ _ _ => trivial), by rw [hU]; exact vx_Zq.moved hW.alike ((hzU.kept hS.2.1).narrow hFc), by rw [hU]; exact vx_Zq.moved hW.alike ((hzN.kept hS.2.1).narrow hFc), vk_R.warm hW hstr, xBs_warm hW hcast⟩⟩ rfl rfl hl.1 rfl (lv_room (Nat.le_of_ble_eq_true rfl)) dL_law_345 ⟨(show _ ≤ 1034 by omega), (show _ ≤ 28770 by omega)⟩) hS (fun q _ h => hFc q h) hFc (fun rC uC t H1 locs ht hvm hw hB hz1 hk1 hS => ?_)
                      have eC := hw
                      obtain ⟨hP1, hK1, hD1⟩ := hB
                      rw [ht] at hP1
                      obtain ⟨hP, hD⟩ := va_join (wr := [(y0, .inr (1, [.int th, .ref ym, .ref yr, .ref yg, .int pcv, .int trv, .int vav, .int dnv, .int wv, .int fa, .int wi, .int ne])), (ym, .inl (d1, 16384, .inl me)), (yr, .inl (d2, 4, .inl rg)), (yg, .inl (d3, 32, .inl rs))]) (w1 := [(x0, .inr (0, [.ref xw, .ref xr, .ref xg, .int uC.1.1.2.2.1, .int uC.1.1.2.2.2.1, .int uC.1.1.2.2.2.2, .int uC.1.2])), (xw, .inl (c1, 4096, .inl uC.1.1.1)), (xr, .inl (c2, 4, .inl rg)), (xg, .inl (c3, 32, .inl uC.1.1.2.1)), (xo, .inl (c4, 1, .inr (.inl uC.2)))]) hP hD [0, 1, 2, 3, 8] [4, 5, 6, 7] rfl rfl (by decide) (by decide) hk1 hFc hP1 hD1
                      have hP := hP.sub (ws' := [(x0, .inr (0, [.ref xw, .ref xr, .ref xg, .int uC.1.1.2.2.1, .int uC.1.1.2.2.2.1, .int uC.1.1.2.2.2.2, .int uC.1.2])), (xw, .inl (c1, 4096, .inl uC.1.1.1)), (xr, .inl (c2, 4, .inl rg)), (xg, .inl (c3, 32, .inl uC.1.1.2.1)), (y0, .inr (1, [.int th, .ref ym, .ref yr, .ref yg, .int pcv, .int trv, .int vav, .int dnv, .int wv, .int fa, .int wi, .int ne])), (ym, .inl (d1, 16384, .inl me)), (yr, .inl (d2, 4, .inl rg)), (yg, .inl (d3, 32, .inl rs)), (xo, .inl (c4, 1, .inr (.inl uC.2)))]) [4, 5, 6, 7, 0, 1, 2, 3, 8] rfl
                      have hD := hD.sub (ws' := [(x0, .inr (0, [.ref xw, .ref xr, .ref xg, .int uC.1.1.2.2.1, .int uC.1.1.2.2.2.1, .int uC.1.1.2.2.2.2, .int uC.1.2])), (xw, .inl (c1, 4096, .inl uC.1.1.1)), (xr, .inl (c2, 4, .inl rg)), (xg, .inl (c3, 32, .inl uC.1.1.2.1)), (y0, .inr (1, [.int th, .ref ym, .ref yr, .ref yg, .int pcv, .int trv, .int vav, .int dnv, .int wv, .int fa, .int wi, .int ne])), (ym, .inl (d1, 16384, .inl me)), (yr, .inl (d2, 4, .inl rg)), (yg, .inl (d3, 32, .inl rs)), (xo, .inl (c4, 1, .inr (.inl uC.2)))]) [4, 5, 6, 7, 0, 1, 2, 3, 8] (by decide) rfl
                      generalize H1 = H at hP hS ⊢
                      refine lv_istore (lv' := [(5, .int rC), (4, .int (nI (5 * k))), (0, .ref b), (1, .ref x0), (2, .ref y0), (3, .ref xo)]) hx hb dL_law_348 hl (by decide) rfl (fun ls hl => ?_)
                      refine lv_aload_n hx hb dL_law_350 rfl (lv_at hl 4 rfl) ?_
                      refine lv_aload_n hx hb dL_law_351 rfl (lv_at hl 2 rfl) ?_
                      refine lv_iload hx hb dL_law_352 (lv_at hl 1 rfl) ?_
                      refine lv_iconst (v := 1) hx hb dL_law_354 (by decide) ?_
                      refine lv_iadd hx hb dL_law_355 ?_
                      refine va_sld hx hb hX hbl hbA hS (in_scr 1 (z := 1) rfl (by decide) hin hL) dL_law_356 ?_
                      have hPc := hP.sub (ws' := [(y0, .inr (1, [.int th, .ref ym, .ref yr, .ref yg, .int pcv, .int trv, .int vav, .int dnv, .int wv, .int fa, .int wi, .int ne])), (ym, .inl (d1, 16384, .inl me)), (yr, .inl (d2, 4, .inl rg)), (yg, .inl (d3, 32, .inl rs))]) [4, 5, 6, 7] rfl
                      have hDc := hD.sub (ws' := [(y0, .inr (1, [.int th, .ref ym, .ref yr, .ref yg, .int pcv, .int trv, .int vav, .int dnv, .int wv, .int fa, .int wi, .int ne])), (ym, .inl (d1, 16384, .inl me)), (yr, .inl (d2, 4, .inl rg)), (yg, .inl (d3, 32, .inl rs))]) [4, 5, 6, 7] (by decide) rfl
                      have hKc := hK.sub (tys' := [(d1, .byte), (d2, .int), (d3, .int)]) [3, 4, 5] rfl
                      have hFc := va_free (wc := [(y0, .inr (1, [.int th, .ref ym, .ref yr, .ref yg, .int pcv, .int trv, .int vav, .int dnv, .int wv, .int fa, .int wi, .int ne])), (ym, .inl (d1, 16384, .inl me)), (yr, .inl (d2, 4, .inl rg)), (yg, .inl (d3, 32, .inl rs))]) hD hS hA [4, 5, 6, 7] rfl
                      refine va_calli (va_runV (As := [.int (xs ((nI (5 * k)) + 1).toNatClampNeg)]) (rest := []) ⟨hx, hb, hml, hown, hts⟩ (c_m_run l dC dI y0 ym yr yg d1 d2 d3 H.size th me rg rs pcv trv vav dnv wv fa wi ne (xs ((nI (5 * k)) + 1).toNatClampNeg)) (cwV 1 hts (gVL mL_L_58 mI_X1_run mE_X1_run mN_X1 mC_X1_run) rfl rfl rfl (by decide +kernel) ⟨Nat.le_of_ble_eq_true rfl, Nat.le_of_ble_eq_true rfl⟩) ⟨fun a U g mk q => by obtain ⟨q0, q1, qP, qK, qD⟩ := q; exact ⟨q0, q1, qP, va_K.moved (u := U) (U := U.calling g mk a) (Vm.Alike.refl U.vm) qK, qD⟩, va_recv hKc hPc (ci := 1) (q0 := 0) rfl rfl, fun U hU hW => ⟨rfl, by rw [hU], by rw [hU]; exact hPc, va_K.moved hW.alike hKc, hDc.weaken (fun _ _ _ _ => trivial)⟩⟩ rfl rfl hl.1 rfl (lv_room (Nat.le_of_ble_eq_true rfl)) dL_law_357 ⟨(show _ ≤ 1034 by omega), (show _ ≤ 28770 by omega)⟩) hS (fun q _ h => hFc q h) hFc (fun rM2 uM t H1 locs ht hvm hw hB hz1 hk1 hS => ?_)
                      have eM := hw
                      obtain ⟨hP1, hK1, hD1⟩ := hB
                      rw [ht] at hP1
                      obtain ⟨hP, hD⟩ := va_join (wr := [(x0, .inr (0, [.ref xw, .ref xr, .ref xg, .int uC.1.1.2.2.1, .int uC.1.1.2.2.2.1, .int uC.1.1.2.2.2.2, .int uC.1.2])), (xw, .inl (c1, 4096, .inl uC.1.1.1)), (xr, .inl (c2, 4, .inl rg)), (xg, .inl (c3, 32, .inl uC.1.1.2.1)), (xo, .inl (c4, 1, .inr (.inl uC.2)))]) (w1 := [(y0, .inr (1, [.int uM.1, .ref ym, .ref yr, .ref yg, .int uM.2.1.2.2.1, .int uM.2.2.1, .int uM.2.2.2, .int uM.2.1.2.2.2.1, .int uM.2.1.2.2.2.2.1, .int uM.2.1.2.2.2.2.2.1, .int uM.2.1.2.2.2.2.2.2.1, .int uM.2.1.2.2.2.2.2.2.2])), (ym, .inl (d1, 16384, .inl uM.2.1.1)), (yr, .inl (d2, 4, .inl rg)), (yg, .inl (d3, 32, .inl uM.2.1.2.1))]) hP hD [4, 5, 6, 7] [0, 1, 2, 3, 8] rfl rfl (by decide) (by decide) hk1 hFc hP1 hD1
                      have hP := hP.sub (ws' := [(x0, .inr (0, [.ref xw, .ref xr, .ref xg, .int uC.1.1.2.2.1, .int uC.1.1.2.2.2.1, .int uC.1.1.2.2.2.2, .int uC.1.2])), (xw, .inl (c1, 4096, .inl uC.1.1.1)), (xr, .inl (c2, 4, .inl rg)), (xg, .inl (c3, 32, .inl uC.1.1.2.1)), (y0, .inr (1, [.int uM.1, .ref ym, .ref yr, .ref yg, .int uM.2.1.2.2.1, .int uM.2.2.1, .int uM.2.2.2, .int uM.2.1.2.2.2.1, .int uM.2.1.2.2.2.2.1, .int uM.2.1.2.2.2.2.2.1, .int uM.2.1.2.2.2.2.2.2.1, .int uM.2.1.2.2.2.2.2.2.2])), (ym, .inl (d1, 16384, .inl uM.2.1.1)), (yr, .inl (d2, 4, .inl rg)), (yg, .inl (d3, 32, .inl uM.2.1.2.1)), (xo, .inl (c4, 1, .inr (.inl uC.2)))]) [0, 1, 2, 3, 5, 6, 7, 8, 4] rfl
                      have hD := hD.sub (ws' := [(x0, .inr (0, [.ref xw, .ref xr, .ref xg, .int uC.1.1.2.2.1, .int uC.1.1.2.2.2.1, .int uC.1.1.2.2.2.2, .int uC.1.2])), (xw, .inl (c1, 4096, .inl uC.1.1.1)), (xr, .inl (c2, 4, .inl rg)), (xg, .inl (c3, 32, .inl uC.1.1.2.1)), (y0, .inr (1, [.int uM.1, .ref ym, .ref yr, .ref yg, .int uM.2.1.2.2.1, .int uM.2.2.1, .int uM.2.2.2, .int uM.2.1.2.2.2.1, .int uM.2.1.2.2.2.2.1, .int uM.2.1.2.2.2.2.2.1, .int uM.2.1.2.2.2.2.2.2.1, .int uM.2.1.2.2.2.2.2.2.2])), (ym, .inl (d1, 16384, .inl uM.2.1.1)), (yr, .inl (d2, 4, .inl rg)), (yg, .inl (d3, 32, .inl uM.2.1.2.1)), (xo, .inl (c4, 1, .inr (.inl uC.2)))]) [0, 1, 2, 3, 5, 6, 7, 8, 4] (by decide) rfl
                      generalize H1 = H at hP hS ⊢
                      refine lv_istore (lv' := [(6, .int rM2), (5, .int rC), (4, .int (nI (5 * k))), (0, .ref b), (1, .ref x0), (2, .ref y0), (3, .ref xo)]) hx hb dL_law_360 hl (by decide) rfl (fun ls hl => ?_)
                      refine lv_aload_n hx hb dL_law_362 rfl (lv_at hl 5 rfl) ?_
                      have eM0 := eM
                      have hPc := hP.sub (ws' := [(y0, .inr (1, [.int uM.1, .ref ym, .ref yr, .ref yg, .int uM.2.1.2.2.1, .int uM.2.2.1, .int uM.2.2.2, .int uM.2.1.2.2.2.1, .int uM.2.1.2.2.2.2.1, .int uM.2.1.2.2.2.2.2.1, .int uM.2.1.2.2.2.2.2.2.1, .int uM.2.1.2.2.2.2.2.2.2])), (ym, .inl (d1, 16384, .inl uM.2.1.1)), (yr, .inl (d2, 4, .inl rg)), (yg, .inl (d3, 32, .inl uM.2.1.2.1))]) [4, 5, 6, 7] rfl
                      have hDc := hD.sub (ws' := [(y0, .inr (1, [.int uM.1, .ref ym, .ref yr, .ref yg, .int uM.2.1.2.2.1, .int uM.2.2.1, .int uM.2.2.2, .int uM.2.1.2.2.2.1, .int uM.2.1.2.2.2.2.1, .int uM.2.1.2.2.2.2.2.1, .int uM.2.1.2.2.2.2.2.2.1, .int uM.2.1.2.2.2.2.2.2.2])), (ym, .inl (d1, 16384, .inl uM.2.1.1)), (yr, .inl (d2, 4, .inl rg)), (yg, .inl (d3, 32, .inl uM.2.1.2.1))]) [4, 5, 6, 7] (by decide) rfl
                      have hKc := hK.sub (tys' := [(d1, .byte), (d2, .int), (d3, .int)]) [3, 4, 5] rfl
                      refine vp_callSi (W.runV (As := []) (rest := []) ⟨hx, hb, hml, hown, hts⟩ (c_m_thrown l dC dI y0 ym yr yg d1 d2 d3 uM.1 uM.2.1.1 rg uM.2.1.2.1 uM.2.1.2.2.1 uM.2.2.1 uM.2.2.2 uM.2.1.2.2.2.1 uM.2.1.2.2.2.2.1 uM.2.1.2.2.2.2.2.1 uM.2.1.2.2.2.2.2.2.1 uM.2.1.2.2.2.2.2.2.2) (cwV 0 hts (gVL mL_L_59 mI_X1_thrown mE_X1_thrown mN_X1 mC_X1_thrown) rfl rfl rfl (by decide +kernel) ⟨Nat.le_of_ble_eq_true rfl, Nat.le_of_ble_eq_true rfl⟩) ⟨fun a U g mk q => by obtain ⟨q0, qP, qK⟩ := q; exact ⟨q0, qP, va_K.moved (u := U) (U := U.calling g mk a) (Vm.Alike.refl U.vm) qK⟩, va_recv hKc hPc (ci := 1) (q0 := 0) rfl rfl, fun U hU hW => ⟨rfl, by rw [hU]; exact hPc, va_K.moved hW.alike hKc⟩⟩ rfl rfl hl.1 rfl (lv_room (Nat.le_of_ble_eq_true rfl)) dL_law_363 ⟨(show _ ≤ 1034 by omega), (show _ ≤ 28770 by omega)⟩) (fun rM hw => ?_)
                      have eM := hw
                      have eT := eM
                      refine lv_iload hx hb dL_law_366 (lv_at hl 1 rfl) ?_
                      rcases eC with ⟨hok, hrC, huC⟩ | ⟨hbad, hrC, huC⟩
                      · rcases eM0 with ⟨hb2, -, -⟩ | ⟨-, hrM, huM⟩
                        · exact absurd hb2 (fun q => q.elim (fun q => hok.1 q) (fun q => q hok.2))
                        · have hth : rM = 0 := eT.trans (by rw [huM]; rfl)
                          have hq := q_run (rg := rg) hR h00 hG (xs ((nI (5 * k)) + 1).toNatClampNeg).toNatClampNeg pcv dnv wv fa wi ne
                          refine lv_icmp_eq (tgt := 373) hx hb dL_law_368 (by decide) (fun cq => ?_) (fun cq => absurd (hth.trans hrC.symm) cq)
                          refine lv_iload hx hb dL_law_373 (lv_at hl 1 rfl) ?_
                          refine lv_if_ne (tgt := 390) hx hb dL_law_375 (by decide) (fun cz => absurd hrC cz) (fun cz => ?_)
                          refine lv_aload_n hx hb dL_law_378 rfl (lv_at hl 6 rfl) ?_
                          refine lv_iconst (v := 0) hx hb dL_law_379 (by decide) ?_
                          refine va_lald hx hb hK hP 8 6 rfl rfl (show vp_in (0 : Int32) 1 by rw [vp_in_iff]; decide) dL_law_380 ?_
                          refine lv_iload hx hb dL_law_381 (lv_at hl 0 rfl) ?_
                          refine lv_i2l (v := rM2.toInt64) hx hb dL_law_383 rfl ?_
                          refine W.lcmp hx hb dL_law_384 ?_
                          have hcmp : uC.2 (0 : Int32).toNatClampNeg = rM2.toInt64 := by rw [huC, hrM, ← hq.1]; rfl
                          rw [hcmp, lgc_self]
                          refine lv_if_eq (tgt := 390) hx hb dL_law_385 (by decide) (fun _ => ?_) (fun c0 => absurd rfl c0)
                          refine lv_goto (tgt := 432) hx hb dL_law_390 (by decide) ?_
                          refine lv_iinc (v := nI (5 * k) + 5) (lv' := [(4, .int (nI (5 * k) + 5)), (6, .int rM2), (5, .int rC), (0, .ref b), (1, .ref x0), (2, .ref y0), (3, .ref xo)]) hx hb dL_law_432 hl (k := 2) rfl rfl (by decide) rfl (fun ls hl => ?_)
                          refine lv_goto (tgt := 23) hx hb dL_law_435 (by decide) ?_
                          refine W.widen (k := 9 + (k + 1)) (n := 20572 + 6 * (k + 1)) (by omega) (by omega) ?_
                          have hl := lv_sub hl [0, 3, 4, 5, 6] rfl
                          have hl : lv_has ls 7 [(4, .int (nI (5 * k) + 5)), (0, .ref b), (1, .ref x0), (2, .ref y0), (3, .ref xo)] := hl
                          rw [show nI (5 * k) + 5 = nI (5 * (k + 1)) from nI_add (5 * k) 5] at hl
                          exact ih (k + 1) (by omega) (by omega) uC.1.1.1 rg uC.1.1.2.1 uC.1.1.2.2.1 uC.1.1.2.2.2.1 uC.1.1.2.2.2.2 uC.1.2 uM.1 uM.2.1.1 rg uM.2.1.2.1 uM.2.1.2.2.1 uM.2.2.1 uM.2.2.2 uM.2.1.2.2.2.1 uM.2.1.2.2.2.2.1 uM.2.1.2.2.2.2.2.1 uM.2.1.2.2.2.2.2.2.1 uM.2.1.2.2.2.2.2.2.2 uC.2 (by rw [huC, huM]; exact ⟨hq.2.1, rfl, hq.2.2.1, hq.2.2.2.1, hq.2.2.2.2.1, hq.2.2.2.2.2.2.1, hq.2.2.2.2.2.2.2, hq.2.2.2.2.2.1, hG⟩) H _ hP hD hS ls hl
                      · rcases eM0 with ⟨-, hrM, huM⟩ | ⟨hb2, -, -⟩
                        · have hth : rM = 1 := eT.trans (by rw [huM]; rfl)
                          refine lv_icmp_eq (tgt := 373) hx hb dL_law_368 (by decide) (fun cq => ?_) (fun cq => absurd (hth.trans hrC.symm) cq)
                          refine lv_iload hx hb dL_law_373 (lv_at hl 1 rfl) ?_
                          refine lv_if_ne (tgt := 390) hx hb dL_law_375 (by decide) (fun cz => ?_) (fun cz => absurd (hrC.symm.trans cz) (by decide))
                          refine lv_goto (tgt := 432) hx hb dL_law_390 (by decide) ?_
                          refine lv_iinc (v := nI (5 * k) + 5) (lv' := [(4, .int (nI (5 * k) + 5)), (6, .int rM2), (5, .int rC), (0, .ref b), (1, .ref x0), (2, .ref y0), (3, .ref xo)]) hx hb dL_law_432 hl (k := 2) rfl rfl (by decide) rfl (fun ls hl => ?_)
                          refine lv_goto (tgt := 23) hx hb dL_law_435 (by decide) ?_
                          refine W.widen (k := 9 + (k + 1)) (n := 20572 + 6 * (k + 1)) (by omega) (by omega) ?_
                          have hl := lv_sub hl [0, 3, 4, 5, 6] rfl
                          have hl : lv_has ls 7 [(4, .int (nI (5 * k) + 5)), (0, .ref b), (1, .ref x0), (2, .ref y0), (3, .ref xo)] := hl
                          rw [show nI (5 * k) + 5 = nI (5 * (k + 1)) from nI_add (5 * k) 5] at hl
                          exact ih (k + 1) (by omega) (by omega) uC.1.1.1 rg uC.1.1.2.1 uC.1.1.2.2.1 uC.1.1.2.2.2.1 uC.1.1.2.2.2.2 uC.1.2 uM.1 uM.2.1.1 rg uM.2.1.2.1 uM.2.1.2.2.1 uM.2.2.1 uM.2.2.2 uM.2.1.2.2.2.1 uM.2.1.2.2.2.2.1 uM.2.1.2.2.2.2.2.1 uM.2.1.2.2.2.2.2.2.1 uM.2.1.2.2.2.2.2.2.2 uC.2 (by rw [huC, huM]; exact ⟨hR, rfl, rfl, h00, rfl, rfl, rfl, rfl, hG⟩) H _ hP hD hS ls hl
                        · exact absurd hbad (fun q => q.elim (fun q => hb2.1 q) (fun q => q hb2.2))
                    · by_cases o8 : op = 8
                      · refine lv_tableIn (tgt := 393) (off := 354) hx hb dL_law_39 (by rw [o8]; decide) (by rw [o8]; decide) (by rw [o8] <;> rfl) (by decide) ?_
                        refine lv_aload_n hx hb dL_law_393 rfl (lv_at hl 2 rfl) ?_
                        have hPc := hP.sub (ws' := [(x0, .inr (0, [.ref xw, .ref xr, .ref xg, .int pcv, .int trv, .int vav, .int dnv])), (xw, .inl (c1, 4096, .inl wd)), (xr, .inl (c2, 4, .inl rg)), (xg, .inl (c3, 32, .inl rs))]) [0, 1, 2, 3] rfl
                        have hDc := hD.sub (ws' := [(x0, .inr (0, [.ref xw, .ref xr, .ref xg, .int pcv, .int trv, .int vav, .int dnv])), (xw, .inl (c1, 4096, .inl wd)), (xr, .inl (c2, 4, .inl rg)), (xg, .inl (c3, 32, .inl rs))]) [0, 1, 2, 3] (by decide) rfl
                        have hKc := hK.sub (tys' := [(c1, .int), (c2, .int), (c3, .int)]) [0, 1, 2] rfl
                        refine vp_callSi (W.runV (As := []) (rest := []) ⟨hx, hb, hml, hown, hts⟩ (c_get_trap l dC dI x0 xw xr xg c1 c2 c3 wd rg rs pcv trv vav dnv) (cwV 0 hts (gVL mL_L_62 mI_X0_trap mE_X0_trap mN_X0 mC_X0_trap) rfl rfl rfl (by decide +kernel) ⟨Nat.le_of_ble_eq_true rfl, Nat.le_of_ble_eq_true rfl⟩) ⟨fun a U g mk q => by obtain ⟨q0, qP, qK⟩ := q; exact ⟨q0, qP, va_K.moved (u := U) (U := U.calling g mk a) (Vm.Alike.refl U.vm) qK⟩, va_recv hKc hPc (ci := 0) (q0 := 0) rfl rfl, fun U hU hW => ⟨rfl, by rw [hU]; exact hPc, va_K.moved hW.alike hKc⟩⟩ rfl rfl hl.1 rfl (lv_room (Nat.le_of_ble_eq_true rfl)) dL_law_394 ⟨(show _ ≤ 1034 by omega), (show _ ≤ 28770 by omega)⟩) (fun rC hw => ?_)
                        have eC := hw
                        refine lv_aload_n hx hb dL_law_397 rfl (lv_at hl 3 rfl) ?_
                        have hPc := hP.sub (ws' := [(y0, .inr (1, [.int th, .ref ym, .ref yr, .ref yg, .int pcv, .int trv, .int vav, .int dnv, .int wv, .int fa, .int wi, .int ne])), (ym, .inl (d1, 16384, .inl me)), (yr, .inl (d2, 4, .inl rg)), (yg, .inl (d3, 32, .inl rs))]) [4, 5, 6, 7] rfl
                        have hDc := hD.sub (ws' := [(y0, .inr (1, [.int th, .ref ym, .ref yr, .ref yg, .int pcv, .int trv, .int vav, .int dnv, .int wv, .int fa, .int wi, .int ne])), (ym, .inl (d1, 16384, .inl me)), (yr, .inl (d2, 4, .inl rg)), (yg, .inl (d3, 32, .inl rs))]) [4, 5, 6, 7] (by decide) rfl
                        have hKc := hK.sub (tys' := [(d1, .byte), (d2, .int), (d3, .int)]) [3, 4, 5] rfl
                        have hFc := va_free (wc := [(y0, .inr (1, [.int th, .ref ym, .ref yr, .ref yg, .int pcv, .int trv, .int vav, .int dnv, .int wv, .int fa, .int wi, .int ne])), (ym, .inl (d1, 16384, .inl me)), (yr, .inl (d2, 4, .inl rg)), (yg, .inl (d3, 32, .inl rs))]) hD hS hA [4, 5, 6, 7] rfl
                        refine va_calli (va_runV (As := []) (rest := [.int rC]) ⟨hx, hb, hml, hown, hts⟩ (c_m_get_trap l dC dI y0 ym yr yg d1 d2 d3 H.size th me rg rs pcv trv vav dnv wv fa wi ne) (cwV 0 hts (gVL mL_L_65 mI_X1_trap mE_X1_trap mN_X1 mC_X1_trap) rfl rfl rfl (by decide +kernel) ⟨Nat.le_of_ble_eq_true rfl, Nat.le_of_ble_eq_true rfl⟩) ⟨fun a U g mk q => by obtain ⟨q0, q1, qP, qK, qD⟩ := q; exact ⟨q0, q1, qP, va_K.moved (u := U) (U := U.calling g mk a) (Vm.Alike.refl U.vm) qK, qD⟩, va_recv hKc hPc (ci := 1) (q0 := 0) rfl rfl, fun U hU hW => ⟨rfl, by rw [hU], by rw [hU]; exact hPc, va_K.moved hW.alike hKc, hDc.weaken (fun _ _ _ _ => trivial)⟩⟩ rfl rfl hl.1 rfl (lv_room (Nat.le_of_ble_eq_true rfl)) dL_law_398 ⟨(show _ ≤ 1034 by omega), (show _ ≤ 28770 by omega)⟩) hS (fun q _ h => hFc q h) hFc (fun rM uM t H1 locs ht hvm hw hB hz1 hk1 hS => ?_)
                        have eM := hw
                        obtain ⟨hP1, hK1, hD1⟩ := hB
                        rw [ht] at hP1
                        obtain ⟨hP, hD⟩ := va_join (wr := [(x0, .inr (0, [.ref xw, .ref xr, .ref xg, .int pcv, .int trv, .int vav, .int dnv])), (xw, .inl (c1, 4096, .inl wd)), (xr, .inl (c2, 4, .inl rg)), (xg, .inl (c3, 32, .inl rs)), (xo, .inl (c4, 1, .inr (.inl ov)))]) (w1 := [(y0, .inr (1, [.int uM, .ref ym, .ref yr, .ref yg, .int pcv, .int trv, .int vav, .int dnv, .int wv, .int fa, .int wi, .int ne])), (ym, .inl (d1, 16384, .inl me)), (yr, .inl (d2, 4, .inl rg)), (yg, .inl (d3, 32, .inl rs))]) hP hD [4, 5, 6, 7] [0, 1, 2, 3, 8] rfl rfl (by decide) (by decide) hk1 hFc hP1 hD1
                        have hP := hP.sub (ws' := [(x0, .inr (0, [.ref xw, .ref xr, .ref xg, .int pcv, .int trv, .int vav, .int dnv])), (xw, .inl (c1, 4096, .inl wd)), (xr, .inl (c2, 4, .inl rg)), (xg, .inl (c3, 32, .inl rs)), (y0, .inr (1, [.int uM, .ref ym, .ref yr, .ref yg, .int pcv, .int trv, .int vav, .int dnv, .int wv, .int fa, .int wi, .int ne])), (ym, .inl (d1, 16384, .inl me)), (yr, .inl (d2, 4, .inl rg)), (yg, .inl (d3, 32, .inl rs)), (xo, .inl (c4, 1, .inr (.inl ov)))]) [0, 1, 2, 3, 5, 6, 7, 8, 4] rfl
                        have hD := hD.sub (ws' := [(x0, .inr (0, [.ref xw, .ref xr, .ref xg, .int pcv, .int trv, .int vav, .int dnv])), (xw, .inl (c1, 4096, .inl wd)), (xr, .inl (c2, 4, .inl rg)), (xg, .inl (c3, 32, .inl rs)), (y0, .inr (1, [.int uM, .ref ym, .ref yr, .ref yg, .int pcv, .int trv, .int vav, .int dnv, .int wv, .int fa, .int wi, .int ne])), (ym, .inl (d1, 16384, .inl me)), (yr, .inl (d2, 4, .inl rg)), (yg, .inl (d3, 32, .inl rs)), (xo, .inl (c4, 1, .inr (.inl ov)))]) [0, 1, 2, 3, 5, 6, 7, 8, 4] (by decide) rfl
                        generalize H1 = H at hP hS ⊢
                        refine lv_icmp_eq (tgt := 432) hx hb dL_law_401 (by decide) (fun cq => ?_) (fun cq => absurd (eC.trans (congrArg Prod.fst eM).symm) cq)
                        refine lv_iinc (v := nI (5 * k) + 5) (lv' := [(4, .int (nI (5 * k) + 5)), (0, .ref b), (1, .ref x0), (2, .ref y0), (3, .ref xo)]) hx hb dL_law_432 hl (k := 0) rfl rfl (by decide) rfl (fun ls hl => ?_)
                        refine lv_goto (tgt := 23) hx hb dL_law_435 (by decide) ?_
                        refine W.widen (k := 9 + (k + 1)) (n := 20572 + 6 * (k + 1)) (by omega) (by omega) ?_
                        have hl := lv_sub hl [0, 1, 2, 3, 4] rfl
                        have hl : lv_has ls 7 [(4, .int (nI (5 * k) + 5)), (0, .ref b), (1, .ref x0), (2, .ref y0), (3, .ref xo)] := hl
                        rw [show nI (5 * k) + 5 = nI (5 * (k + 1)) from nI_add (5 * k) 5] at hl
                        exact ih (k + 1) (by omega) (by omega) wd rg rs pcv trv vav dnv uM me rg rs pcv trv vav dnv wv fa wi ne ov (⟨hR, rfl, rfl, h00, rfl, rfl, rfl, rfl, hG⟩) H _ hP hD hS ls hl
                      · by_cases o9 : op = 9
                        · refine lv_tableIn (tgt := 406) (off := 367) hx hb dL_law_39 (by rw [o9]; decide) (by rw [o9]; decide) (by rw [o9] <;> rfl) (by decide) ?_
                          refine lv_aload_n hx hb dL_law_406 rfl (lv_at hl 2 rfl) ?_
                          have hPc := hP.sub (ws' := [(x0, .inr (0, [.ref xw, .ref xr, .ref xg, .int pcv, .int trv, .int vav, .int dnv])), (xw, .inl (c1, 4096, .inl wd)), (xr, .inl (c2, 4, .inl rg)), (xg, .inl (c3, 32, .inl rs))]) [0, 1, 2, 3] rfl
                          have hDc := hD.sub (ws' := [(x0, .inr (0, [.ref xw, .ref xr, .ref xg, .int pcv, .int trv, .int vav, .int dnv])), (xw, .inl (c1, 4096, .inl wd)), (xr, .inl (c2, 4, .inl rg)), (xg, .inl (c3, 32, .inl rs))]) [0, 1, 2, 3] (by decide) rfl
                          have hKc := hK.sub (tys' := [(c1, .int), (c2, .int), (c3, .int)]) [0, 1, 2] rfl
                          refine vp_callSi (W.runV (As := []) (rest := []) ⟨hx, hb, hml, hown, hts⟩ (c_get_value l dC dI x0 xw xr xg c1 c2 c3 wd rg rs pcv trv vav dnv) (cwV 0 hts (gVL mL_L_66 mI_X0_value mE_X0_value mN_X0 mC_X0_value) rfl rfl rfl (by decide +kernel) ⟨Nat.le_of_ble_eq_true rfl, Nat.le_of_ble_eq_true rfl⟩) ⟨fun a U g mk q => by obtain ⟨q0, qP, qK⟩ := q; exact ⟨q0, qP, va_K.moved (u := U) (U := U.calling g mk a) (Vm.Alike.refl U.vm) qK⟩, va_recv hKc hPc (ci := 0) (q0 := 0) rfl rfl, fun U hU hW => ⟨rfl, by rw [hU]; exact hPc, va_K.moved hW.alike hKc⟩⟩ rfl rfl hl.1 rfl (lv_room (Nat.le_of_ble_eq_true rfl)) dL_law_407 ⟨(show _ ≤ 1034 by omega), (show _ ≤ 28770 by omega)⟩) (fun rC hw => ?_)
                          have eC := hw
                          refine lv_aload_n hx hb dL_law_410 rfl (lv_at hl 3 rfl) ?_
                          have hPc := hP.sub (ws' := [(y0, .inr (1, [.int th, .ref ym, .ref yr, .ref yg, .int pcv, .int trv, .int vav, .int dnv, .int wv, .int fa, .int wi, .int ne])), (ym, .inl (d1, 16384, .inl me)), (yr, .inl (d2, 4, .inl rg)), (yg, .inl (d3, 32, .inl rs))]) [4, 5, 6, 7] rfl
                          have hDc := hD.sub (ws' := [(y0, .inr (1, [.int th, .ref ym, .ref yr, .ref yg, .int pcv, .int trv, .int vav, .int dnv, .int wv, .int fa, .int wi, .int ne])), (ym, .inl (d1, 16384, .inl me)), (yr, .inl (d2, 4, .inl rg)), (yg, .inl (d3, 32, .inl rs))]) [4, 5, 6, 7] (by decide) rfl
                          have hKc := hK.sub (tys' := [(d1, .byte), (d2, .int), (d3, .int)]) [3, 4, 5] rfl
                          have hFc := va_free (wc := [(y0, .inr (1, [.int th, .ref ym, .ref yr, .ref yg, .int pcv, .int trv, .int vav, .int dnv, .int wv, .int fa, .int wi, .int ne])), (ym, .inl (d1, 16384, .inl me)), (yr, .inl (d2, 4, .inl rg)), (yg, .inl (d3, 32, .inl rs))]) hD hS hA [4, 5, 6, 7] rfl
                          refine va_calli (va_runV (As := []) (rest := [.int rC]) ⟨hx, hb, hml, hown, hts⟩ (c_m_get_value l dC dI y0 ym yr yg d1 d2 d3 H.size th me rg rs pcv trv vav dnv wv fa wi ne) (cwV 0 hts (gVL mL_L_69 mI_X1_value mE_X1_value mN_X1 mC_X1_value) rfl rfl rfl (by decide +kernel) ⟨Nat.le_of_ble_eq_true rfl, Nat.le_of_ble_eq_true rfl⟩) ⟨fun a U g mk q => by obtain ⟨q0, q1, qP, qK, qD⟩ := q; exact ⟨q0, q1, qP, va_K.moved (u := U) (U := U.calling g mk a) (Vm.Alike.refl U.vm) qK, qD⟩, va_recv hKc hPc (ci := 1) (q0 := 0) rfl rfl, fun U hU hW => ⟨rfl, by rw [hU], by rw [hU]; exact hPc, va_K.moved hW.alike hKc, hDc.weaken (fun _ _ _ _ => trivial)⟩⟩ rfl rfl hl.1 rfl (lv_room (Nat.le_of_ble_eq_true rfl)) dL_law_411 ⟨(show _ ≤ 1034 by omega), (show _ ≤ 28770 by omega)⟩) hS (fun q _ h => hFc q h) hFc (fun rM uM t H1 locs ht hvm hw hB hz1 hk1 hS => ?_)
                          have eM := hw
                          obtain ⟨hP1, hK1, hD1⟩ := hB
                          rw [ht] at hP1
                          obtain ⟨hP, hD⟩ := va_join (wr := [(x0, .inr (0, [.ref xw, .ref xr, .ref xg, .int pcv, .int trv, .int vav, .int dnv])), (xw, .inl (c1, 4096, .inl wd)), (xr, .inl (c2, 4, .inl rg)), (xg, .inl (c3, 32, .inl rs)), (xo, .inl (c4, 1, .inr (.inl ov)))]) (w1 := [(y0, .inr (1, [.int uM, .ref ym, .ref yr, .ref yg, .int pcv, .int trv, .int vav, .int dnv, .int wv, .int fa, .int wi, .int ne])), (ym, .inl (d1, 16384, .inl me)), (yr, .inl (d2, 4, .inl rg)), (yg, .inl (d3, 32, .inl rs))]) hP hD [4, 5, 6, 7] [0, 1, 2, 3, 8] rfl rfl (by decide) (by decide) hk1 hFc hP1 hD1
                          have hP := hP.sub (ws' := [(x0, .inr (0, [.ref xw, .ref xr, .ref xg, .int pcv, .int trv, .int vav, .int dnv])), (xw, .inl (c1, 4096, .inl wd)), (xr, .inl (c2, 4, .inl rg)), (xg, .inl (c3, 32, .inl rs)), (y0, .inr (1, [.int uM, .ref ym, .ref yr, .ref yg, .int pcv, .int trv, .int vav, .int dnv, .int wv, .int fa, .int wi, .int ne])), (ym, .inl (d1, 16384, .inl me)), (yr, .inl (d2, 4, .inl rg)), (yg, .inl (d3, 32, .inl rs)), (xo, .inl (c4, 1, .inr (.inl ov)))]) [0, 1, 2, 3, 5, 6, 7, 8, 4] rfl
                          have hD := hD.sub (ws' := [(x0, .inr (0, [.ref xw, .ref xr, .ref xg, .int pcv, .int trv, .int vav, .int dnv])), (xw, .inl (c1, 4096, .inl wd)), (xr, .inl (c2, 4, .inl rg)), (xg, .inl (c3, 32, .inl rs)), (y0, .inr (1, [.int uM, .ref ym, .ref yr, .ref yg, .int pcv, .int trv, .int vav, .int dnv, .int wv, .int fa, .int wi, .int ne])), (ym, .inl (d1, 16384, .inl me)), (yr, .inl (d2, 4, .inl rg)), (yg, .inl (d3, 32, .inl rs)), (xo, .inl (c4, 1, .inr (.inl ov)))]) [0, 1, 2, 3, 5, 6, 7, 8, 4] (by decide) rfl
                          generalize H1 = H at hP hS ⊢
                          refine lv_icmp_eq (tgt := 432) hx hb dL_law_414 (by decide) (fun cq => ?_) (fun cq => absurd (eC.trans (congrArg Prod.fst eM).symm) cq)
                          refine lv_iinc (v := nI (5 * k) + 5) (lv' := [(4, .int (nI (5 * k) + 5)), (0, .ref b), (1, .ref x0), (2, .ref y0), (3, .ref xo)]) hx hb dL_law_432 hl (k := 0) rfl rfl (by decide) rfl (fun ls hl => ?_)
                          refine lv_goto (tgt := 23) hx hb dL_law_435 (by decide) ?_
                          refine W.widen (k := 9 + (k + 1)) (n := 20572 + 6 * (k + 1)) (by omega) (by omega) ?_
                          have hl := lv_sub hl [0, 1, 2, 3, 4] rfl
                          have hl : lv_has ls 7 [(4, .int (nI (5 * k) + 5)), (0, .ref b), (1, .ref x0), (2, .ref y0), (3, .ref xo)] := hl
                          rw [show nI (5 * k) + 5 = nI (5 * (k + 1)) from nI_add (5 * k) 5] at hl
                          exact ih (k + 1) (by omega) (by omega) wd rg rs pcv trv vav dnv uM me rg rs pcv trv vav dnv wv fa wi ne ov (⟨hR, rfl, rfl, h00, rfl, rfl, rfl, rfl, hG⟩) H _ hP hD hS ls hl
                        · by_cases o10 : op = 10
                          · refine lv_tableIn (tgt := 419) (off := 380) hx hb dL_law_39 (by rw [o10]; decide) (by rw [o10]; decide) (by rw [o10] <;> rfl) (by decide) ?_
                            refine lv_aload_n hx hb dL_law_419 rfl (lv_at hl 2 rfl) ?_
                            have hPc := hP.sub (ws' := [(x0, .inr (0, [.ref xw, .ref xr, .ref xg, .int pcv, .int trv, .int vav, .int dnv])), (xw, .inl (c1, 4096, .inl wd)), (xr, .inl (c2, 4, .inl rg)), (xg, .inl (c3, 32, .inl rs))]) [0, 1, 2, 3] rfl
                            have hDc := hD.sub (ws' := [(x0, .inr (0, [.ref xw, .ref xr, .ref xg, .int pcv, .int trv, .int vav, .int dnv])), (xw, .inl (c1, 4096, .inl wd)), (xr, .inl (c2, 4, .inl rg)), (xg, .inl (c3, 32, .inl rs))]) [0, 1, 2, 3] (by decide) rfl
                            have hKc := hK.sub (tys' := [(c1, .int), (c2, .int), (c3, .int)]) [0, 1, 2] rfl
                            refine vp_callSi (W.runV (As := []) (rest := []) ⟨hx, hb, hml, hown, hts⟩ (c_get_done l dC dI x0 xw xr xg c1 c2 c3 wd rg rs pcv trv vav dnv) (cwV 0 hts (gVL mL_L_70 mI_X0_done mE_X0_done mN_X0 mC_X0_done) rfl rfl rfl (by decide +kernel) ⟨Nat.le_of_ble_eq_true rfl, Nat.le_of_ble_eq_true rfl⟩) ⟨fun a U g mk q => by obtain ⟨q0, qP, qK⟩ := q; exact ⟨q0, qP, va_K.moved (u := U) (U := U.calling g mk a) (Vm.Alike.refl U.vm) qK⟩, va_recv hKc hPc (ci := 0) (q0 := 0) rfl rfl, fun U hU hW => ⟨rfl, by rw [hU]; exact hPc, va_K.moved hW.alike hKc⟩⟩ rfl rfl hl.1 rfl (lv_room (Nat.le_of_ble_eq_true rfl)) dL_law_420 ⟨(show _ ≤ 1034 by omega), (show _ ≤ 28770 by omega)⟩) (fun rC hw => ?_)
                            have eC := hw
                            refine lv_aload_n hx hb dL_law_423 rfl (lv_at hl 3 rfl) ?_
                            have hPc := hP.sub (ws' := [(y0, .inr (1, [.int th, .ref ym, .ref yr, .ref yg, .int pcv, .int trv, .int vav, .int dnv, .int wv, .int fa, .int wi, .int ne])), (ym, .inl (d1, 16384, .inl me)), (yr, .inl (d2, 4, .inl rg)), (yg, .inl (d3, 32, .inl rs))]) [4, 5, 6, 7] rfl
                            have hDc := hD.sub (ws' := [(y0, .inr (1, [.int th, .ref ym, .ref yr, .ref yg, .int pcv, .int trv, .int vav, .int dnv, .int wv, .int fa, .int wi, .int ne])), (ym, .inl (d1, 16384, .inl me)), (yr, .inl (d2, 4, .inl rg)), (yg, .inl (d3, 32, .inl rs))]) [4, 5, 6, 7] (by decide) rfl
                            have hKc := hK.sub (tys' := [(d1, .byte), (d2, .int), (d3, .int)]) [3, 4, 5] rfl
                            have hFc := va_free (wc := [(y0, .inr (1, [.int th, .ref ym, .ref yr, .ref yg, .int pcv, .int trv, .int vav, .int dnv, .int wv, .int fa, .int wi, .int ne])), (ym, .inl (d1, 16384, .inl me)), (yr, .inl (d2, 4, .inl rg)), (yg, .inl (d3, 32, .inl rs))]) hD hS hA [4, 5, 6, 7] rfl
                            refine va_calli (va_runV (As := []) (rest := [.int rC]) ⟨hx, hb, hml, hown, hts⟩ (c_m_get_done l dC dI y0 ym yr yg d1 d2 d3 H.size th me rg rs pcv trv vav dnv wv fa wi ne) (cwV 0 hts (gVL mL_L_73 mI_X1_done mE_X1_done mN_X1 mC_X1_done) rfl rfl rfl (by decide +kernel) ⟨Nat.le_of_ble_eq_true rfl, Nat.le_of_ble_eq_true rfl⟩) ⟨fun a U g mk q => by obtain ⟨q0, q1, qP, qK, qD⟩ := q; exact ⟨q0, q1, qP, va_K.moved (u := U) (U := U.calling g mk a) (Vm.Alike.refl U.vm) qK, qD⟩, va_recv hKc hPc (ci := 1) (q0 := 0) rfl rfl, fun U hU hW => ⟨rfl, by rw [hU], by rw [hU]; exact hPc, va_K.moved hW.alike hKc, hDc.weaken (fun _ _ _ _ => trivial)⟩⟩ rfl rfl hl.1 rfl (lv_room (Nat.le_of_ble_eq_true rfl)) dL_law_424 ⟨(show _ ≤ 1034 by omega), (show _ ≤ 28770 by omega)⟩) hS (fun q _ h => hFc q h) hFc (fun rM uM t H1 locs ht hvm hw hB hz1 hk1 hS => ?_)
                            have eM := hw
                            obtain ⟨hP1, hK1, hD1⟩ := hB
                            rw [ht] at hP1
                            obtain ⟨hP, hD⟩ := va_join (wr := [(x0, .inr (0, [.ref xw, .ref xr, .ref xg, .int pcv, .int trv, .int vav, .int dnv])), (xw, .inl (c1, 4096, .inl wd)), (xr, .inl (c2, 4, .inl rg)), (xg, .inl (c3, 32, .inl rs)), (xo, .inl (c4, 1, .inr (.inl ov)))]) (w1 := [(y0, .inr (1, [.int uM, .ref ym, .ref yr, .ref yg, .int pcv, .int trv, .int vav, .int dnv, .int wv, .int fa, .int wi, .int ne])), (ym, .inl (d1, 16384, .inl me)), (yr, .inl (d2, 4, .inl rg)), (yg, .inl (d3, 32, .inl rs))]) hP hD [4, 5, 6, 7] [0, 1, 2, 3, 8] rfl rfl (by decide) (by decide) hk1 hFc hP1 hD1
                            have hP := hP.sub (ws' := [(x0, .inr (0, [.ref xw, .ref xr, .ref xg, .int pcv, .int trv, .int vav, .int dnv])), (xw, .inl (c1, 4096, .inl wd)), (xr, .inl (c2, 4, .inl rg)), (xg, .inl (c3, 32, .inl rs)), (y0, .inr (1, [.int uM, .ref ym, .ref yr, .ref yg, .int pcv, .int trv, .int vav, .int dnv, .int wv, .int fa, .int wi, .int ne])), (ym, .inl (d1, 16384, .inl me)), (yr, .inl (d2, 4, .inl rg)), (yg, .inl (d3, 32, .inl rs)), (xo, .inl (c4, 1, .inr (.inl ov)))]) [0, 1, 2, 3, 5, 6, 7, 8, 4] rfl
                            have hD := hD.sub (ws' := [(x0, .inr (0, [.ref xw, .ref xr, .ref xg, .int pcv, .int trv, .int vav, .int dnv])), (xw, .inl (c1, 4096, .inl wd)), (xr, .inl (c2, 4, .inl rg)), (xg, .inl (c3, 32, .inl rs)), (y0, .inr (1, [.int uM, .ref ym, .ref yr, .ref yg, .int pcv, .int trv, .int vav, .int dnv, .int wv, .int fa, .int wi, .int ne])), (ym, .inl (d1, 16384, .inl me)), (yr, .inl (d2, 4, .inl rg)), (yg, .inl (d3, 32, .inl rs)), (xo, .inl (c4, 1, .inr (.inl ov)))]) [0, 1, 2, 3, 5, 6, 7, 8, 4] (by decide) rfl
                            generalize H1 = H at hP hS ⊢
                            refine lv_icmp_eq (tgt := 432) hx hb dL_law_427 (by decide) (fun cq => ?_) (fun cq => absurd (eC.trans (congrArg Prod.fst eM).symm) cq)
                            refine lv_iinc (v := nI (5 * k) + 5) (lv' := [(4, .int (nI (5 * k) + 5)), (0, .ref b), (1, .ref x0), (2, .ref y0), (3, .ref xo)]) hx hb dL_law_432 hl (k := 0) rfl rfl (by decide) rfl (fun ls hl => ?_)
                            refine lv_goto (tgt := 23) hx hb dL_law_435 (by decide) ?_
                            refine W.widen (k := 9 + (k + 1)) (n := 20572 + 6 * (k + 1)) (by omega) (by omega) ?_
                            have hl := lv_sub hl [0, 1, 2, 3, 4] rfl
                            have hl : lv_has ls 7 [(4, .int (nI (5 * k) + 5)), (0, .ref b), (1, .ref x0), (2, .ref y0), (3, .ref xo)] := hl
                            rw [show nI (5 * k) + 5 = nI (5 * (k + 1)) from nI_add (5 * k) 5] at hl
                            exact ih (k + 1) (by omega) (by omega) wd rg rs pcv trv vav dnv uM me rg rs pcv trv vav dnv wv fa wi ne ov (⟨hR, rfl, rfl, h00, rfl, rfl, rfl, rfl, hG⟩) H _ hP hD hS ls hl
                          · have to0 := lv_neT (a := 0) o0 (by decide)
                            have to1 := lv_neT (a := 1) o1 (by decide)
                            have to2 := lv_neT (a := 2) o2 (by decide)
                            have to3 := lv_neT (a := 3) o3 (by decide)
                            have to4 := lv_neT (a := 4) o4 (by decide)
                            have to5 := lv_neT (a := 5) o5 (by decide)
                            have to6 := lv_neT (a := 6) o6 (by decide)
                            have to7 := lv_neT (a := 7) o7 (by decide)
                            have to8 := lv_neT (a := 8) o8 (by decide)
                            have to9 := lv_neT (a := 9) o9 (by decide)
                            have to10 := lv_neT (a := 10) o10 (by decide)
                            refine lv_tableOut (tgt := 432) hx hb dL_law_39 (by omega) (by decide) ?_
                            refine lv_iinc (v := nI (5 * k) + 5) (lv' := [(4, .int (nI (5 * k) + 5)), (0, .ref b), (1, .ref x0), (2, .ref y0), (3, .ref xo)]) hx hb dL_law_432 hl (k := 0) rfl rfl (by decide) rfl (fun ls hl => ?_)
                            refine lv_goto (tgt := 23) hx hb dL_law_435 (by decide) ?_
                            refine W.widen (k := 9 + (k + 1)) (n := 20572 + 6 * (k + 1)) (by omega) (by omega) ?_
                            have hl := lv_sub hl [0, 1, 2, 3, 4] rfl
                            have hl : lv_has ls 7 [(4, .int (nI (5 * k) + 5)), (0, .ref b), (1, .ref x0), (2, .ref y0), (3, .ref xo)] := hl
                            rw [show nI (5 * k) + 5 = nI (5 * (k + 1)) from nI_add (5 * k) 5] at hl
                            exact ih (k + 1) (by omega) (by omega) wd rg rs pcv trv vav dnv th me rg rs pcv trv vav dnv wv fa wi ne ov (⟨hR, rfl, rfl, h00, rfl, rfl, rfl, rfl, hG⟩) H _ hP hD hS ls hl
