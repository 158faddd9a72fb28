section
-- ===== PART A: goes FIRST, ahead of the names: the tables' words, and 'selects' of the private methods out of them =====
/-- a private method of a class that the tables say can be made, by its rows of tables_1 -/
def lw_okq (q : MethodName × Nat) : Prop := (q.1.cls ≠ "java/lang/invoke/MethodHandle" ∧ q.1.cls ≠ "java/lang/invoke/VarHandle") ∧ Cond.instantiable q.1.cls q.2 ∈ tables_1 ∧ Cond.privateMethod q.1 ∈ tables_1 ∧ Cond.instanceMethod q.1 ∈ tables_1
theorem lw_p0 : lw_okq (⟨"UserCore", "putBytes", "(IIJ)V"⟩, 7) := ⟨⟨by decide +kernel, by decide +kernel⟩, List.mem_of_getElem? (i := 8) (by decide +kernel), List.mem_of_getElem? (i := 43) (by decide +kernel), List.mem_of_getElem? (i := 44) (by decide +kernel)⟩
theorem lw_p1 : lw_okq (⟨"UserCore", "bytesFrom", "(I)I"⟩, 7) := ⟨⟨by decide +kernel, by decide +kernel⟩, List.mem_of_getElem? (i := 8) (by decide +kernel), List.mem_of_getElem? (i := 54) (by decide +kernel), List.mem_of_getElem? (i := 55) (by decide +kernel)⟩
theorem lw_p2 : lw_okq (⟨"UserCore", "putRegister", "(II)V"⟩, 7) := ⟨⟨by decide +kernel, by decide +kernel⟩, List.mem_of_getElem? (i := 8) (by decide +kernel), List.mem_of_getElem? (i := 69) (by decide +kernel), List.mem_of_getElem? (i := 70) (by decide +kernel)⟩
theorem lw_p3 : lw_okq (⟨"java/lang/Throwable", "fillInStackTrace", "(I)Ljava/lang/Throwable;"⟩, 6) := ⟨⟨by decide +kernel, by decide +kernel⟩, List.mem_of_getElem? (i := 141) (by decide +kernel), List.mem_of_getElem? (i := 139) (by decide +kernel), List.mem_of_getElem? (i := 140) (by decide +kernel)⟩
theorem lw_p4 : lw_okq (⟨"UserCore", "makeStep", "()Z"⟩, 7) := ⟨⟨by decide +kernel, by decide +kernel⟩, List.mem_of_getElem? (i := 8) (by decide +kernel), List.mem_of_getElem? (i := 171) (by decide +kernel), List.mem_of_getElem? (i := 172) (by decide +kernel)⟩
theorem lw_p5 : lw_okq (⟨"UserCore", "trapWith", "(II)Z"⟩, 7) := ⟨⟨by decide +kernel, by decide +kernel⟩, List.mem_of_getElem? (i := 8) (by decide +kernel), List.mem_of_getElem? (i := 178) (by decide +kernel), List.mem_of_getElem? (i := 179) (by decide +kernel)⟩
theorem lw_p6 : lw_okq (⟨"UserCore", "hasRight", "(II)Z"⟩, 7) := ⟨⟨by decide +kernel, by decide +kernel⟩, List.mem_of_getElem? (i := 8) (by decide +kernel), List.mem_of_getElem? (i := 182) (by decide +kernel), List.mem_of_getElem? (i := 183) (by decide +kernel)⟩
theorem lw_p7 : lw_okq (⟨"UserCore", "execute", "(I)Z"⟩, 7) := ⟨⟨by decide +kernel, by decide +kernel⟩, List.mem_of_getElem? (i := 8) (by decide +kernel), List.mem_of_getElem? (i := 186) (by decide +kernel), List.mem_of_getElem? (i := 187) (by decide +kernel)⟩
theorem lw_p8 : lw_okq (⟨"UserCore", "finish", "(II)Z"⟩, 7) := ⟨⟨by decide +kernel, by decide +kernel⟩, List.mem_of_getElem? (i := 8) (by decide +kernel), List.mem_of_getElem? (i := 193) (by decide +kernel), List.mem_of_getElem? (i := 194) (by decide +kernel)⟩
theorem lw_p9 : lw_okq (⟨"UserCore", "linkAndGo", "(II)Z"⟩, 7) := ⟨⟨by decide +kernel, by decide +kernel⟩, List.mem_of_getElem? (i := 8) (by decide +kernel), List.mem_of_getElem? (i := 203) (by decide +kernel), List.mem_of_getElem? (i := 204) (by decide +kernel)⟩
theorem lw_p10 : lw_okq (⟨"UserCore", "goToRegister", "(I)Z"⟩, 7) := ⟨⟨by decide +kernel, by decide +kernel⟩, List.mem_of_getElem? (i := 8) (by decide +kernel), List.mem_of_getElem? (i := 207) (by decide +kernel), List.mem_of_getElem? (i := 208) (by decide +kernel)⟩
theorem lw_p11 : lw_okq (⟨"UserCore", "refuse", "(I)Z"⟩, 7) := ⟨⟨by decide +kernel, by decide +kernel⟩, List.mem_of_getElem? (i := 8) (by decide +kernel), List.mem_of_getElem? (i := 214) (by decide +kernel), List.mem_of_getElem? (i := 215) (by decide +kernel)⟩
theorem lw_p12 : lw_okq (⟨"UserCore", "registerA", "(I)I"⟩, 7) := ⟨⟨by decide +kernel, by decide +kernel⟩, List.mem_of_getElem? (i := 8) (by decide +kernel), List.mem_of_getElem? (i := 218) (by decide +kernel), List.mem_of_getElem? (i := 219) (by decide +kernel)⟩
theorem lw_p13 : lw_okq (⟨"UserCore", "branch", "(I)Z"⟩, 7) := ⟨⟨by decide +kernel, by decide +kernel⟩, List.mem_of_getElem? (i := 8) (by decide +kernel), List.mem_of_getElem? (i := 225) (by decide +kernel), List.mem_of_getElem? (i := 226) (by decide +kernel)⟩
theorem lw_p14 : lw_okq (⟨"UserCore", "registerB", "(I)I"⟩, 7) := ⟨⟨by decide +kernel, by decide +kernel⟩, List.mem_of_getElem? (i := 8) (by decide +kernel), List.mem_of_getElem? (i := 229) (by decide +kernel), List.mem_of_getElem? (i := 230) (by decide +kernel)⟩
theorem lw_p15 : lw_okq (⟨"UserCore", "load", "(I)Z"⟩, 7) := ⟨⟨by decide +kernel, by decide +kernel⟩, List.mem_of_getElem? (i := 8) (by decide +kernel), List.mem_of_getElem? (i := 246) (by decide +kernel), List.mem_of_getElem? (i := 247) (by decide +kernel)⟩
def lw_privs_1 : List (MethodName × Nat) := [(⟨"UserCore", "putBytes", "(IIJ)V"⟩, 7), (⟨"UserCore", "bytesFrom", "(I)I"⟩, 7), (⟨"UserCore", "putRegister", "(II)V"⟩, 7), (⟨"java/lang/Throwable", "fillInStackTrace", "(I)Ljava/lang/Throwable;"⟩, 6), (⟨"UserCore", "makeStep", "()Z"⟩, 7), (⟨"UserCore", "trapWith", "(II)Z"⟩, 7), (⟨"UserCore", "hasRight", "(II)Z"⟩, 7), (⟨"UserCore", "execute", "(I)Z"⟩, 7), (⟨"UserCore", "finish", "(II)Z"⟩, 7), (⟨"UserCore", "linkAndGo", "(II)Z"⟩, 7), (⟨"UserCore", "goToRegister", "(I)Z"⟩, 7), (⟨"UserCore", "refuse", "(I)Z"⟩, 7), (⟨"UserCore", "registerA", "(I)I"⟩, 7), (⟨"UserCore", "branch", "(I)Z"⟩, 7), (⟨"UserCore", "registerB", "(I)I"⟩, 7), (⟨"UserCore", "load", "(I)Z"⟩, 7)]
theorem lw_r1 : ∀ q ∈ lw_privs_1, lw_okq q := List.forall_mem_cons.mpr ⟨lw_p0, List.forall_mem_cons.mpr ⟨lw_p1, List.forall_mem_cons.mpr ⟨lw_p2, List.forall_mem_cons.mpr ⟨lw_p3, List.forall_mem_cons.mpr ⟨lw_p4, List.forall_mem_cons.mpr ⟨lw_p5, List.forall_mem_cons.mpr ⟨lw_p6, List.forall_mem_cons.mpr ⟨lw_p7, List.forall_mem_cons.mpr ⟨lw_p8, List.forall_mem_cons.mpr ⟨lw_p9, List.forall_mem_cons.mpr ⟨lw_p10, List.forall_mem_cons.mpr ⟨lw_p11, List.forall_mem_cons.mpr ⟨lw_p12, List.forall_mem_cons.mpr ⟨lw_p13, List.forall_mem_cons.mpr ⟨lw_p14, List.forall_mem_cons.mpr ⟨lw_p15, fun _ h => absurd h List.not_mem_nil⟩⟩⟩⟩⟩⟩⟩⟩⟩⟩⟩⟩⟩⟩⟩⟩
theorem lw_p16 : lw_okq (⟨"UserCore", "store", "(I)Z"⟩, 7) := ⟨⟨by decide +kernel, by decide +kernel⟩, List.mem_of_getElem? (i := 8) (by decide +kernel), List.mem_of_getElem? (i := 254) (by decide +kernel), List.mem_of_getElem? (i := 255) (by decide +kernel)⟩
theorem lw_p17 : lw_okq (⟨"UserCore", "computeWithImmediate", "(I)Z"⟩, 7) := ⟨⟨by decide +kernel, by decide +kernel⟩, List.mem_of_getElem? (i := 8) (by decide +kernel), List.mem_of_getElem? (i := 261) (by decide +kernel), List.mem_of_getElem? (i := 262) (by decide +kernel)⟩
theorem lw_p18 : lw_okq (⟨"UserCore", "computeWithRegisters", "(I)Z"⟩, 7) := ⟨⟨by decide +kernel, by decide +kernel⟩, List.mem_of_getElem? (i := 8) (by decide +kernel), List.mem_of_getElem? (i := 271) (by decide +kernel), List.mem_of_getElem? (i := 272) (by decide +kernel)⟩
theorem lw_p19 : lw_okq (⟨"UserCore", "fence", "(I)Z"⟩, 7) := ⟨⟨by decide +kernel, by decide +kernel⟩, List.mem_of_getElem? (i := 8) (by decide +kernel), List.mem_of_getElem? (i := 284) (by decide +kernel), List.mem_of_getElem? (i := 285) (by decide +kernel)⟩
theorem lw_p20 : lw_okq (⟨"UserCore", "callOrBreak", "(I)Z"⟩, 7) := ⟨⟨by decide +kernel, by decide +kernel⟩, List.mem_of_getElem? (i := 8) (by decide +kernel), List.mem_of_getElem? (i := 288) (by decide +kernel), List.mem_of_getElem? (i := 289) (by decide +kernel)⟩
theorem lw_p21 : lw_okq (⟨"UserCoreModel", "step", "()Z"⟩, 12) := ⟨⟨by decide +kernel, by decide +kernel⟩, List.mem_of_getElem? (i := 293) (by decide +kernel), List.mem_of_getElem? (i := 372) (by decide +kernel), List.mem_of_getElem? (i := 373) (by decide +kernel)⟩
theorem lw_p22 : lw_okq (⟨"UserCoreModel", "fail", "(II)V"⟩, 12) := ⟨⟨by decide +kernel, by decide +kernel⟩, List.mem_of_getElem? (i := 293) (by decide +kernel), List.mem_of_getElem? (i := 376) (by decide +kernel), List.mem_of_getElem? (i := 377) (by decide +kernel)⟩
theorem lw_p23 : lw_okq (⟨"UserCoreModel", "may", "(II)Z"⟩, 12) := ⟨⟨by decide +kernel, by decide +kernel⟩, List.mem_of_getElem? (i := 293) (by decide +kernel), List.mem_of_getElem? (i := 380) (by decide +kernel), List.mem_of_getElem? (i := 381) (by decide +kernel)⟩
theorem lw_p24 : lw_okq (⟨"UserCoreModel", "bytes", "(II)I"⟩, 12) := ⟨⟨by decide +kernel, by decide +kernel⟩, List.mem_of_getElem? (i := 293) (by decide +kernel), List.mem_of_getElem? (i := 384) (by decide +kernel), List.mem_of_getElem? (i := 385) (by decide +kernel)⟩
theorem lw_p25 : lw_okq (⟨"UserCoreModel", "perform", "()V"⟩, 12) := ⟨⟨by decide +kernel, by decide +kernel⟩, List.mem_of_getElem? (i := 293) (by decide +kernel), List.mem_of_getElem? (i := 388) (by decide +kernel), List.mem_of_getElem? (i := 389) (by decide +kernel)⟩
theorem lw_p26 : lw_okq (⟨"UserCoreModel", "part", "(II)I"⟩, 12) := ⟨⟨by decide +kernel, by decide +kernel⟩, List.mem_of_getElem? (i := 293) (by decide +kernel), List.mem_of_getElem? (i := 392) (by decide +kernel), List.mem_of_getElem? (i := 393) (by decide +kernel)⟩
theorem lw_p27 : lw_okq (⟨"UserCoreModel", "u", "()I"⟩, 12) := ⟨⟨by decide +kernel, by decide +kernel⟩, List.mem_of_getElem? (i := 293) (by decide +kernel), List.mem_of_getElem? (i := 396) (by decide +kernel), List.mem_of_getElem? (i := 397) (by decide +kernel)⟩
theorem lw_p28 : lw_okq (⟨"UserCoreModel", "put", "(I)V"⟩, 12) := ⟨⟨by decide +kernel, by decide +kernel⟩, List.mem_of_getElem? (i := 293) (by decide +kernel), List.mem_of_getElem? (i := 400) (by decide +kernel), List.mem_of_getElem? (i := 401) (by decide +kernel)⟩
theorem lw_p29 : lw_okq (⟨"UserCoreModel", "j", "()I"⟩, 12) := ⟨⟨by decide +kernel, by decide +kernel⟩, List.mem_of_getElem? (i := 293) (by decide +kernel), List.mem_of_getElem? (i := 404) (by decide +kernel), List.mem_of_getElem? (i := 405) (by decide +kernel)⟩
theorem lw_p30 : lw_okq (⟨"UserCoreModel", "goTo", "(IZ)V"⟩, 12) := ⟨⟨by decide +kernel, by decide +kernel⟩, List.mem_of_getElem? (i := 293) (by decide +kernel), List.mem_of_getElem? (i := 411) (by decide +kernel), List.mem_of_getElem? (i := 412) (by decide +kernel)⟩
theorem lw_p31 : lw_okq (⟨"UserCoreModel", "i", "()I"⟩, 12) := ⟨⟨by decide +kernel, by decide +kernel⟩, List.mem_of_getElem? (i := 293) (by decide +kernel), List.mem_of_getElem? (i := 415) (by decide +kernel), List.mem_of_getElem? (i := 416) (by decide +kernel)⟩
def lw_privs_2 : List (MethodName × Nat) := [(⟨"UserCore", "store", "(I)Z"⟩, 7), (⟨"UserCore", "computeWithImmediate", "(I)Z"⟩, 7), (⟨"UserCore", "computeWithRegisters", "(I)Z"⟩, 7), (⟨"UserCore", "fence", "(I)Z"⟩, 7), (⟨"UserCore", "callOrBreak", "(I)Z"⟩, 7), (⟨"UserCoreModel", "step", "()Z"⟩, 12), (⟨"UserCoreModel", "fail", "(II)V"⟩, 12), (⟨"UserCoreModel", "may", "(II)Z"⟩, 12), (⟨"UserCoreModel", "bytes", "(II)I"⟩, 12), (⟨"UserCoreModel", "perform", "()V"⟩, 12), (⟨"UserCoreModel", "part", "(II)I"⟩, 12), (⟨"UserCoreModel", "u", "()I"⟩, 12), (⟨"UserCoreModel", "put", "(I)V"⟩, 12), (⟨"UserCoreModel", "j", "()I"⟩, 12), (⟨"UserCoreModel", "goTo", "(IZ)V"⟩, 12), (⟨"UserCoreModel", "i", "()I"⟩, 12)]
theorem lw_r2 : ∀ q ∈ lw_privs_2, lw_okq q := List.forall_mem_cons.mpr ⟨lw_p16, List.forall_mem_cons.mpr ⟨lw_p17, List.forall_mem_cons.mpr ⟨lw_p18, List.forall_mem_cons.mpr ⟨lw_p19, List.forall_mem_cons.mpr ⟨lw_p20, List.forall_mem_cons.mpr ⟨lw_p21, List.forall_mem_cons.mpr ⟨lw_p22, List.forall_mem_cons.mpr ⟨lw_p23, List.forall_mem_cons.mpr ⟨lw_p24, List.forall_mem_cons.mpr ⟨lw_p25, List.forall_mem_cons.mpr ⟨lw_p26, List.forall_mem_cons.mpr ⟨lw_p27, List.forall_mem_cons.mpr ⟨lw_p28, List.forall_mem_cons.mpr ⟨lw_p29, List.forall_mem_cons.mpr ⟨lw_p30, List.forall_mem_cons.mpr ⟨lw_p31, fun _ h => absurd h List.not_mem_nil⟩⟩⟩⟩⟩⟩⟩⟩⟩⟩⟩⟩⟩⟩⟩⟩
theorem lw_p32 : lw_okq (⟨"UserCoreModel", "strange", "()V"⟩, 12) := ⟨⟨by decide +kernel, by decide +kernel⟩, List.mem_of_getElem? (i := 293) (by decide +kernel), List.mem_of_getElem? (i := 419) (by decide +kernel), List.mem_of_getElem? (i := 420) (by decide +kernel)⟩
theorem lw_p33 : lw_okq (⟨"UserCoreModel", "branch", "(III)V"⟩, 12) := ⟨⟨by decide +kernel, by decide +kernel⟩, List.mem_of_getElem? (i := 293) (by decide +kernel), List.mem_of_getElem? (i := 423) (by decide +kernel), List.mem_of_getElem? (i := 424) (by decide +kernel)⟩
theorem lw_p34 : lw_okq (⟨"UserCoreModel", "b", "()I"⟩, 12) := ⟨⟨by decide +kernel, by decide +kernel⟩, List.mem_of_getElem? (i := 293) (by decide +kernel), List.mem_of_getElem? (i := 430) (by decide +kernel), List.mem_of_getElem? (i := 431) (by decide +kernel)⟩
theorem lw_p35 : lw_okq (⟨"UserCoreModel", "load", "(II)V"⟩, 12) := ⟨⟨by decide +kernel, by decide +kernel⟩, List.mem_of_getElem? (i := 293) (by decide +kernel), List.mem_of_getElem? (i := 434) (by decide +kernel), List.mem_of_getElem? (i := 435) (by decide +kernel)⟩
theorem lw_p36 : lw_okq (⟨"UserCoreModel", "s", "()I"⟩, 12) := ⟨⟨by decide +kernel, by decide +kernel⟩, List.mem_of_getElem? (i := 293) (by decide +kernel), List.mem_of_getElem? (i := 438) (by decide +kernel), List.mem_of_getElem? (i := 439) (by decide +kernel)⟩
theorem lw_p37 : lw_okq (⟨"UserCoreModel", "store", "(III)V"⟩, 12) := ⟨⟨by decide +kernel, by decide +kernel⟩, List.mem_of_getElem? (i := 293) (by decide +kernel), List.mem_of_getElem? (i := 442) (by decide +kernel), List.mem_of_getElem? (i := 443) (by decide +kernel)⟩
theorem lw_p38 : lw_okq (⟨"UserCoreModel", "immediate", "(III)V"⟩, 12) := ⟨⟨by decide +kernel, by decide +kernel⟩, List.mem_of_getElem? (i := 293) (by decide +kernel), List.mem_of_getElem? (i := 446) (by decide +kernel), List.mem_of_getElem? (i := 447) (by decide +kernel)⟩
theorem lw_p39 : lw_okq (⟨"UserCoreModel", "both", "(IIII)V"⟩, 12) := ⟨⟨by decide +kernel, by decide +kernel⟩, List.mem_of_getElem? (i := 293) (by decide +kernel), List.mem_of_getElem? (i := 456) (by decide +kernel), List.mem_of_getElem? (i := 457) (by decide +kernel)⟩
def lw_privs_3 : List (MethodName × Nat) := [(⟨"UserCoreModel", "strange", "()V"⟩, 12), (⟨"UserCoreModel", "branch", "(III)V"⟩, 12), (⟨"UserCoreModel", "b", "()I"⟩, 12), (⟨"UserCoreModel", "load", "(II)V"⟩, 12), (⟨"UserCoreModel", "s", "()I"⟩, 12), (⟨"UserCoreModel", "store", "(III)V"⟩, 12), (⟨"UserCoreModel", "immediate", "(III)V"⟩, 12), (⟨"UserCoreModel", "both", "(IIII)V"⟩, 12)]
theorem lw_r3 : ∀ q ∈ lw_privs_3, lw_okq q := List.forall_mem_cons.mpr ⟨lw_p32, List.forall_mem_cons.mpr ⟨lw_p33, List.forall_mem_cons.mpr ⟨lw_p34, List.forall_mem_cons.mpr ⟨lw_p35, List.forall_mem_cons.mpr ⟨lw_p36, List.forall_mem_cons.mpr ⟨lw_p37, List.forall_mem_cons.mpr ⟨lw_p38, List.forall_mem_cons.mpr ⟨lw_p39, fun _ h => absurd h List.not_mem_nil⟩⟩⟩⟩⟩⟩⟩⟩
def lw_privs : List (MethodName × Nat) := lw_privs_1 ++ (lw_privs_2 ++ (lw_privs_3))
def lw_tbl : List Cond := k2_sels lw_privs ++ tables_1
theorem lw_privs_ok : ∀ q ∈ lw_privs, lw_okq q := by
  show ∀ q ∈ lw_privs_1 ++ (lw_privs_2 ++ (lw_privs_3)), lw_okq q
  exact List.forall_mem_append.mpr ⟨lw_r1, List.forall_mem_append.mpr ⟨lw_r2, lw_r3⟩⟩
end
section
/-! ===== BEGIN words of one list among another's, by their places ===== -/
theorem goodIn_r {big : List Cond} (ws : List Cond) (ps : List Nat) (hp : ws = ps.filterMap (fun i => big[i]?)) (h : ws.all goodWord = true) : GoodIn big ws := by
  intro w hw
  have h1 := List.all_eq_true.mp h w hw
  rw [hp] at hw
  obtain ⟨i, -, hi⟩ := List.mem_filterMap.mp hw
  have hm : w ∈ big := by first | exact List.mem_of_getElem? hi | exact List.getElem?_mem hi
  exact ⟨hm, good_of_word h1⟩
theorem goodIn_app {big a b : List Cond} (ha : GoodIn big a) (hb : GoodIn big b) : GoodIn big (a ++ b) := fun w h => (List.mem_append.mp h).elim (ha w) (hb w)
theorem goodIn_ca {big a b : List Cond} {c : Cond} (ha : GoodIn big (c :: a)) (hb : GoodIn big b) : GoodIn big (c :: (a ++ b)) := fun w h => (List.mem_cons.mp h).elim (fun e => ha w (List.mem_cons.mpr (Or.inl e))) (fun h => (List.mem_append.mp h).elim (fun h => ha w (List.mem_cons.mpr (Or.inr h))) (hb w))
theorem goodIn_sub {big ws : List Cond} (hm : ∀ w ∈ ws, w ∈ big) (h : ws.all goodWord = true) : GoodIn big ws := fun w hw => ⟨hm w hw, good_of_word (List.all_eq_true.mp h w hw)⟩
/-! ===== END ===== -/

/-! ===== BEGIN exceptions that leave a method, and their catching by the caller (launches without stack traces) ===== -/
section VXA
/-! The laws vx_back, vx_callV, vx_callS, vx_callSW, vx_throw0, vx_throwS follow proofs of the library, with one case more: JvmDerived/Free/Laws.lean (Back.of_free), Shelf42/LK1.lean (callV, callS), Shelf/KitTraced.lean (throwNew0V, throwNewS). -/
/-- where a method has thrown q: the class by its name, the cell, what was written, the world -/
def vx_T (XC : String → State → State → Prop) (st : State) (q : Addr) (t : State) (mc ms : Nat) (free : Addr → Prop) : Prop :=
  ∃ (E : String) (ce : Cell) (L : List Loc), XC E st t ∧ t.heap[q]? = some ce ∧ ce.vm = .none ∧ st.vm.findClass E = some ce.cls ∧ st.WarmedH t.vm ∧ st.sameButNew ({ t with vm := st.vm } : State) L mc ms ∧ ∀ z ∈ L, free z.base
def vx_Q (Qc : Array Value → State → Outcome → State → Prop) (XC : String → State → State → Prop) (mc ms : Nat) (free : Addr → Prop) : Array Value → State → Outcome → State → Prop := fun a st o t =>
  (Qc a st o t ∧ ∃ L, FrameEnd st o t L mc ms ∧ ∀ q ∈ L, free q.base) ∨ ∃ q, o = .threw q ∧ vx_T XC st q t mc ms free
/-- a callee that returns or throws -/
def vx_Met (l : Launch) (y : MethodName) (ws : List Cond) (rm : Room) (Pc : Array Value → State → Prop) (Qc : Array Value → State → Outcome → State → Prop) (XC : String → State → State → Prop) (mc ms : Nat) (free : Addr → Prop) : Prop :=
  MetFree l y (headSpec ws rm) Pc (fun _ _ _ _ _ => True) (vx_Q Qc XC mc ms free)
def vx_Post (XC : String → State → State → Prop) (mc ms : Nat) (free : Addr → Prop) : Pt → Array Value → Addr → Pt → Prop := fun A a q B =>
  ∃ (g : JFrame) (mk : MethodId) (t : State) (L : List Loc) (E : String) (ce : Cell), B.U.heap = t.heap ∧ B.U.vm = t.vm ∧ XC E (A.U.calling g mk a) t ∧ t.heap[q]? = some ce ∧ ce.vm = .none ∧ A.U.vm.findClass E = some ce.cls ∧ B.locs = A.locs ++ L ∧ (∀ z ∈ L, free z.base) ∧ B.cells = A.cells + mc ∧ B.slots = A.slots + ms
def vx_Back (l : Launch) (R : Room) (p : Program) (e : Env) (below : List Frame) (s : State) (sargs : Array Value) (y : MethodName) (len W9 : Nat)
    (Pre : Pt → Array Value → Prop) (Post : Pt → Array Value → Option Value → Pt → Prop) (PostX : Pt → Array Value → Addr → Pt → Prop) : Prop :=
  ∀ (m : MethodId) (meth : Method) (c : Code) (A : Pt) (g : JFrame) (ig : Instr) (mk : MethodId) (a : Array Value),
    Stand p l e R s m sargs below meth c A.U A.locs A.cells A.slots → g.method = m → g.locals.size = c.maxLocals → decode c.code g.pc = .ok (ig, len) →
    2 * g.monitorRoom + (g.stack.map fun v => v.category).sum ≤ W9 → A.U.methodNamed? y = some mk → Pre A a →
    (∃ (v : Option Value) (B : Pt), Stand p l e R s m sargs below meth c B.U B.locs B.cells B.slots ∧ Post A a v B ∧
      Steps p.tables e below (doInvoke e (A.U.setTop g) [] mk a).1 (B.U.setTop { g with pc := g.pc + len, stack := v.toList ++ g.stack })) ∨
    (∃ (q : Addr) (B : Pt), Stand p l e R s m sargs below meth c B.U B.locs B.cells B.slots ∧ PostX A a q B ∧
      Steps p.tables e below (doInvoke e (A.U.setTop g) [] mk a).1 ((B.U.setTop g).pushFrame (.throwing q)))
section Payer
variable {l : Launch} {R : Room} {p : Program} {e : Env} {below : List Frame} {s : State} {sargs : Array Value} {y : MethodName} {len W9 : Nat}
theorem vx_back {ws : List Cond} {rm : Room} {Pc : Array Value → State → Prop} {Qc : Array Value → State → Outcome → State → Prop} {XC : String → State → State → Prop} {mc ms : Nat} {free : Addr → Prop} {bytes : ByteArray} {maxL : Nat} {ret : Option FieldType}
    (hM : vx_Met l y ws rm Pc Qc XC mc ms free) (hblind : FrameBlind Pc) (hrc : rm.cells = mc) (hrs : rm.slots = ms)
    (hframes : rm.frames + 1 ≤ R.frames) (hlocals : W9 + (maxL + 11) + rm.locals ≤ R.locals)
    (hws : ∀ w ∈ ws, ∀ a' U, s.WarmedH U.vm → w.before a' U = true) (hcode : Cond.code y bytes maxL ret ∈ ws) (hinit : ∀ a' U, s.WarmedH U.vm → (Cond.initialized y.cls).before a' U = true) :
    vx_Back l R p e below s sargs y len W9 (PreOf R mc ms Pc) (PostOf Qc mc ms free) (vx_Post XC mc ms free) := by
  intro m meth c A g ig mk a X hg hsize hdg hW hn hp
  have h1 : (headSpec ws rm).pre.before a A.U = true := atoms_intro fun w hw => hws w hw _ _ X.warmed
  have h2 : (Cond.code y bytes maxL ret).before a A.U = true := hws _ hcode _ _ X.warmed
  have h3 : (Cond.initialized y.cls).before a A.U = true := hinit _ _ X.warmed
  have h4 : A.cells + (headSpec ws rm).room.cells ≤ R.cells := by rw [show (headSpec ws rm).room.cells = mc from hrc]; exact hp.1
  have h5 : A.slots + (headSpec ws rm).room.slots ≤ R.slots := by rw [show (headSpec ws rm).room.slots = ms from hrs]; exact hp.2.1
  have hPc : Pc a (A.U.calling g mk a) := hblind _ _ _ _ hp.2.2
  obtain ⟨U, Ls, c0, s0⟩ := A
  dsimp only [Pt.U, Pt.locs, Pt.cells, Pt.slots] at h1 h2 h3 h4 h5 X hn hPc ⊢
  obtain ⟨methY, cY, hmY, hcY, -, hlY, -, -, -, -⟩ := Cond.code_spec hn h2
  obtain ⟨kY, hkY, -⟩ := className_of_methodNamed hn
  have hinitY : kY.init = .initialized := Cond.initialized_spec (findClass_of_methodNamed hn) hkY h3
  have h : At U g.method c below := by rw [hg]; exact X.here
  have hlocals9 : W9 + (maxL + 11) + (headSpec ws rm).room.locals ≤ R.locals := hlocals
  have happ : (headSpec ws rm).appliesLoose y e.platform (U.calling g mk a) = true :=
    Spec.appliesLoose_calling (g := g) h hdg hn hkY hinitY
      (X.room_calling (g := g) (R' := (headSpec ws rm).room) hsize hmY hcY hframes (by rw [hlY]; omega) h4 h5) h1
  obtain ⟨mid, hmid⟩ := h.above
  have hfr : (U.setTop g).frames = (.java g :: mid) ++ below := by rw [State.frames_setTop' g h.top, hmid]; rfl
  obtain ⟨o, s₂, hsteps, -, hend, hq⟩ := Steps.callFree hM p X.admits X.cas X.clock (acts := []) hfr happ hPc trivial
  have hq' : vx_Q Qc XC mc ms free a (U.calling g mk a) o s₂ := hq
  rw [State.frames_setTop' g h.top] at hend
  obtain ⟨g₀, hg0⟩ := Option.isSome_iff_exists.mp h.top
  obtain ⟨r, hr⟩ := State.topJava?_eq_some.mp hg0
  have hr' : (({ U with heap := s₂.heap, slotsUsed := s₂.slotsUsed } : State).setVm s₂.vm).frames = .java g₀ :: r := hr
  rcases hq' with ⟨hqc, L, hfe, hL⟩ | ⟨q, rfl, E, ce, L, hx, hce, hcv, hcl, hW₂, hsm, hL⟩
  · obtain ⟨⟨v, rfl⟩, hW₂, e2, q2, q3, q4, q5, q6⟩ := id hfe
    have e3 : s₂ = ({ (U.calling g mk a).setFrames s₂.frames with heap := s₂.heap, slotsUsed := s₂.slotsUsed } : State).setVm s₂.vm := by
      have : s₂ = ({ s₂ with vm := (U.calling g mk a).vm } : State).setVm s₂.vm := rfl
      rw [e2] at this
      exact this
    obtain ⟨c₂, i₂, len₂, hc₂, hd₂, hf₂⟩ := hend
    have hW' : U.WarmedH s₂.vm := hW₂
    have hcc : c₂ = c := by
      have h1 : s₂.code? g.method = U.code? g.method := by
        rw [State.code?_eq, State.code?_eq, hW'.alike.method?]
      exact Option.some.inj (hc₂.symm.trans (h1.trans h.code))
    subst hcc
    have hlen : len₂ = len := by rw [hdg] at hd₂; cases hd₂; rfl
    subst hlen
    have hs₂ : s₂ = (({ U with heap := s₂.heap, slotsUsed := s₂.slotsUsed } : State).setVm s₂.vm).setTop { g with pc := g.pc + len₂, stack := v.toList ++ g.stack } := by
      refine e3.trans ?_
      rw [hf₂, State.calling_eq h.top, State.setFrames_setFrames, State.setTop_of_frames _ hr', hr]
      rfl
    have hsame : U.sameButNew ({ U with heap := s₂.heap, slotsUsed := s₂.slotsUsed } : State) L mc ms := by
      refine ⟨?_, q2, q3, q4, q5, q6⟩
      obtain ⟨t, ht, -⟩ := State.frames_cons hr
      show ({ U with heap := s₂.heap, slotsUsed := s₂.slotsUsed } : State) = { U.setFrames U.frames with heap := s₂.heap, slotsUsed := s₂.slotsUsed }
      rw [State.setFrames_self ht]
    subst hg
    refine Or.inl ⟨v, ⟨(({ U with heap := s₂.heap, slotsUsed := s₂.slotsUsed } : State).setVm s₂.vm), Ls ++ L, c0 + mc, s0 + ms⟩,
      ⟨X.admits, X.cas, X.clock, X.frames, X.room, X.hears, X.method, X.code, (X.here.setHeapUsed s₂.heap s₂.slotsUsed).setVm hW'.alike, X.tail, State.WarmedH.trans X.warmed hW', X.limits, X.bytes, X.same.trans (hsame.setVm s.vm)⟩,
      ⟨g, mk, s₂, L, rfl, rfl, hqc, rfl, hL, rfl, rfl⟩, ?_⟩
    show Steps p.tables e below _ ((({ U with heap := s₂.heap, slotsUsed := s₂.slotsUsed } : State).setVm s₂.vm).setTop { g with pc := g.pc + len₂, stack := v.toList ++ g.stack })
    rw [← hs₂]
    exact hsteps
  · obtain ⟨e2, q2, q3, q4, q5, q6⟩ := id hsm
    have e3 : s₂ = ({ (U.calling g mk a).setFrames s₂.frames with heap := s₂.heap, slotsUsed := s₂.slotsUsed } : State).setVm s₂.vm := by
      have : s₂ = ({ s₂ with vm := (U.calling g mk a).vm } : State).setVm s₂.vm := rfl
      rw [e2] at this
      exact this
    have hf₂ : s₂.frames = .throwing q :: .java g :: U.frames.tail := hend
    have hW' : U.WarmedH s₂.vm := hW₂
    have hs₂ : s₂ = ((({ U with heap := s₂.heap, slotsUsed := s₂.slotsUsed } : State).setVm s₂.vm).setTop g).pushFrame (.throwing q) := by
      refine e3.trans ?_
      rw [hf₂, State.calling_eq h.top, State.setFrames_setFrames, State.pushFrame, State.frames_setTop _ hr', State.setTop_of_frames _ hr', State.setFrames_setFrames, hr]
      rfl
    have hsame : U.sameButNew ({ U with heap := s₂.heap, slotsUsed := s₂.slotsUsed } : State) L mc ms := by
      refine ⟨?_, q2, q3, q4, q5, q6⟩
      obtain ⟨t, ht, -⟩ := State.frames_cons hr
      show ({ U with heap := s₂.heap, slotsUsed := s₂.slotsUsed } : State) = { U.setFrames U.frames with heap := s₂.heap, slotsUsed := s₂.slotsUsed }
      rw [State.setFrames_self ht]
    subst hg
    refine Or.inr ⟨q, ⟨(({ U with heap := s₂.heap, slotsUsed := s₂.slotsUsed } : State).setVm s₂.vm), Ls ++ L, c0 + mc, s0 + ms⟩,
      ⟨X.admits, X.cas, X.clock, X.frames, X.room, X.hears, X.method, X.code, (X.here.setHeapUsed s₂.heap s₂.slotsUsed).setVm hW'.alike, X.tail, State.WarmedH.trans X.warmed hW', X.limits, X.bytes, X.same.trans (hsame.setVm s.vm)⟩,
      ⟨g, mk, s₂, L, E, ce, rfl, rfl, hx, hce, hcv, hcl, rfl, hL, rfl, rfl⟩, ?_⟩
    show Steps p.tables e below _ (((({ U with heap := s₂.heap, slotsUsed := s₂.slotsUsed } : State).setVm s₂.vm).setTop g).pushFrame (.throwing q))
    rw [← hs₂]
    exact hsteps
end Payer
section Calls
variable {p : Program} {l : Launch} {e : Env} {R : Room} {s : State} {m : MethodId} {args : Array Value} {below : List Frame} {meth : Method} {c : Code} {T : State} {locs : List Loc} {cells slots : Nat}
theorem vx_callV (X : Stand p l e R s m args below meth c T locs cells slots) (hexec : p.tables.exec = Jvm.exec) {own C : String} {index : Nat} {y : MethodName} {bytes : ByteArray} {maxL : Nat} {ret : Option FieldType}
    (hown : s.vm.findClass own = some m.cls) (hlink : (Cond.methodLink own index y).before args s = true) (hinst : (Cond.instanceMethod y).before args s = true) (hsel : (Cond.selects C y y).before args s = true)
    (hcode : (Cond.code y bytes maxL ret).before args s = true) (hy : y.cls ≠ "java/lang/invoke/MethodHandle" ∧ y.cls ≠ "java/lang/invoke/VarHandle")
    {W9 : Nat} {Pre : Pt → Array Value → Prop} {Post : Pt → Array Value → Option Value → Pt → Prop} {PostX : Pt → Array Value → Addr → Pt → Prop} (hK : vx_Back l R p e below s args y 3 W9 Pre Post PostX)
    {b : Addr} {cellB : Cell} (hcell : T.heap[b]? = some cellB) (hobj : cellB.vm.isStatics = false) (hcls : s.vm.findClass C = some cellB.cls)
    {g : JFrame} (hg : g.method = m) (hsize : g.locals.size = c.maxLocals) {argsL rest : List Value} (hlen : ∀ sig, parseMethodDescriptor y.desc = some sig → argsL.length = sig.parameters.length)
    (hstack : g.stack = argsL.reverse ++ .ref b :: rest) (hW : 2 * g.monitorRoom + (rest.map fun v => v.category).sum ≤ W9) (hdg : decode c.code g.pc = .ok (.invokevirtual index, 3))
    (hpre : ∀ vm₁, s.WarmedH vm₁ → Pre ⟨T.setVm vm₁, locs, cells, slots⟩ (Value.ref b :: argsL).toArray) :
    (∃ (v : Option Value) (vm₁ : Vm) (B : Pt), s.WarmedH vm₁ ∧ Stand p l e R s m args below meth c B.U B.locs B.cells B.slots ∧ Post ⟨T.setVm vm₁, locs, cells, slots⟩ (Value.ref b :: argsL).toArray v B ∧
      ∀ target, Steps p.tables e below (B.U.setTop { g with pc := g.pc + 3, stack := v.toList ++ rest }) target → Steps p.tables e below (T.setTop g) target) ∨
    (∃ (q : Addr) (vm₁ : Vm) (B : Pt), s.WarmedH vm₁ ∧ Stand p l e R s m args below meth c B.U B.locs B.cells B.slots ∧ PostX ⟨T.setVm vm₁, locs, cells, slots⟩ (Value.ref b :: argsL).toArray q B ∧
      Steps p.tables e below (T.setTop g) ((B.U.setTop { g with stack := rest }).pushFrame (.throwing q))) := by
  obtain ⟨mk, methM, hnamed, hmethM, hstM, habM⟩ := Cond.instanceMethod_spec hinst
  obtain ⟨methM', cM, hmethM', -, -, -, -, -, -, hsigM⟩ := Cond.code_spec hnamed hcode
  cases hmethM.symm.trans hmethM'
  obtain ⟨c2, r2, m2, q1, q2, q3, q4, kP, hkP, hkPi⟩ := Cond.selects_spec hsel
  cases hcls.symm.trans q1
  cases (State.methodFound?_of_named hnamed hy).symm.trans q2
  cases hnamed.symm.trans q3
  have hselP : selectMethod e.platform s.vm cellB.cls mk = .method mk := by rw [Launch.admits_selectMethod X.admits]; exact q4
  obtain ⟨vm₁, X₁, hstep₁⟩ := X.invokevirtual hexec hown hlink hnamed hmethM hstM hkP hkPi hy (a := b) (cell := cellB) hcell
    (fun z h => by rw [h] at hobj; cases hobj) hselP hmethM habM hkP hkPi (g := g) hg (argsL := argsL) (rest := rest) (hlen _ hsigM) hstack hdg
  rcases hK m meth c ⟨T.setVm vm₁, locs, cells, slots⟩ { g with stack := rest } (.invokevirtual index) mk (Value.ref b :: argsL).toArray X₁ hg hsize hdg hW (X₁.named hnamed) (hpre vm₁ X₁.warmed) with ⟨v, B, X', hpost, hsteps⟩ | ⟨q, B, X', hpost, hsteps⟩
  · exact Or.inl ⟨v, vm₁, B, X₁.warmed, X', hpost, fun target h => hstep₁ _ fun acts => by rw [doInvoke_state]; exact hsteps.trans h⟩
  · exact Or.inr ⟨q, vm₁, B, X₁.warmed, X', hpost, hstep₁ _ fun acts => by rw [doInvoke_state]; exact hsteps⟩
theorem vx_callS (X : Stand p l e R s m args below meth c T locs cells slots) (hexec : p.tables.exec = Jvm.exec) {own : String} {index : Nat} {y : MethodName} {bytes : ByteArray} {maxL : Nat} {ret : Option FieldType}
    (hown : s.vm.findClass own = some m.cls) (hlink : (Cond.methodLink own index y).before args s = true) (hstat : (Cond.static y).before args s = true) (hinit : (Cond.initialized y.cls).before args s = true)
    (hcode : (Cond.code y bytes maxL ret).before args s = true) (hy : y.cls ≠ "java/lang/invoke/MethodHandle" ∧ y.cls ≠ "java/lang/invoke/VarHandle")
    {W9 : Nat} {Pre : Pt → Array Value → Prop} {Post : Pt → Array Value → Option Value → Pt → Prop} {PostX : Pt → Array Value → Addr → Pt → Prop} (hK : vx_Back l R p e below s args y 3 W9 Pre Post PostX)
    {g : JFrame} (hg : g.method = m) (hsize : g.locals.size = c.maxLocals) {argsL rest : List Value} (hlen : ∀ sig, parseMethodDescriptor y.desc = some sig → argsL.length = sig.parameters.length)
    (hstack : g.stack = argsL.reverse ++ rest) (hW : 2 * g.monitorRoom + (rest.map fun v => v.category).sum ≤ W9) (hdg : decode c.code g.pc = .ok (.invokestatic index, 3))
    (hpre : ∀ vm₁, s.WarmedH vm₁ → Pre ⟨T.setVm vm₁, locs, cells, slots⟩ argsL.toArray) :
    (∃ (v : Option Value) (vm₁ : Vm) (B : Pt), s.WarmedH vm₁ ∧ Stand p l e R s m args below meth c B.U B.locs B.cells B.slots ∧ Post ⟨T.setVm vm₁, locs, cells, slots⟩ argsL.toArray v B ∧
      ∀ target, Steps p.tables e below (B.U.setTop { g with pc := g.pc + 3, stack := v.toList ++ rest }) target → Steps p.tables e below (T.setTop g) target) ∨
    (∃ (q : Addr) (vm₁ : Vm) (B : Pt), s.WarmedH vm₁ ∧ Stand p l e R s m args below meth c B.U B.locs B.cells B.slots ∧ PostX ⟨T.setVm vm₁, locs, cells, slots⟩ argsL.toArray q B ∧
      Steps p.tables e below (T.setTop g) ((B.U.setTop { g with stack := rest }).pushFrame (.throwing q))) := by
  obtain ⟨mk, hnamed⟩ := Cond.code_named hcode
  obtain ⟨methM, cM, hmethM, -, -, -, -, -, -, hsigM⟩ := Cond.code_spec hnamed hcode
  have hstatic : methM.isStatic = true := Cond.static_spec hnamed hmethM hstat
  obtain ⟨kP, hkP, -⟩ := className_of_methodNamed hnamed
  have hinitP : kP.init = .initialized := Cond.initialized_spec (findClass_of_methodNamed hnamed) hkP hinit
  obtain ⟨vm₁, X₁, hstep₁⟩ := X.invokestatic hexec hown hlink hnamed hmethM hstatic hkP hinitP hy (g := g) hg (argsL := argsL) (rest := rest) (hlen _ hsigM) hstack hdg
  rcases hK m meth c ⟨T.setVm vm₁, locs, cells, slots⟩ { g with stack := rest } (.invokestatic index) mk argsL.toArray X₁ hg hsize hdg hW (X₁.named hnamed) (hpre vm₁ X₁.warmed) with ⟨v, B, X', hpost, hsteps⟩ | ⟨q, B, X', hpost, hsteps⟩
  · exact Or.inl ⟨v, vm₁, B, X₁.warmed, X', hpost, fun target h => hstep₁ _ fun acts => by rw [doInvoke_state]; exact hsteps.trans h⟩
  · exact Or.inr ⟨q, vm₁, B, X₁.warmed, X', hpost, hstep₁ _ fun acts => by rw [doInvoke_state]; exact hsteps⟩
end Calls
theorem vx_cls {s : State} {T : State} {vm₁ : Vm} {E : String} {k : ClassId} (hW : s.WarmedH vm₁) (h : (T.setVm vm₁).vm.findClass E = some k) : s.vm.findClass E = some k := by
  have h1 : vm₁.findClass E = some k := h
  rw [hW.alike.findClass] at h1
  exact h1
/-- the method's frame g, with q thrown over it -/
def vx_W (p : Program) (l : Launch) (e : Env) (R : Room) (s : State) (m : MethodId) (args : Array Value) (below : List Frame) (meth : Method) (c : Code) (H : Heap) (locs : List Loc) (cells slots : Nat) (Q : State → Prop) (g : JFrame) (q : Addr) : Prop :=
  ∀ T : State, T.heap = H → Stand p l e R s m args below meth c T locs cells slots → ∃ t, Steps p.tables e below ((T.setTop g).pushFrame (.throwing q)) t ∧ Q t
def vx_Run (p : Program) (l : Launch) (e : Env) (R : Room) (s : State) (m : MethodId) (args : Array Value) (below : List Frame) (meth : Method) (c : Code) (H : Heap) (locs : List Loc) (cells slots mc ms : Nat) (g : JFrame) (rest : List Value) (Qa : State → Outcome → State → Prop) (XC : String → State → State → Prop) (free : Addr → Prop) : Prop :=
  ∀ T : State, T.heap = H → Stand p l e R s m args below meth c T locs cells slots →
    (∃ (v : Option Value) (st₀ t T' : State) (L : List Loc), st₀.heap = H ∧ Stand p l e R s m args below meth c T' (locs ++ L) (cells + mc) (slots + ms) ∧ (∀ q ∈ L, free q.base) ∧ T'.heap = t.heap ∧ T'.vm = t.vm ∧ Qa st₀ (.returned v) t ∧
      Goes p e below T g T' { g with pc := g.pc + 3, stack := v.toList ++ rest }) ∨
    (∃ (q : Addr) (st₀ t T' : State) (L : List Loc) (E : String) (ce : Cell), st₀.heap = H ∧ Stand p l e R s m args below meth c T' (locs ++ L) (cells + mc) (slots + ms) ∧ (∀ z ∈ L, free z.base) ∧ T'.heap = t.heap ∧ T'.vm = t.vm ∧ XC E st₀ t ∧ t.heap[q]? = some ce ∧ ce.vm = .none ∧ s.vm.findClass E = some ce.cls ∧
      Steps p.tables e below (T.setTop g) ((T'.setTop { g with stack := rest }).pushFrame (.throwing q)))
def vx_X {S : Type} (px : S → Prop) (B : String → S → State → Prop) (A : Nat → Prop) : String → State → State → Prop := fun E st t => ∃ u : S, px u ∧ B E u t ∧ va_F A st t
section Runs
variable {p : Program} {l : Launch} {e : Env} {R : Room} {s : State} {m : MethodId} {args : Array Value} {below : List Frame} {meth : Method} {c : Code} {H : Heap} {locs : List Loc} {cells slots : Nat}
variable {y : MethodName} {bytes cc : ByteArray} {maxL nL mc ms n index : Nat} {ret : Option FieldType} {ws : List Cond} {rm : Room} {Pc : Array Value → State → Prop} {Qc : Array Value → State → Outcome → State → Prop} {XC : String → State → State → Prop} {free : Addr → Prop} {Ts : List Cond} {own C : String} {b : Addr} {As rest : List Value} {g : JFrame}
theorem vx_callBack (cb : CallB R s args own index y bytes maxL ret ws rm mc ms n) (hM : vx_Met l y ws rm Pc Qc XC mc ms free) (hbl : FrameBlind Pc) : vx_Back l R p e below s args y 3 8 (PreOf R mc ms Pc) (PostOf Qc mc ms free) (vx_Post XC mc ms free) := by
  obtain ⟨hrc, hrs, hfr, hlo, hws, hcw, -, hini, -⟩ := cb
  exact vx_back (bytes := bytes) (maxL := maxL) (ret := ret) hM hbl hrc hrs hfr hlo hws hcw (fun a' U hW => word_at hW (Or.inl (by first | rfl | simp [Cond.onTables, Cond.keeps, Cond.steady])) hini)
theorem vx_runV (S : CallFix p m c cc nL s args Ts own) (hM : vx_Met l y ws rm Pc Qc XC mc ms free) (cw : CallW R s args own C index y bytes maxL ret ws rm mc ms n) (hp : PreV s H C b Pc As)
    (hg : g.method = m) (hn : As.length = n) (hsize : g.locals.size = nL) (hstack : g.stack = As.reverse ++ .ref b :: rest) (hW : 2 * g.monitorRoom + (rest.map fun v => v.category).sum ≤ 8) (hdg : decode cc g.pc = .ok (.invokevirtual index, 3)) (hf : cells + mc ≤ R.cells ∧ slots + ms ≤ R.slots) :
    vx_Run p l e R s m args below meth c H locs cells slots mc ms g rest (Qc (Value.ref b :: As).toArray) XC free := by
  have hK : vx_Back l R p e below s args y 3 8 (PreOf R mc ms Pc) (PostOf Qc mc ms free) (vx_Post XC mc ms free) := vx_callBack cw.1 hM hp.1
  obtain ⟨⟨-, -, -, -, -, -, hcode, -, hy, hlen, hl⟩, hin, hse⟩ := cw
  obtain ⟨hx, hb, hml, ho, -⟩ := S
  obtain ⟨-, ⟨cellB, hcB, hoB, hclB⟩, hPc⟩ := hp
  intro T hT X
  rcases vx_callV X hx (C := C) (bytes := bytes) (maxL := maxL) (ret := ret) ho hl hin hse hcode hy hK (by rw [hT]; exact hcB) hoB hclB hg (hsize.trans hml.symm) (argsL := As) (rest := rest) (fun sig h => hn.trans (hlen sig h)) hstack hW (by rw [hb]; exact hdg)
    (fun vm₁ hW₁ => ⟨hf.1, hf.2, hPc (T.setVm vm₁) hT hW₁⟩) with ⟨v, vm₁, ⟨U', l2, c2, s2⟩, hW₁, X', ⟨g', mk, t, L, e1, e2, hq, h1, hL, h2, h3⟩, st⟩ | ⟨q, vm₁, ⟨U', l2, c2, s2⟩, hW₁, X', ⟨g', mk, t, L, E, ce, e1, e2, hq, hce, hcv, hcl, h1, hL, h2, h3⟩, st⟩
  · dsimp only [Pt.U, Pt.locs, Pt.cells, Pt.slots] at X' e1 e2 h1 h2 h3 st
    subst h1; subst h2; subst h3
    exact Or.inl ⟨v, (T.setVm vm₁).calling g' mk (Value.ref b :: As).toArray, t, U', L, hT, X', hL, e1, e2, hq, st⟩
  · dsimp only [Pt.U, Pt.locs, Pt.cells, Pt.slots] at X' e1 e2 h1 h2 h3 st hcl
    subst h1; subst h2; subst h3
    exact Or.inr ⟨q, (T.setVm vm₁).calling g' mk (Value.ref b :: As).toArray, t, U', L, E, ce, hT, X', hL, e1, e2, hq, hce, hcv, vx_cls hW₁ hcl, st⟩
theorem vx_runS (S : CallFix p m c cc nL s args Ts own) (hM : vx_Met l y ws rm Pc Qc XC mc ms free) (cw : CallB R s args own index y bytes maxL ret ws rm mc ms n ∧ (Cond.static y).before args s = true) (hp : PreS s H Pc As)
    (hg : g.method = m) (hn : As.length = n) (hsize : g.locals.size = nL) (hstack : g.stack = As.reverse ++ rest) (hW : 2 * g.monitorRoom + (rest.map fun v => v.category).sum ≤ 8) (hdg : decode cc g.pc = .ok (.invokestatic index, 3)) (hf : cells + mc ≤ R.cells ∧ slots + ms ≤ R.slots) :
    vx_Run p l e R s m args below meth c H locs cells slots mc ms g rest (Qc As.toArray) XC free := by
  have hK : vx_Back l R p e below s args y 3 8 (PreOf R mc ms Pc) (PostOf Qc mc ms free) (vx_Post XC mc ms free) := vx_callBack cw.1 hM hp.1
  obtain ⟨⟨-, -, -, -, -, -, hcode, hini, hy, hlen, hl⟩, hstt⟩ := cw
  obtain ⟨hx, hb, hml, ho, -⟩ := S
  intro T hT X
  rcases vx_callS X hx (bytes := bytes) (maxL := maxL) (ret := ret) ho hl hstt hini hcode hy hK hg (hsize.trans hml.symm) (argsL := As) (rest := rest) (fun sig h => hn.trans (hlen sig h)) hstack hW (by rw [hb]; exact hdg)
    (fun vm₁ hW₁ => ⟨hf.1, hf.2, hp.2 (T.setVm vm₁) hT hW₁⟩) with ⟨v, vm₁, ⟨U', l2, c2, s2⟩, hW₁, X', ⟨g', mk, t, L, e1, e2, hq, h1, hL, h2, h3⟩, st⟩ | ⟨q, vm₁, ⟨U', l2, c2, s2⟩, hW₁, X', ⟨g', mk, t, L, E, ce, e1, e2, hq, hce, hcv, hcl, h1, hL, h2, h3⟩, st⟩
  · dsimp only [Pt.U, Pt.locs, Pt.cells, Pt.slots] at X' e1 e2 h1 h2 h3 st
    subst h1; subst h2; subst h3
    exact Or.inl ⟨v, (T.setVm vm₁).calling g' mk As.toArray, t, U', L, hT, X', hL, e1, e2, hq, st⟩
  · dsimp only [Pt.U, Pt.locs, Pt.cells, Pt.slots] at X' e1 e2 h1 h2 h3 st hcl
    subst h1; subst h2; subst h3
    exact Or.inr ⟨q, (T.setVm vm₁).calling g' mk As.toArray, t, U', L, E, ce, hT, X', hL, e1, e2, hq, hce, hcv, vx_cls hW₁ hcl, st⟩
end Runs
section Rows
variable {p : Program} {l : Launch} {e : Env} {R : Room} {s : State} {m : MethodId} {args : Array Value} {below : List Frame} {meth : Method} {c : Code} {H : Heap} {locs : List Loc} {cells slots : Nat} {Q : State → Prop}
variable {mc ms : Nat} {free : Addr → Prop} {A0 A1 : Nat → Prop} {H0 : Heap} {a : Array Value} {pc : Nat} {ls : Array Slot} {st0 rest : List Value}
theorem vx_keep {st₀ t T' : State} {L : List Loc} (h0 : st₀.heap = H) (e1 : T'.heap = t.heap) (hS : va_S A0 H0 H locs) (hA : ∀ q, q < H.size → A1 q → A0 q) (hf : ∀ q, free q → A0 q) (hL : ∀ q ∈ L, free q.base) (hF : va_F A1 st₀ t) :
    H.size ≤ T'.heap.size ∧ (∀ q : Nat, q < H.size → ¬ A1 q → T'.heap[q]? = H[q]?) ∧ va_S A0 H0 T'.heap (locs ++ L) := by
  obtain ⟨hz, hk⟩ := hF
  rw [h0] at hz hk
  exact ⟨by rw [e1]; exact hz, fun q h1 h2 => by rw [e1]; exact hk q h1 h2,
    ⟨Nat.le_trans hS.1 (by rw [e1]; exact hz), fun q h1 h2 => by rw [e1, hk q (Nat.lt_of_lt_of_le h1 hS.1) (fun z => h2 (hA q (Nat.lt_of_lt_of_le h1 hS.1) z))]; exact hS.2.1 q h1 h2, fun q hq => by
      rcases List.mem_append.mp hq with h | h
      · exact hS.2.2 q h
      · exact hf _ (hL q h)⟩⟩
theorem vx_calli {S SX : Type} {post : Int32 → S → Prop} {px : SX → Prop} {B : S → State → Prop} {BX : String → SX → State → Prop} {AX : Nat → Prop} (hr : vx_Run p l e R s m args below meth c H locs cells slots mc ms (F0 m pc ls st0) rest (va_Qi post B A1 a) (vx_X px BX AX) free) (hS : va_S A0 H0 H locs) (hA : ∀ q, q < H.size → A1 q → A0 q) (hf : ∀ q, free q → A0 q) (hAX : ∀ q, q < H.size → AX q → A0 q)
    (kx : ∀ (E : String) (ce : Cell) (q9 : Addr) (u : SX) (t : State) (H1 : Heap) (locs1 : List Loc), t.heap = H1 → s.vm.Alike t.vm → px u → BX E u t → H.size ≤ H1.size → (∀ q : Nat, q < H.size → ¬ AX q → H1[q]? = H[q]?) → va_S A0 H0 H1 locs1 → H1[q9]? = some ce → ce.vm = .none → s.vm.findClass E = some ce.cls → vx_W p l e R s m args below meth c H1 locs1 (cells + mc) (slots + ms) Q (F0 m pc ls rest) q9)
    (kk : ∀ (r : Int32) (u : S) (t : State) (H1 : Heap) (locs1 : List Loc), t.heap = H1 → s.vm.Alike t.vm → post r u → B u t → H.size ≤ H1.size → (∀ q : Nat, q < H.size → ¬ A1 q → H1[q]? = H[q]?) → va_S A0 H0 H1 locs1 → W p l e R s m args below meth c H1 locs1 (cells + mc) (slots + ms) Q (F0 m (pc + 3) ls (.int r :: rest))) : W p l e R s m args below meth c H locs cells slots Q (F0 m pc ls st0) := by
  intro T hT X
  rcases hr T hT X with ⟨v, st₀, t, T', L, h0, X', hL, e1, e2, ⟨⟨r, u, hv, hp, hb⟩, hF⟩, st⟩ | ⟨q, st₀, t, T', L, E, ce, h0, X', hL, e1, e2, ⟨u, hp, hb, hF⟩, hce, hcv, hcl, st⟩
  · cases hv
    obtain ⟨k1, k2, k3⟩ := vx_keep h0 e1 hS hA hf hL hF
    obtain ⟨t2, a1, b1⟩ := kk r u t T'.heap (locs ++ L) e1.symm (by rw [← e2]; exact X'.warmed.alike) hp hb k1 k2 k3 T' rfl X'
    exact ⟨t2, st t2 a1, b1⟩
  · obtain ⟨k1, k2, k3⟩ := vx_keep h0 e1 hS hAX hf hL hF
    obtain ⟨t2, a1, b1⟩ := kx E ce q u t T'.heap (locs ++ L) e1.symm (by rw [← e2]; exact X'.warmed.alike) hp hb k1 k2 k3 (by rw [e1]; exact hce) hcv hcl T' rfl X'
    exact ⟨t2, st.trans a1, b1⟩
theorem vx_calll {S SX : Type} {post : Int64 → S → Prop} {px : SX → Prop} {B : S → State → Prop} {BX : String → SX → State → Prop} {AX : Nat → Prop} (hr : vx_Run p l e R s m args below meth c H locs cells slots mc ms (F0 m pc ls st0) rest (va_Ql post B A1 a) (vx_X px BX AX) free) (hS : va_S A0 H0 H locs) (hA : ∀ q, q < H.size → A1 q → A0 q) (hf : ∀ q, free q → A0 q) (hAX : ∀ q, q < H.size → AX q → A0 q)
    (kx : ∀ (E : String) (ce : Cell) (q9 : Addr) (u : SX) (t : State) (H1 : Heap) (locs1 : List Loc), t.heap = H1 → s.vm.Alike t.vm → px u → BX E u t → H.size ≤ H1.size → (∀ q : Nat, q < H.size → ¬ AX q → H1[q]? = H[q]?) → va_S A0 H0 H1 locs1 → H1[q9]? = some ce → ce.vm = .none → s.vm.findClass E = some ce.cls → vx_W p l e R s m args below meth c H1 locs1 (cells + mc) (slots + ms) Q (F0 m pc ls rest) q9)
    (kk : ∀ (r : Int64) (u : S) (t : State) (H1 : Heap) (locs1 : List Loc), t.heap = H1 → s.vm.Alike t.vm → post r u → B u t → H.size ≤ H1.size → (∀ q : Nat, q < H.size → ¬ A1 q → H1[q]? = H[q]?) → va_S A0 H0 H1 locs1 → W p l e R s m args below meth c H1 locs1 (cells + mc) (slots + ms) Q (F0 m (pc + 3) ls (.long r :: rest))) : W p l e R s m args below meth c H locs cells slots Q (F0 m pc ls st0) := by
  intro T hT X
  rcases hr T hT X with ⟨v, st₀, t, T', L, h0, X', hL, e1, e2, ⟨⟨r, u, hv, hp, hb⟩, hF⟩, st⟩ | ⟨q, st₀, t, T', L, E, ce, h0, X', hL, e1, e2, ⟨u, hp, hb, hF⟩, hce, hcv, hcl, st⟩
  · cases hv
    obtain ⟨k1, k2, k3⟩ := vx_keep h0 e1 hS hA hf hL hF
    obtain ⟨t2, a1, b1⟩ := kk r u t T'.heap (locs ++ L) e1.symm (by rw [← e2]; exact X'.warmed.alike) hp hb k1 k2 k3 T' rfl X'
    exact ⟨t2, st t2 a1, b1⟩
  · obtain ⟨k1, k2, k3⟩ := vx_keep h0 e1 hS hAX hf hL hF
    obtain ⟨t2, a1, b1⟩ := kx E ce q u t T'.heap (locs ++ L) e1.symm (by rw [← e2]; exact X'.warmed.alike) hp hb k1 k2 k3 (by rw [e1]; exact hce) hcv hcl T' rfl X'
    exact ⟨t2, st.trans a1, b1⟩
theorem vx_callf {S SX : Type} {post : UInt32 → S → Prop} {px : SX → Prop} {B : S → State → Prop} {BX : String → SX → State → Prop} {AX : Nat → Prop} (hr : vx_Run p l e R s m args below meth c H locs cells slots mc ms (F0 m pc ls st0) rest (va_Qf post B A1 a) (vx_X px BX AX) free) (hS : va_S A0 H0 H locs) (hA : ∀ q, q < H.size → A1 q → A0 q) (hf : ∀ q, free q → A0 q) (hAX : ∀ q, q < H.size → AX q → A0 q)
    (kx : ∀ (E : String) (ce : Cell) (q9 : Addr) (u : SX) (t : State) (H1 : Heap) (locs1 : List Loc), t.heap = H1 → s.vm.Alike t.vm → px u → BX E u t → H.size ≤ H1.size → (∀ q : Nat, q < H.size → ¬ AX q → H1[q]? = H[q]?) → va_S A0 H0 H1 locs1 → H1[q9]? = some ce → ce.vm = .none → s.vm.findClass E = some ce.cls → vx_W p l e R s m args below meth c H1 locs1 (cells + mc) (slots + ms) Q (F0 m pc ls rest) q9)
    (kk : ∀ (r : UInt32) (u : S) (t : State) (H1 : Heap) (locs1 : List Loc), t.heap = H1 → s.vm.Alike t.vm → post r u → B u t → H.size ≤ H1.size → (∀ q : Nat, q < H.size → ¬ A1 q → H1[q]? = H[q]?) → va_S A0 H0 H1 locs1 → W p l e R s m args below meth c H1 locs1 (cells + mc) (slots + ms) Q (F0 m (pc + 3) ls (.float r :: rest))) : W p l e R s m args below meth c H locs cells slots Q (F0 m pc ls st0) := by
  intro T hT X
  rcases hr T hT X with ⟨v, st₀, t, T', L, h0, X', hL, e1, e2, ⟨⟨r, u, hv, hp, hb⟩, hF⟩, st⟩ | ⟨q, st₀, t, T', L, E, ce, h0, X', hL, e1, e2, ⟨u, hp, hb, hF⟩, hce, hcv, hcl, st⟩
  · cases hv
    obtain ⟨k1, k2, k3⟩ := vx_keep h0 e1 hS hA hf hL hF
    obtain ⟨t2, a1, b1⟩ := kk r u t T'.heap (locs ++ L) e1.symm (by rw [← e2]; exact X'.warmed.alike) hp hb k1 k2 k3 T' rfl X'
    exact ⟨t2, st t2 a1, b1⟩
  · obtain ⟨k1, k2, k3⟩ := vx_keep h0 e1 hS hAX hf hL hF
    obtain ⟨t2, a1, b1⟩ := kx E ce q u t T'.heap (locs ++ L) e1.symm (by rw [← e2]; exact X'.warmed.alike) hp hb k1 k2 k3 (by rw [e1]; exact hce) hcv hcl T' rfl X'
    exact ⟨t2, st.trans a1, b1⟩
theorem vx_calld {S SX : Type} {post : UInt64 → S → Prop} {px : SX → Prop} {B : S → State → Prop} {BX : String → SX → State → Prop} {AX : Nat → Prop} (hr : vx_Run p l e R s m args below meth c H locs cells slots mc ms (F0 m pc ls st0) rest (va_Qd post B A1 a) (vx_X px BX AX) free) (hS : va_S A0 H0 H locs) (hA : ∀ q, q < H.size → A1 q → A0 q) (hf : ∀ q, free q → A0 q) (hAX : ∀ q, q < H.size → AX q → A0 q)
    (kx : ∀ (E : String) (ce : Cell) (q9 : Addr) (u : SX) (t : State) (H1 : Heap) (locs1 : List Loc), t.heap = H1 → s.vm.Alike t.vm → px u → BX E u t → H.size ≤ H1.size → (∀ q : Nat, q < H.size → ¬ AX q → H1[q]? = H[q]?) → va_S A0 H0 H1 locs1 → H1[q9]? = some ce → ce.vm = .none → s.vm.findClass E = some ce.cls → vx_W p l e R s m args below meth c H1 locs1 (cells + mc) (slots + ms) Q (F0 m pc ls rest) q9)
    (kk : ∀ (r : UInt64) (u : S) (t : State) (H1 : Heap) (locs1 : List Loc), t.heap = H1 → s.vm.Alike t.vm → post r u → B u t → H.size ≤ H1.size → (∀ q : Nat, q < H.size → ¬ A1 q → H1[q]? = H[q]?) → va_S A0 H0 H1 locs1 → W p l e R s m args below meth c H1 locs1 (cells + mc) (slots + ms) Q (F0 m (pc + 3) ls (.double r :: rest))) : W p l e R s m args below meth c H locs cells slots Q (F0 m pc ls st0) := by
  intro T hT X
  rcases hr T hT X with ⟨v, st₀, t, T', L, h0, X', hL, e1, e2, ⟨⟨r, u, hv, hp, hb⟩, hF⟩, st⟩ | ⟨q, st₀, t, T', L, E, ce, h0, X', hL, e1, e2, ⟨u, hp, hb, hF⟩, hce, hcv, hcl, st⟩
  · cases hv
    obtain ⟨k1, k2, k3⟩ := vx_keep h0 e1 hS hA hf hL hF
    obtain ⟨t2, a1, b1⟩ := kk r u t T'.heap (locs ++ L) e1.symm (by rw [← e2]; exact X'.warmed.alike) hp hb k1 k2 k3 T' rfl X'
    exact ⟨t2, st t2 a1, b1⟩
  · obtain ⟨k1, k2, k3⟩ := vx_keep h0 e1 hS hAX hf hL hF
    obtain ⟨t2, a1, b1⟩ := kx E ce q u t T'.heap (locs ++ L) e1.symm (by rw [← e2]; exact X'.warmed.alike) hp hb k1 k2 k3 (by rw [e1]; exact hce) hcv hcl T' rfl X'
    exact ⟨t2, st.trans a1, b1⟩
theorem vx_callv {S SX : Type} {post : S → Prop} {px : SX → Prop} {B : S → State → Prop} {BX : String → SX → State → Prop} {AX : Nat → Prop} (hr : vx_Run p l e R s m args below meth c H locs cells slots mc ms (F0 m pc ls st0) rest (va_Qv post B A1 a) (vx_X px BX AX) free) (hS : va_S A0 H0 H locs) (hA : ∀ q, q < H.size → A1 q → A0 q) (hf : ∀ q, free q → A0 q) (hAX : ∀ q, q < H.size → AX q → A0 q)
    (kx : ∀ (E : String) (ce : Cell) (q9 : Addr) (u : SX) (t : State) (H1 : Heap) (locs1 : List Loc), t.heap = H1 → s.vm.Alike t.vm → px u → BX E u t → H.size ≤ H1.size → (∀ q : Nat, q < H.size → ¬ AX q → H1[q]? = H[q]?) → va_S A0 H0 H1 locs1 → H1[q9]? = some ce → ce.vm = .none → s.vm.findClass E = some ce.cls → vx_W p l e R s m args below meth c H1 locs1 (cells + mc) (slots + ms) Q (F0 m pc ls rest) q9)
    (kk : ∀ (u : S) (t : State) (H1 : Heap) (locs1 : List Loc), t.heap = H1 → s.vm.Alike t.vm → post u → B u t → H.size ≤ H1.size → (∀ q : Nat, q < H.size → ¬ A1 q → H1[q]? = H[q]?) → va_S A0 H0 H1 locs1 → W p l e R s m args below meth c H1 locs1 (cells + mc) (slots + ms) Q (F0 m (pc + 3) ls (rest))) : W p l e R s m args below meth c H locs cells slots Q (F0 m pc ls st0) := by
  intro T hT X
  rcases hr T hT X with ⟨v, st₀, t, T', L, h0, X', hL, e1, e2, ⟨⟨u, hv, hp, hb⟩, hF⟩, st⟩ | ⟨q, st₀, t, T', L, E, ce, h0, X', hL, e1, e2, ⟨u, hp, hb, hF⟩, hce, hcv, hcl, st⟩
  · cases hv
    obtain ⟨k1, k2, k3⟩ := vx_keep h0 e1 hS hA hf hL hF
    obtain ⟨t2, a1, b1⟩ := kk u t T'.heap (locs ++ L) e1.symm (by rw [← e2]; exact X'.warmed.alike) hp hb k1 k2 k3 T' rfl X'
    exact ⟨t2, st t2 a1, b1⟩
  · obtain ⟨k1, k2, k3⟩ := vx_keep h0 e1 hS hAX hf hL hF
    obtain ⟨t2, a1, b1⟩ := kx E ce q u t T'.heap (locs ++ L) e1.symm (by rw [← e2]; exact X'.warmed.alike) hp hb k1 k2 k3 (by rw [e1]; exact hce) hcv hcl T' rfl X'
    exact ⟨t2, st.trans a1, b1⟩
/-- caught by the row x of this method's table; the rows ahead don't take it -/
theorem vx_catch {own name : String} {E : String} {ce : Cell} {q : Addr} (hown : s.vm.findClass own = some m.cls) (pre : List ExceptionTableEntry) (x : ExceptionTableEntry) (suf : List ExceptionTableEntry) (hsplit : c.exceptionTable.toList = pre ++ x :: suf)
    (hpass : ∀ z ∈ pre, covers z pc = false ∨ (z.catchType ≠ 0 ∧ ∃ nm : String, (Cond.classLink own z.catchType nm).before args s = true ∧ va_Nc E nm s)) (hx : covers x pc = true) (h0 : x.catchType ≠ 0)
    (hlink : (Cond.classLink own x.catchType name).before args s = true) (hcast : (Cond.castable E name).before args s = true) (hcell : H[q]? = some ce) (hv : ce.vm = .none) (hcl : s.vm.findClass E = some ce.cls)
    (kk : W p l e R s m args below meth c H locs cells slots Q (F0 m x.handlerPc ls [.ref q])) : vx_W p l e R s m args below meth c H locs cells slots Q (F0 m pc ls rest) q := by
  intro T hT X
  have hpl : e.platform.magicAccessors = ({} : Platform).magicAccessors := by rw [X.admits.platform]
  obtain ⟨c3, c4, hc3, hc4, hasg⟩ := Cond.castable_spec hcast
  cases Option.some.inj (hc3.symm.trans hcl)
  obtain ⟨c5, hc5, hcl5⟩ := Cond.classLink_spec hown hlink e.platform hpl
  cases Option.some.inj (hc4.symm.trans hc5)
  obtain ⟨vm', X', st⟩ := X.thenCaughtThrough q (g := F0 m pc ls rest) rfl (Steps.refl _) (by rw [hT]; exact hcell) (by rw [hv]; rfl) (by obtain ⟨k9, h9, -⟩ := Vm.findClass_spec hcl; exact ⟨k9, h9⟩) pre x suf hsplit
    (fun z hz => by
      rcases hpass z hz with h | ⟨hz0, nm, hl1, hn1⟩
      · exact Or.inl h
      · obtain ⟨c6, hc6, hcl6⟩ := Cond.classLink_spec hown hl1 e.platform hpl
        obtain ⟨a8, b8, h1, h2, h3⟩ := hn1
        cases Option.some.inj (h1.symm.trans hcl)
        cases Option.some.inj (h2.symm.trans hc6)
        exact Or.inr ⟨hz0, _, hcl6, h3⟩) hx (Or.inr ⟨h0, c4, hcl5, hasg⟩)
  obtain ⟨t, a1, b1⟩ := kk (T.setVm vm') hT X'
  exact ⟨t, st.trans a1, b1⟩
end Rows
section Ends
variable {p : Program} {l : Launch} {e : Env} {R : Room} {s : State} {m : MethodId} {args : Array Value} {below : List Frame} {meth : Method} {c : Code} {H : Heap} {locs : List Loc} {cells slots : Nat} {Q : State → Prop}
variable {mc ms : Nat} {free : Addr → Prop} {A0 A1 : Nat → Prop} {H0 : Heap} {a : Array Value} {ls : Array Slot} {st0 rest : List Value}
variable {Qc : Array Value → State → Outcome → State → Prop} {XC : String → State → State → Prop}
/-- what a body that may throw owes at its end -/
def vx_MQ (below : List Frame) (Qc : Array Value → State → Outcome → State → Prop) (XC : String → State → State → Prop) (a : Array Value) (s : State) (mc ms : Nat) (free : Addr → Prop) : State → Prop := fun t =>
  ∃ o, t.status = .running ∧ Ended t below o ∧ vx_Q Qc XC mc ms free a s o t
theorem vx_ret {g : JFrame} {mc ms : Nat} (k : W p l e R s m args below meth c H locs cells slots (MQ below Qc args s mc ms free) g) : W p l e R s m args below meth c H locs cells slots (vx_MQ below Qc XC args s mc ms free) g := by
  intro T hT X
  obtain ⟨t, a1, o, b1, b2, b3, b4⟩ := k T hT X
  exact ⟨t, a1, o, b1, b2, Or.inl ⟨b3, b4⟩⟩
/-- not caught here: it goes on to the caller -/
theorem vx_widen {g : JFrame} {q : Addr} {k n : Nat} (h1 : cells ≤ k) (h2 : slots ≤ n) (kk : vx_W p l e R s m args below meth c H locs k n Q g q) : vx_W p l e R s m args below meth c H locs cells slots Q g q := fun T hT X => kk T hT (stand_widen X h1 h2)
theorem vx_out {pc : Nat} {E : String} {ce : Cell} {q : Addr} {mc ms : Nat} (hout : ∀ x ∈ c.exceptionTable.toList, covers x pc = false) (hlocks : meth.locks = false) (hcell : H[q]? = some ce) (hv : ce.vm = .none) (hcl : s.vm.findClass E = some ce.cls)
    (hx : ∀ t : State, t.heap = H → s.vm.Alike t.vm → XC E s t) (hf : ∀ z ∈ locs, free z.base) (hc : cells ≤ mc) (hs : slots ≤ ms) :
    vx_W p l e R s m args below meth c H locs cells slots (vx_MQ below Qc XC args s mc ms free) (F0 m pc ls rest) q := by
  intro T hT X
  obtain ⟨st1, hrun, hend, hW, hsm⟩ := X.leaveThrown q (g := F0 m pc ls rest) rfl rfl rfl hout hlocks
  have hcell9 : (T.setFrames (.throwing q :: below)).heap[q]? = some ce := by
    show T.heap[q]? = some ce
    rw [hT]; exact hcell
  exact ⟨_, st1, .threw q, hrun, hend, Or.inr ⟨q, rfl, E, ce, locs, hx _ hT hW.alike, hcell9, hv, hcl, hW, hsm.mono hc hs, hf⟩⟩
theorem vx_frame {U : State} {k n : Nat} (h : s.sameButNew ({ U with vm := s.vm } : State) locs k n) : s.heap.size ≤ U.heap.size ∧ ∀ q : Nat, q < s.heap.size → (∀ z ∈ locs, z.base ≠ q) → U.heap[q]? = s.heap[q]? := by
  obtain ⟨-, h2, -, -, -, h6⟩ := h
  refine ⟨h2, fun q hq hz => ?_⟩
  obtain ⟨c9, e1, e2, e3, e4⟩ := h6 q _ (Array.getElem?_eq_getElem hq)
  have hs : c9.slots = (s.heap[q]).slots := Array.ext_getElem? fun i => e4 i fun hm => hz _ hm rfl
  have h9 : c9 = s.heap[q] := by
    rw [hs] at e2
    exact e2
  have e5 : U.heap[q]? = some c9 := e1
  rw [e5, h9, Array.getElem?_eq_getElem hq]
/-- the words of a throw but the four that speak of the heap -/
def vx_no (w : Cond) : Bool := decide (w ≠ .isRef (.static Bundle.tN "UNASSIGNED_STACK" Bundle.steD)) && decide (w ≠ .isRef (.static Bundle.tN "SUPPRESSED_SENTINEL" Bundle.listD)) && decide (w ≠ .laysStatic Bundle.tN "UNASSIGNED_STACK" Bundle.steD) && decide (w ≠ .laysStatic Bundle.tN "SUPPRESSED_SENTINEL" Bundle.listD)
def vx_at0 (own : String) (ic : Nat) (X : String) (names : List String) : List Cond := (Bundle.ownAtoms0 own ic X names).filter vx_no
def vx_atS (own : String) (ic : Nat) (X : String) (names : List String) : List Cond := (Bundle.ownAtoms own ic X names).filter vx_no
/-- a word that the tables alone decide, or a good one -/
def vx_ot (w : Cond) : Bool := w.onTables || goodWord w
theorem vx_ot_at {args a' : Array Value} {s U : State} {w : Cond} (hW : s.WarmedH U.vm) (hvm : s.vm = U.vm) (hg : vx_ot w = true) (h : w.before args s = true) : w.before a' U = true := by
  simp only [vx_ot, Bool.or_eq_true] at hg
  rcases hg with hg | hg
  · exact va_tabs hg hvm h
  · exact word_at hW (good_of_word hg) h
/-- a list's words: the good ones out of the method's own list, the others by premises of their own -/
theorem vx_hat {args : Array Value} {s : State} {L B : List Cond} (h1 : ∀ w ∈ L.filter goodWord, w.before args s = true) (h2 : ∀ w ∈ L.filter (fun w => !goodWord w), w ∈ B) (h3 : ∀ w ∈ B, w.before args s = true) : ∀ w ∈ L, w.before args s = true := by
  intro w hw
  by_cases g : goodWord w = true
  · exact h1 w (List.mem_filter.mpr ⟨hw, g⟩)
  · refine h3 w (h2 w (List.mem_filter.mpr ⟨hw, ?_⟩))
    show (!goodWord w) = true
    cases hgw : goodWord w
    · rfl
    · exact absurd hgw g
theorem vx_c {args : Array Value} {s : State} {w : Cond} {B : List Cond} (h : w.before args s = true) (t : ∀ w ∈ B, w.before args s = true) : ∀ w' ∈ w :: B, w'.before args s = true := fun w' h' => (List.mem_cons.mp h').elim (fun e => by rw [e]; exact h) (t w')
theorem vx_n {args : Array Value} {s : State} : ∀ w ∈ ([] : List Cond), w.before args s = true := fun _ h => nomatch h
theorem vx_own {args : Array Value} {s : State} {L : List Cond} (h1 : ∀ w ∈ L.filter vx_no, w.before args s = true)
    (hU : (Cond.isRef (.static Bundle.tN "UNASSIGNED_STACK" Bundle.steD)).before args s = true) (hN : (Cond.isRef (.static Bundle.tN "SUPPRESSED_SENTINEL" Bundle.listD)).before args s = true)
    (lU : (Cond.laysStatic Bundle.tN "UNASSIGNED_STACK" Bundle.steD).before args s = true) (lN : (Cond.laysStatic Bundle.tN "SUPPRESSED_SENTINEL" Bundle.listD).before args s = true) : ∀ w ∈ L, w.before args s = true := by
  intro w hw
  by_cases e1 : w = .isRef (.static Bundle.tN "UNASSIGNED_STACK" Bundle.steD)
  · rw [e1]; exact hU
  · by_cases e2 : w = .isRef (.static Bundle.tN "SUPPRESSED_SENTINEL" Bundle.listD)
    · rw [e2]; exact hN
    · by_cases e3 : w = .laysStatic Bundle.tN "UNASSIGNED_STACK" Bundle.steD
      · rw [e3]; exact lU
      · by_cases e4 : w = .laysStatic Bundle.tN "SUPPRESSED_SENTINEL" Bundle.listD
        · rw [e4]; exact lN
        · exact h1 w (List.mem_filter.mpr ⟨hw, by unfold vx_no; rw [decide_eq_true e1, decide_eq_true e2, decide_eq_true e3, decide_eq_true e4]; rfl⟩)
/-- where a static field lies, its class's statics cell in H -/
def vx_L (C n d : String) (A : Nat → Prop) (U : State) (H : Heap) : Prop := ∃ (c : ClassId) (k : Class) (i : Nat) (f : Field) (a : Nat) (cell : Cell), U.vm.findClass C = some c ∧ U.fieldFound? C n d = some (c, k, i, f) ∧ f.isStatic = true ∧ k.statics = some a ∧ H[a]? = some cell ∧ cell.vm.isStatics = true ∧ cell.cls = c ∧ f.slot < cell.slots.size ∧ k.staticTypes[f.slot]? = some f.type ∧ ¬ A a
theorem vx_L.moved {C n d : String} {A : Nat → Prop} {u U : State} {H : Heap} (hvm : u.vm.Alike U.vm) (h : vx_L C n d A u H) : vx_L C n d A U H := by
  obtain ⟨c, k, i, f, a, cell, h1, h2, h3, h4, h5, h6, h7, h8, h9, h10⟩ := h
  obtain ⟨k', hi', he⟩ := State.fieldFound?_setVm hvm h2
  exact ⟨c, k', i, f, a, cell, by rw [hvm.findClass]; exact h1, hi', h3, by rw [he]; exact h4, h5, h6, h7, h8, by rw [he]; exact h9, h10⟩
theorem vx_L.kept {C n d : String} {A : Nat → Prop} {U : State} {H H1 : Heap} (h : vx_L C n d A U H) (hq : ∀ a : Nat, a < H.size → ¬ A a → H1[a]? = H[a]?) : vx_L C n d A U H1 := by
  obtain ⟨c, k, i, f, a, cell, h1, h2, h3, h4, h5, h6, h7, h8, h9, h10⟩ := h
  exact ⟨c, k, i, f, a, cell, h1, h2, h3, h4, by rw [hq a (Array.getElem?_eq_some_iff.mp h5).1 h10]; exact h5, h6, h7, h8, h9, h10⟩
theorem vx_L.narrow {C n d : String} {A B : Nat → Prop} {U : State} {H : Heap} (h : vx_L C n d A U H) (hAB : ∀ q, B q → A q) : vx_L C n d B U H := by
  obtain ⟨c, k, i, f, a, cell, h1, h2, h3, h4, h5, h6, h7, h8, h9, h10⟩ := h
  exact ⟨c, k, i, f, a, cell, h1, h2, h3, h4, h5, h6, h7, h8, h9, fun z => h10 (hAB _ z)⟩
theorem vx_L.word {C n d : String} {A : Nat → Prop} {s : State} {args : Array Value} (h : vx_L C n d A s s.heap) : (Cond.laysStatic C n d).before args s = true := by
  obtain ⟨c, k, i, f, a, cell, h1, h2, h3, h4, h5, h6, h7, h8, h9, -⟩ := h
  show (Cond.laysStatic C n d).holds args s none s [] = true
  exact Cond.laysStatic_of h1 h2 h3 h4 h5 h6 h7 h8 h9
/-- .. and what it holds: null or some reference -/
def vx_Zq (C n d : String) (A : Nat → Prop) (U : State) (H : Heap) : Prop := va_Zq C n d A U H ∧ vx_L C n d A U H
theorem vx_Zq.moved {C n d : String} {A : Nat → Prop} {u U : State} {H : Heap} (hvm : u.vm.Alike U.vm) (h : vx_Zq C n d A u H) : vx_Zq C n d A U H := ⟨va_Zq.moved hvm h.1, vx_L.moved hvm h.2⟩
theorem vx_Zq.kept {C n d : String} {A : Nat → Prop} {U : State} {H H1 : Heap} (h : vx_Zq C n d A U H) (hq : ∀ a : Nat, a < H.size → ¬ A a → H1[a]? = H[a]?) : vx_Zq C n d A U H1 := ⟨va_Zq.kept h.1 hq, vx_L.kept h.2 hq⟩
theorem vx_Zq.narrow {C n d : String} {A B : Nat → Prop} {U : State} {H : Heap} (h : vx_Zq C n d A U H) (hAB : ∀ q, B q → A q) : vx_Zq C n d B U H := ⟨va_Zq.narrow h.1 hAB, vx_L.narrow h.2 hAB⟩
theorem vx_Zqof {args : Array Value} {s : State} {C n d : String} {A : Nat → Prop} (hl : (Cond.laysStatic C n d).before args s = true) (hini : (Cond.initialized C).before args s = true) (h : (Cond.isRef (.static C n d)).before args s = true) (hA : ∀ a : Nat, a < s.heap.size → ¬ A a) : vx_Zq C n d A s s.heap := by
  refine ⟨va_Zqof hl hini h hA, ?_⟩
  obtain ⟨c, k, i, f, a, cell, h1, h2, h3, h4, h5, h6, h7, h8, h9⟩ := Cond.laysStatic_spec hl
  exact ⟨c, k, i, f, a, cell, h1, h2, h3, h4, h5, h6, h7, h8, h9, hA a (Array.getElem?_eq_some_iff.mp h5).1⟩
theorem vx_isRef {C n d : String} {v : Value} {A : Nat → Prop} {s : State} {args : Array Value} (h : va_Z C n d v A s s.heap) (hv : v.isRef = true) : (Cond.isRef (.static C n d)).before args s = true := by
  obtain ⟨cf, kf, fi, f, a, cell, h1, h2, h3, h4, h5, h6, h7, -⟩ := h
  have he : (Term.static C n d).eval args s none [] s = some v := by
    simp [Term.eval, State.fieldNamed?, h1, h2, h4, h5, h6, h7]
  simp only [Cond.before, Cond.holds, Cond.value, he]
  cases v <;> simp_all [Value.isRef]
theorem vx_isRefq {C n d : String} {A : Nat → Prop} {s : State} {args : Array Value} (h : va_Zq C n d A s s.heap) : (Cond.isRef (.static C n d)).before args s = true := by
  rcases h with h | ⟨t, h⟩
  · exact vx_isRef h rfl
  · exact vx_isRef h rfl
/-- the same frame, seen from here: as if the method were called anew in this heap -/
theorem vx_rebase {T : State} (X : Stand p l e R s m args below meth c T locs cells slots) {R' : Room} (hf : R'.frames ≤ R.frames) (hl : R'.locals ≤ R.locals) (hc : cells + R'.cells ≤ R.cells) (hs : slots + R'.slots ≤ R.slots) :
    Stand p l e R' ((T.setVm s.vm).setFrames (.invoking m args :: below)) m args below meth c T [] 0 0 := by
  have htop : (T.setVm s.vm).topJava?.isSome := X.here.top
  have hF : ((T.setVm s.vm).setFrames (.invoking m args :: below)).frames = .invoking m args :: below := State.frames_setFrames _ (State.cur_lt_of_top htop)
  obtain ⟨g₀, hg0⟩ := Option.isSome_iff_exists.mp htop
  obtain ⟨r, hr⟩ := State.topJava?_eq_some.mp hg0
  have hl9 : e.platform.stackLimits (T.setVm s.vm).me = e.platform.stackLimits s.me := X.limits
  have hb9 : (T.setVm s.vm).me.stackBytes = s.me.stackBytes := X.bytes
  refine ⟨X.admits, X.cas, X.clock, hF, ?_, X.hears, X.method, X.code, X.here, X.tail, X.warmed, ?_, ?_, ?_⟩
  · have h := X.room
    have hU : ((T.setVm s.vm).setFrames (.invoking m args :: below)).localsInUse = s.localsInUse := by
      rw [State.localsInUse_invoking hF (meth := meth) (c := c) X.method X.code, State.localsInUse_invoking X.frames X.method X.code]
    simp only [State.hasRoom, Bool.and_eq_true, decide_eq_true_eq] at h ⊢
    obtain ⟨⟨⟨⟨h1, h2, h3, h4, h5, h6⟩, h7⟩, h8⟩, h9⟩ := h
    rw [X.frames, List.length_cons] at h2 h3
    have q1 := X.heapSize
    have q2 := X.used
    simp only [hF, hU, List.length_cons, State.stackLimits_setFrames, State.stackBytes_setFrames, hl9, hb9]
    refine ⟨⟨⟨⟨by omega, by omega, by omega, by omega, by omega, h6⟩, ?_⟩, ?_⟩, X.book⟩
    · show T.heap.size + R'.cells ≤ e.platform.maxCells
      omega
    · show T.slotsUsed + R'.slots ≤ e.platform.maxSlots
      omega
  · rw [State.stackLimits_setFrames]; rfl
  · rw [State.stackBytes_setFrames]; rfl
  · refine ⟨?_, Nat.le_refl _, Nat.le_refl _, ?_, ?_, fun a c9 h9 => ⟨c9, h9, rfl, rfl, fun _ _ => rfl⟩⟩
    · obtain ⟨t, ht, -⟩ := State.frames_cons hr
      show T.setVm s.vm = { ((T.setVm s.vm).setFrames (.invoking m args :: below)).setFrames (T.setVm s.vm).frames with heap := T.heap, slotsUsed := T.slotsUsed }
      rw [State.setFrames_setFrames, State.setFrames_self ht]
      rfl
    · show T.slotsUsed = T.slotsUsed + ((T.heap.toList.drop T.heap.size).map (·.slots.size)).sum
      rw [List.drop_eq_nil_of_le (Nat.le_of_eq Array.length_toList)]
      rfl
    · show ((T.heap.toList.drop T.heap.size).map (·.slots.size)).sum ≤ 0
      rw [List.drop_eq_nil_of_le (Nat.le_of_eq Array.length_toList)]
      exact Nat.le_refl _
/-- 'throw new E()': new; dup; invokespecial; athrow -/
theorem vx_throw0 {cc : ByteArray} {pc : Nat} (hexec : p.tables.exec = Jvm.exec) (hb : c.code = cc) (hl : l.stackTraces = false) {own cls : String} {names : List String} {ik ic mc ms : Nat} {A : Nat → Prop}
    (hown : s.vm.findClass own = some m.cls) (hcls : Bundle.fit cls = true) (hnames : ∀ n ∈ names, Bundle.fit n = true)
    (hk : (Cond.classLink own ik cls).before args s = true) (hini : (Cond.initialized cls).before args s = true) (hat : ∀ w ∈ vx_at0 own ic cls names, w.before args s = true)
    (hgood : ∀ w ∈ Cond.classLink own ik cls :: Cond.initialized cls :: vx_at0 own ic cls names, vx_ot w = true)
    (hU : vx_Zq Bundle.tN "UNASSIGNED_STACK" Bundle.steD A s s.heap) (hN : vx_Zq Bundle.tN "SUPPRESSED_SENTINEL" Bundle.listD A s s.heap) (hS : va_S A s.heap H locs) (hsize : ls.size = c.maxLocals)
    (d0 : decode cc pc = .ok (.new ik, 3)) (d3 : decode cc (pc + 3) = .ok (.dup, 1)) (d4 : decode cc (pc + 4) = .ok (.invokespecial ic, 3)) (d7 : decode cc (pc + 7) = .ok (.athrow, 1))
    (hout : ∀ x ∈ c.exceptionTable.toList, covers x (pc + 7) = false)
    (hRframes : names.length + 3 < R.frames) (hRlocals : (rest.map fun v => v.category).sum + (13 * (names.length + 1) + 42) ≤ R.locals) (hRcells : cells + 1 ≤ R.cells) (hRslots : slots + 6 ≤ R.slots) (hlocks : meth.locks = false)
    (hx : ∀ t : State, s.vm.Alike t.vm → H.size ≤ t.heap.size → (∀ q : Nat, q < H.size → t.heap[q]? = H[q]?) → XC cls s t)
    (hf : ∀ z ∈ locs, free z.base) (hc : cells + 1 ≤ mc) (hs : slots + 6 ≤ ms) :
    W p l e R s m args below meth c H locs cells slots (vx_MQ below Qc XC args s mc ms free) (F0 m pc ls rest) := by
  intro T hT X
  have htr : e.platform.stackTraces = false := (show e.platform.stackTraces = l.stackTraces by rw [X.admits.platform]).trans hl
  have Y := vx_rebase X (R' := { frames := R.frames, locals := R.locals, cells := 1, slots := 6 }) (Nat.le_refl _) (Nat.le_refl _) hRcells hRslots
  obtain ⟨s', hA⟩ : ∃ z, z = (T.setVm s.vm).setFrames (.invoking m args :: below) := ⟨_, rfl⟩
  rw [← hA] at Y
  have hvm : s'.vm = s.vm := by rw [hA]; rfl
  have hhp : s'.heap = H := by rw [hA]; exact hT
  have hW0 : s.WarmedH s'.vm := by rw [hvm]; exact State.WarmedH.refl s
  have hat' : ∀ w ∈ vx_at0 own ic cls names, w.before args s' = true := fun w hw => vx_ot_at hW0 hvm.symm (hgood w (List.mem_cons_of_mem _ (List.mem_cons_of_mem _ hw))) (hat w hw)
  have hk' : (Cond.classLink own ik cls).before args s' = true := vx_ot_at hW0 hvm.symm (hgood _ List.mem_cons_self) hk
  have hini' : (Cond.initialized cls).before args s' = true := vx_ot_at hW0 hvm.symm (hgood _ (List.mem_cons_of_mem _ List.mem_cons_self)) hini
  have hU' : vx_Zq Bundle.tN "UNASSIGNED_STACK" Bundle.steD A s' s'.heap := by rw [hhp]; exact vx_Zq.moved hW0.alike (hU.kept hS.2.1)
  have hN' : vx_Zq Bundle.tN "SUPPRESSED_SENTINEL" Bundle.listD A s' s'.heap := by rw [hhp]; exact vx_Zq.moved hW0.alike (hN.kept hS.2.1)
  have h : ∀ w ∈ Bundle.ownAtoms0 own ic cls names, w.before args s' = true := vx_own hat' (vx_isRefq hU'.1) (vx_isRefq hN'.1) hU'.2.word hN'.2.word
  have hown' : s'.vm.findClass own = some m.cls := by rw [hvm]; exact hown
  have hins : (Cond.instantiable cls 6).before args s' = true := h _ (by simp [Bundle.ownAtoms0])
  obtain ⟨vm₁, cX, kX, hfX, hkX, -, -, X₁, st1⟩ := Y.newCold hexec (own := own) (C := cls) (index := ik) (n := 6) hown' hk' hins hini'
    (g := F0 m pc ls rest) rfl (by rw [hb]; exact d0) (Nat.le_refl _) (Nat.le_refl _)
  generalize hT1 : (T.setVm vm₁).pushCell { cls := cX, slots := kX.instanceTypes.map defaultValue, vm := .none } = T1 at X₁ st1
  have hcat : (Value.ref T.heap.size).category = 1 := rfl
  have hcellA : T1.heap[T.heap.size]? = some (freshCell cX kX) := by rw [← hT1]; exact State.heap_pushCell_size _ _
  have d3' : decode c.code (pc + 3) = .ok (.dup, 1) := by rw [hb]; exact d3
  obtain ⟨U, hsteps, hrun, hend, hW, hsame, ce, hce, hO⟩ := X₁.ctorThrow0 hexec htr (own := own) (cls := cls) (names := names) (ic := ic) hown' hcls hnames h (fun x hx => nomatch hx) hfX hkX hcellA (by rw [hhp, hT]; exact Nat.le_refl _)
    (g := { method := m, pc := pc + 4, locals := ls, stack := .ref T.heap.size :: .ref T.heap.size :: rest, locked := none }) rfl hsize rfl rfl (rest := rest) rfl
    (by rw [hb]; exact d4) (by rw [hb]; exact d7) hout hRframes (by simp only [List.map_cons, List.sum_cons, hcat]; omega) hlocks
  obtain ⟨f1, f2⟩ := vx_frame hsame
  rw [hhp] at f1 f2
  have hWs : s.WarmedH U.vm := State.WarmedH.trans hW0 hW
  have hcl : s.vm.findClass cls = some ce.cls := by
    have h9 := hO.cls
    rw [hvm] at h9
    exact h9
  have hall : s.sameButNew ({ U with vm := s.vm } : State) locs mc ms := by
    subst hA
    obtain ⟨e1, e2⟩ := hsame
    rw [State.setFrames_setFrames] at e1
    have h2 : (T.setVm s.vm).sameButNew ({ U with vm := s.vm } : State) [] (0 + 1) (0 + 6) := ⟨e1, e2⟩
    have h3 := X.same.trans h2
    rw [List.append_nil] at h3
    exact h3.mono hc hs
  refine ⟨U, ?_, .threw T.heap.size, hrun, hend, Or.inr ⟨T.heap.size, rfl, cls, ce, locs, hx U hWs.alike f1 (fun q hq => f2 q hq (fun z hz => nomatch hz)), hce, hO.vm, hcl, hWs, hall, hf⟩⟩
  refine st1 _ ?_
  show Steps p.tables e below (T1.setTop { method := m, pc := pc + 3, locals := ls, stack := .ref T.heap.size :: rest, locked := none }) _
  jvm_step X₁.here [X₁.here.top, hexec, d3', Value.category]
  exact hsteps
/-- 'throw new E("text")': new; dup; ldc; invokespecial; athrow -/
theorem vx_throwS {cc : ByteArray} {pc : Nat} (hexec : p.tables.exec = Jvm.exec) (hb : c.code = cc) (hl : l.stackTraces = false) {own cls text : String} {names : List String} {ik is ic mc ms sa : Nat} {A : Nat → Prop}
    (hown : s.vm.findClass own = some m.cls) (hcls : Bundle.fit cls = true) (hnames : ∀ n ∈ names, Bundle.fit n = true)
    (hk : (Cond.classLink own ik cls).before args s = true) (hini : (Cond.initialized cls).before args s = true) (hstr : vk_R own is text sa s) (hat : ∀ w ∈ vx_atS own ic cls names, w.before args s = true)
    (hgood : ∀ w ∈ Cond.classLink own ik cls :: Cond.initialized cls :: vx_atS own ic cls names, vx_ot w = true)
    (hU : vx_Zq Bundle.tN "UNASSIGNED_STACK" Bundle.steD A s s.heap) (hN : vx_Zq Bundle.tN "SUPPRESSED_SENTINEL" Bundle.listD A s s.heap) (hS : va_S A s.heap H locs) (hsize : ls.size = c.maxLocals)
    (d0 : decode cc pc = .ok (.new ik, 3)) (d3 : decode cc (pc + 3) = .ok (.dup, 1)) (d4 : decode cc (pc + 4) = .ok (.ldc is, 2)) (d6 : decode cc (pc + 6) = .ok (.invokespecial ic, 3)) (d9 : decode cc (pc + 9) = .ok (.athrow, 1))
    (hout : ∀ x ∈ c.exceptionTable.toList, covers x (pc + 9) = false)
    (hRframes : names.length + 3 < R.frames) (hRlocals : (rest.map fun v => v.category).sum + (13 * (names.length + 1) + 43) ≤ R.locals) (hRcells : cells + 1 ≤ R.cells) (hRslots : slots + 6 ≤ R.slots) (hlocks : meth.locks = false)
    (hx : ∀ t : State, s.vm.Alike t.vm → H.size ≤ t.heap.size → (∀ q : Nat, q < H.size → t.heap[q]? = H[q]?) → XC cls s t)
    (hf : ∀ z ∈ locs, free z.base) (hc : cells + 1 ≤ mc) (hs : slots + 6 ≤ ms) :
    W p l e R s m args below meth c H locs cells slots (vx_MQ below Qc XC args s mc ms free) (F0 m pc ls rest) := by
  intro T hT X
  have htr : e.platform.stackTraces = false := (show e.platform.stackTraces = l.stackTraces by rw [X.admits.platform]).trans hl
  have Y := vx_rebase X (R' := { frames := R.frames, locals := R.locals, cells := 1, slots := 6 }) (Nat.le_refl _) (Nat.le_refl _) hRcells hRslots
  obtain ⟨s', hA⟩ : ∃ z, z = (T.setVm s.vm).setFrames (.invoking m args :: below) := ⟨_, rfl⟩
  rw [← hA] at Y
  have hvm : s'.vm = s.vm := by rw [hA]; rfl
  have hhp : s'.heap = H := by rw [hA]; exact hT
  have hW0 : s.WarmedH s'.vm := by rw [hvm]; exact State.WarmedH.refl s
  have hat' : ∀ w ∈ vx_atS own ic cls names, w.before args s' = true := fun w hw => vx_ot_at hW0 hvm.symm (hgood w (List.mem_cons_of_mem _ (List.mem_cons_of_mem _ hw))) (hat w hw)
  have hk' : (Cond.classLink own ik cls).before args s' = true := vx_ot_at hW0 hvm.symm (hgood _ List.mem_cons_self) hk
  have hini' : (Cond.initialized cls).before args s' = true := vx_ot_at hW0 hvm.symm (hgood _ (List.mem_cons_of_mem _ List.mem_cons_self)) hini
  have hU' : vx_Zq Bundle.tN "UNASSIGNED_STACK" Bundle.steD A s' s'.heap := by rw [hhp]; exact vx_Zq.moved hW0.alike (hU.kept hS.2.1)
  have hN' : vx_Zq Bundle.tN "SUPPRESSED_SENTINEL" Bundle.listD A s' s'.heap := by rw [hhp]; exact vx_Zq.moved hW0.alike (hN.kept hS.2.1)
  have h : ∀ w ∈ Bundle.ownAtoms own ic cls names, w.before args s' = true := vx_own hat' (vx_isRefq hU'.1) (vx_isRefq hN'.1) hU'.2.word hN'.2.word
  have hown' : s'.vm.findClass own = some m.cls := by rw [hvm]; exact hown
  have hins : (Cond.instantiable cls 6).before args s' = true := h _ (by simp [Bundle.ownAtoms])
  obtain ⟨vm₁, cX, kX, hfX, hkX, -, -, X₁, st1⟩ := Y.newCold hexec (own := own) (C := cls) (index := ik) (n := 6) hown' hk' hins hini'
    (g := F0 m pc ls rest) rfl (by rw [hb]; exact d0) (Nat.le_refl _) (Nat.le_refl _)
  generalize hT1 : (T.setVm vm₁).pushCell { cls := cX, slots := kX.instanceTypes.map defaultValue, vm := .none } = T1 at X₁ st1
  have hcat : (Value.ref T.heap.size).category = 1 := rfl
  have hcellA : T1.heap[T.heap.size]? = some (freshCell cX kX) := by rw [← hT1]; exact State.heap_pushCell_size _ _
  have d3' : decode c.code (pc + 3) = .ok (.dup, 1) := by rw [hb]; exact d3
  have d4' : decode c.code (pc + 4) = .ok (.ldc is, 2) := by rw [hb]; exact d4
  have hstr' : vk_R own is text sa s' := vk_R.warm hW0 hstr
  obtain ⟨U, hsteps, hrun, hend, hW, hsame, ce, hce, hO⟩ := X₁.ctorThrowS hexec htr (own := own) (cls := cls) (names := names) (ic := ic) hown' hcls hnames h (fun x hx => nomatch hx) hfX hkX hcellA (by rw [hhp, hT]; exact Nat.le_refl _) (msg := .ref sa) rfl
    (g := { method := m, pc := pc + 6, locals := ls, stack := .ref sa :: .ref T.heap.size :: .ref T.heap.size :: rest, locked := none }) rfl hsize rfl rfl (rest := rest) rfl
    (by rw [hb]; exact d6) (by rw [hb]; exact d9) hout hRframes (by simp only [List.map_cons, List.sum_cons, hcat]; omega) hlocks
  obtain ⟨f1, f2⟩ := vx_frame hsame
  rw [hhp] at f1 f2
  have hWs : s.WarmedH U.vm := State.WarmedH.trans hW0 hW
  have hcl : s.vm.findClass cls = some ce.cls := by
    have h9 := hO.cls
    rw [hvm] at h9
    exact h9
  have hall : s.sameButNew ({ U with vm := s.vm } : State) locs mc ms := by
    subst hA
    obtain ⟨e1, e2⟩ := hsame
    rw [State.setFrames_setFrames] at e1
    have h2 : (T.setVm s.vm).sameButNew ({ U with vm := s.vm } : State) [] (0 + 1) (0 + 6) := ⟨e1, e2⟩
    have h3 := X.same.trans h2
    rw [List.append_nil] at h3
    exact h3.mono hc hs
  refine ⟨U, ?_, .threw T.heap.size, hrun, hend, Or.inr ⟨T.heap.size, rfl, cls, ce, locs, hx U hWs.alike f1 (fun q hq => f2 q hq (fun z hz => nomatch hz)), hce, hO.vm, hcl, hWs, hall, hf⟩⟩
  refine st1 _ ?_
  show Steps p.tables e below (T1.setTop { method := m, pc := pc + 3, locals := ls, stack := .ref T.heap.size :: rest, locked := none }) _
  jvm_step X₁.here [X₁.here.top, hexec, d3', Value.category]
  exact X₁.ldcString hexec (own := own) (text := text) (index := is) (a := sa) hown' hstr'.1 hstr'.2
    (g := { method := m, pc := pc + 4, locals := ls, stack := .ref T.heap.size :: .ref T.heap.size :: rest, locked := none }) rfl d4' _ hsteps
/-- 'throw new E("text")', the text by a wide index -/
theorem vx_throwSW {cc : ByteArray} {pc : Nat} (hexec : p.tables.exec = Jvm.exec) (hb : c.code = cc) (hl : l.stackTraces = false) {own cls text : String} {names : List String} {ik is ic mc ms sa : Nat} {A : Nat → Prop}
    (hown : s.vm.findClass own = some m.cls) (hcls : Bundle.fit cls = true) (hnames : ∀ n ∈ names, Bundle.fit n = true)
    (hk : (Cond.classLink own ik cls).before args s = true) (hini : (Cond.initialized cls).before args s = true) (hstr : vk_R own is text sa s) (hat : ∀ w ∈ vx_atS own ic cls names, w.before args s = true)
    (hgood : ∀ w ∈ Cond.classLink own ik cls :: Cond.initialized cls :: vx_atS own ic cls names, vx_ot w = true)
    (hU : vx_Zq Bundle.tN "UNASSIGNED_STACK" Bundle.steD A s s.heap) (hN : vx_Zq Bundle.tN "SUPPRESSED_SENTINEL" Bundle.listD A s s.heap) (hS : va_S A s.heap H locs) (hsize : ls.size = c.maxLocals)
    (d0 : decode cc pc = .ok (.new ik, 3)) (d3 : decode cc (pc + 3) = .ok (.dup, 1)) (d4 : decode cc (pc + 4) = .ok (.ldc_w is, 3)) (d7 : decode cc (pc + 7) = .ok (.invokespecial ic, 3)) (d10 : decode cc (pc + 10) = .ok (.athrow, 1))
    (hout : ∀ x ∈ c.exceptionTable.toList, covers x (pc + 10) = false)
    (hRframes : names.length + 3 < R.frames) (hRlocals : (rest.map fun v => v.category).sum + (13 * (names.length + 1) + 43) ≤ R.locals) (hRcells : cells + 1 ≤ R.cells) (hRslots : slots + 6 ≤ R.slots) (hlocks : meth.locks = false)
    (hx : ∀ t : State, s.vm.Alike t.vm → H.size ≤ t.heap.size → (∀ q : Nat, q < H.size → t.heap[q]? = H[q]?) → XC cls s t)
    (hf : ∀ z ∈ locs, free z.base) (hc : cells + 1 ≤ mc) (hs : slots + 6 ≤ ms) :
    W p l e R s m args below meth c H locs cells slots (vx_MQ below Qc XC args s mc ms free) (F0 m pc ls rest) := by
  intro T hT X
  have htr : e.platform.stackTraces = false := (show e.platform.stackTraces = l.stackTraces by rw [X.admits.platform]).trans hl
  have Y := vx_rebase X (R' := { frames := R.frames, locals := R.locals, cells := 1, slots := 6 }) (Nat.le_refl _) (Nat.le_refl _) hRcells hRslots
  obtain ⟨s', hA⟩ : ∃ z, z = (T.setVm s.vm).setFrames (.invoking m args :: below) := ⟨_, rfl⟩
  rw [← hA] at Y
  have hvm : s'.vm = s.vm := by rw [hA]; rfl
  have hhp : s'.heap = H := by rw [hA]; exact hT
  have hW0 : s.WarmedH s'.vm := by rw [hvm]; exact State.WarmedH.refl s
  have hat' : ∀ w ∈ vx_atS own ic cls names, w.before args s' = true := fun w hw => vx_ot_at hW0 hvm.symm (hgood w (List.mem_cons_of_mem _ (List.mem_cons_of_mem _ hw))) (hat w hw)
  have hk' : (Cond.classLink own ik cls).before args s' = true := vx_ot_at hW0 hvm.symm (hgood _ List.mem_cons_self) hk
  have hini' : (Cond.initialized cls).before args s' = true := vx_ot_at hW0 hvm.symm (hgood _ (List.mem_cons_of_mem _ List.mem_cons_self)) hini
  have hU' : vx_Zq Bundle.tN "UNASSIGNED_STACK" Bundle.steD A s' s'.heap := by rw [hhp]; exact vx_Zq.moved hW0.alike (hU.kept hS.2.1)
  have hN' : vx_Zq Bundle.tN "SUPPRESSED_SENTINEL" Bundle.listD A s' s'.heap := by rw [hhp]; exact vx_Zq.moved hW0.alike (hN.kept hS.2.1)
  have h : ∀ w ∈ Bundle.ownAtoms own ic cls names, w.before args s' = true := vx_own hat' (vx_isRefq hU'.1) (vx_isRefq hN'.1) hU'.2.word hN'.2.word
  have hown' : s'.vm.findClass own = some m.cls := by rw [hvm]; exact hown
  have hins : (Cond.instantiable cls 6).before args s' = true := h _ (by simp [Bundle.ownAtoms])
  obtain ⟨vm₁, cX, kX, hfX, hkX, -, -, X₁, st1⟩ := Y.newCold hexec (own := own) (C := cls) (index := ik) (n := 6) hown' hk' hins hini'
    (g := F0 m pc ls rest) rfl (by rw [hb]; exact d0) (Nat.le_refl _) (Nat.le_refl _)
  generalize hT1 : (T.setVm vm₁).pushCell { cls := cX, slots := kX.instanceTypes.map defaultValue, vm := .none } = T1 at X₁ st1
  have hcat : (Value.ref T.heap.size).category = 1 := rfl
  have hcellA : T1.heap[T.heap.size]? = some (freshCell cX kX) := by rw [← hT1]; exact State.heap_pushCell_size _ _
  have d3' : decode c.code (pc + 3) = .ok (.dup, 1) := by rw [hb]; exact d3
  have d4' : decode c.code (pc + 4) = .ok (.ldc_w is, 3) := by rw [hb]; exact d4
  have hstr' : vk_R own is text sa s' := vk_R.warm hW0 hstr
  obtain ⟨U, hsteps, hrun, hend, hW, hsame, ce, hce, hO⟩ := X₁.ctorThrowS hexec htr (own := own) (cls := cls) (names := names) (ic := ic) hown' hcls hnames h (fun x hx => nomatch hx) hfX hkX hcellA (by rw [hhp, hT]; exact Nat.le_refl _) (msg := .ref sa) rfl
    (g := { method := m, pc := pc + 7, locals := ls, stack := .ref sa :: .ref T.heap.size :: .ref T.heap.size :: rest, locked := none }) rfl hsize rfl rfl (rest := rest) rfl
    (by rw [hb]; exact d7) (by rw [hb]; exact d10) hout hRframes (by simp only [List.map_cons, List.sum_cons, hcat]; omega) hlocks
  obtain ⟨f1, f2⟩ := vx_frame hsame
  rw [hhp] at f1 f2
  have hWs : s.WarmedH U.vm := State.WarmedH.trans hW0 hW
  have hcl : s.vm.findClass cls = some ce.cls := by
    have h9 := hO.cls
    rw [hvm] at h9
    exact h9
  have hall : s.sameButNew ({ U with vm := s.vm } : State) locs mc ms := by
    subst hA
    obtain ⟨e1, e2⟩ := hsame
    rw [State.setFrames_setFrames] at e1
    have h2 : (T.setVm s.vm).sameButNew ({ U with vm := s.vm } : State) [] (0 + 1) (0 + 6) := ⟨e1, e2⟩
    have h3 := X.same.trans h2
    rw [List.append_nil] at h3
    exact h3.mono hc hs
  refine ⟨U, ?_, .threw T.heap.size, hrun, hend, Or.inr ⟨T.heap.size, rfl, cls, ce, locs, hx U hWs.alike f1 (fun q hq => f2 q hq (fun z hz => nomatch hz)), hce, hO.vm, hcl, hWs, hall, hf⟩⟩
  refine st1 _ ?_
  show Steps p.tables e below (T1.setTop { method := m, pc := pc + 3, locals := ls, stack := .ref T.heap.size :: rest, locked := none }) _
  jvm_step X₁.here [X₁.here.top, hexec, d3', Value.category]
  exact X₁.ldcStringW hexec (own := own) (text := text) (index := is) (a := sa) hown' hstr'.1 hstr'.2
    (g := { method := m, pc := pc + 4, locals := ls, stack := .ref T.heap.size :: .ref T.heap.size :: rest, locked := none }) rfl d4' _ hsteps
end Ends
section Bodies
variable {l : Launch}
theorem vx_ofW {y : MethodName} {ws ws' : List Cond} {rm : Room} {Pc : Array Value → State → Prop} {Qc : Array Value → State → Outcome → State → Prop} {XC : String → State → State → Prop} {mc ms : Nat} {free : Addr → Prop} {cc : ByteArray} {maxL : Nat} {ret : Option FieldType}
    (hy : plainName y.cls = true) (hw : ws = Cond.code y cc maxL ret :: ws')
    (body : ∀ p e s m args below meth c s₁, BodyLoose p l y (headSpec ws rm) cc maxL ret e s m args below meth c s₁ → c.maxLocals = maxL → (∀ x ∈ c.exceptionTable.toList, False) → Pc args s →
      W p l e (headSpec ws rm).room s m args below meth c s.heap [] 0 0 (vx_MQ below Qc XC args s mc ms free) (entryFrame m args maxL)) : vx_Met l y ws rm Pc Qc XC mc ms free := by
  refine MetFree.of_bodyS (code := cc) (maxLocals := maxL) (ret := ret) hy ?_ ?_
  · intro args s m h hn
    obtain ⟨meth, c, h1, h2, h3, h4, h5, h6, -, -⟩ := Cond.code_spec hn (atoms_spec (ws := ws) h _ (by rw [hw]; exact List.mem_cons_self))
    exact ⟨meth, c, h1, h2, h3, h4, h5, h6⟩
  · intro p e s m args below meth c s₁ B hml hP _
    have hh0 : s₁.heap = s.heap := by rw [B.state]; rfl
    have ht : ∀ x ∈ c.exceptionTable.toList, False := by
      obtain ⟨meth9, c9, h1, h2, -, -, -, -, h7, -⟩ := Cond.code_spec B.named (atoms_spec (ws := ws) B.pre _ (by rw [hw]; exact List.mem_cons_self))
      cases Option.some.inj (h1.symm.trans B.method)
      cases Option.some.inj (h2.symm.trans (Stand.of_body B).code)
      intro x hx
      rw [Array.isEmpty_iff.mp h7] at hx
      cases hx
    obtain ⟨t, a1, o, b1, b2, b3⟩ := body p e s m args below meth c s₁ B hml ht hP s₁ hh0 (Stand.of_body B)
    exact ⟨t, o, a1, b1, b2, b3⟩
/-- the table of a body with handlers -/
theorem vx_table {p : Program} {x y : MethodName} {S : Spec} {cc bytes : ByteArray} {maxL maxL' : Nat} {ret ret' : Option FieldType} {e : Env} {s s₁ : State} {m : MethodId} {args : Array Value} {below : List Frame} {meth : Method} {c : Code} {hh : List (Nat × Nat × Nat × Nat)}
    (B : BodyLoose p l y S cc maxL ret e s m args below meth c s₁) (h : (Cond.codeWith y bytes maxL' ret' hh).before args s = true) : c.exceptionTable.toList = tableOf hh := by
  obtain ⟨m9, meth9, c9, hn9, h1, h2, -, -, h6, -⟩ := Cond.codeWith_spec h
  cases Option.some.inj (hn9.symm.trans B.named)
  cases Option.some.inj (h1.symm.trans B.method)
  cases Option.some.inj (h2.symm.trans (Stand.of_body B).code)
  rw [← h6, table_eq]
end Bodies
end VXA
/-! ===== END ===== -/
/-! ===== BEGIN a static call of a method with an exception table ===== -/
section VXS
variable {p : Program} {l : Launch} {e : Env} {R : Room} {s : State} {m : MethodId} {args : Array Value} {below : List Frame} {meth : Method} {c : Code} {T : State} {H : Heap} {locs : List Loc} {cells slots : Nat}
abbrev vx_CSW (R : Room) (s : State) (args : Array Value) (own : String) (index : Nat) (y : MethodName) (bytes : ByteArray) (maxL : Nat) (ret : Option FieldType) (hh : List (Nat × Nat × Nat × Nat)) (ws : List Cond) (rm : Room) (mc ms n : Nat) : Prop :=
  (rm.cells = mc ∧ rm.slots = ms ∧ rm.frames + 1 ≤ R.frames ∧ 8 + (maxL + 11) + rm.locals ≤ R.locals ∧ (∀ w ∈ ws, ∀ (a' : Array Value) (U : State), s.WarmedH U.vm → w.before a' U = true) ∧ Cond.codeWith y bytes maxL ret hh ∈ ws) ∧
  (Cond.codeWith y bytes maxL ret hh).before args s = true ∧ (Cond.initialized y.cls).before args s = true ∧ (y.cls ≠ "java/lang/invoke/MethodHandle" ∧ y.cls ≠ "java/lang/invoke/VarHandle") ∧
  (∀ sig, parseMethodDescriptor y.desc = some sig → n = sig.parameters.length) ∧ (Cond.methodLink own index y).before args s = true ∧ (Cond.static y).before args s = true
theorem vx_cwSW {own : String} {index maxL mc ms : Nat} {y : MethodName} {bytes : ByteArray} {ret : Option FieldType} {hh : List (Nat × Nat × Nat × Nat)} {Ts ws ws' : List Cond} {rm : Room} (n : Nat) (ht : ∀ w ∈ Ts, w.before args s = true) (hT : GoodIn Ts (va_wsS own index y ws)) (hw : ws = Cond.codeWith y bytes maxL ret hh :: ws') (hrc : rm.cells = mc) (hrs : rm.slots = ms)
    (hd : y.cls ≠ "java/lang/invoke/MethodHandle" ∧ y.cls ≠ "java/lang/invoke/VarHandle" ∧ (parseMethodDescriptor y.desc).map (fun d => d.parameters.length) = some n) (hR : rm.frames + 1 ≤ R.frames ∧ 8 + (maxL + 11) + rm.locals ≤ R.locals) :
    vx_CSW R s args own index y bytes maxL ret hh ws rm mc ms n := by
  have ok : ∀ w ∈ va_wsS own index y ws, w.before args s = true := fun w h => ht w (hT w h).1
  have hG : GoodIn Ts ws := fun w h => hT w (by unfold va_wsS; exact List.mem_append_right _ h)
  have hc : Cond.codeWith y bytes maxL ret hh ∈ ws := by rw [hw]; exact List.mem_cons_self
  refine ⟨⟨hrc, hrs, hR.1, hR.2, pay_in ht hG, hc⟩, ht _ (hG _ hc).1, ok _ (by simp [va_wsS]), ⟨hd.1, hd.2.1⟩, fun sig h => ?_, ok _ (by simp [va_wsS]), ok _ (by simp [va_wsS])⟩
  have h2 := hd.2.2
  rw [h] at h2
  exact (Option.some.inj h2).symm
theorem vx_callSW (X : Stand p l e R s m args below meth c T locs cells slots) (hexec : p.tables.exec = Jvm.exec) {own : String} {index : Nat} {y : MethodName} {bytes : ByteArray} {maxL : Nat} {ret : Option FieldType} {hh : List (Nat × Nat × Nat × Nat)}
    (hown : s.vm.findClass own = some m.cls) (hlink : (Cond.methodLink own index y).before args s = true) (hstat : (Cond.static y).before args s = true) (hinit : (Cond.initialized y.cls).before args s = true)
    (hcode : (Cond.codeWith y bytes maxL ret hh).before args s = true) (hy : y.cls ≠ "java/lang/invoke/MethodHandle" ∧ y.cls ≠ "java/lang/invoke/VarHandle")
    {W9 : Nat} {Pre : Pt → Array Value → Prop} {Post : Pt → Array Value → Option Value → Pt → Prop} (hK : Back l R p e below s args y 3 W9 Pre Post)
    {g : JFrame} (hg : g.method = m) (hsize : g.locals.size = c.maxLocals) {argsL rest : List Value} (hlen : ∀ sig, parseMethodDescriptor y.desc = some sig → argsL.length = sig.parameters.length)
    (hstack : g.stack = argsL.reverse ++ rest) (hW : 2 * g.monitorRoom + (rest.map fun v => v.category).sum ≤ W9) (hdg : decode c.code g.pc = .ok (.invokestatic index, 3))
    (hpre : ∀ vm₁, s.WarmedH vm₁ → Pre ⟨T.setVm vm₁, locs, cells, slots⟩ argsL.toArray) :
    ∃ (v : Option Value) (vm₁ : Vm) (B : Pt), s.WarmedH vm₁ ∧ Stand p l e R s m args below meth c B.U B.locs B.cells B.slots ∧ Post ⟨T.setVm vm₁, locs, cells, slots⟩ argsL.toArray v B ∧
      ∀ target, Steps p.tables e below (B.U.setTop { g with pc := g.pc + 3, stack := v.toList ++ rest }) target → Steps p.tables e below (T.setTop g) target := by
  obtain ⟨mk, methM, cM, hnamed, hmethM, -, -, -, -, -, -, hsigM⟩ := Cond.codeWith_spec hcode
  have hstatic : methM.isStatic = true := Cond.static_spec hnamed hmethM hstat
  obtain ⟨kP, hkP, -⟩ := className_of_methodNamed hnamed
  have hinitP : kP.init = .initialized := Cond.initialized_spec (findClass_of_methodNamed hnamed) hkP hinit
  obtain ⟨vm₁, X₁, hstep₁⟩ := X.invokestatic hexec hown hlink hnamed hmethM hstatic hkP hinitP hy (g := g) hg (argsL := argsL) (rest := rest) (hlen _ hsigM) hstack hdg
  obtain ⟨v, B, X', hpost, hsteps⟩ := hK m meth c ⟨T.setVm vm₁, locs, cells, slots⟩ { g with stack := rest } (.invokestatic index) mk argsL.toArray X₁ hg hsize hdg hW (X₁.named hnamed) (hpre vm₁ X₁.warmed)
  exact ⟨v, vm₁, B, X₁.warmed, X', hpost, fun target h => hstep₁ _ fun acts => by rw [doInvoke_state]; exact hsteps.trans h⟩
theorem vx_runSW {y : MethodName} {bytes cc : ByteArray} {maxL nL mc ms n index : Nat} {ret : Option FieldType} {hh : List (Nat × Nat × Nat × Nat)} {ws : List Cond} {rm : Room} {Pc : Array Value → State → Prop} {Qc : Array Value → State → Outcome → State → Prop} {free : Addr → Prop} {Ts : List Cond} {own : String} {As rest : List Value} {g : JFrame}
    (S : CallFix p m c cc nL s args Ts own) (hM : Met l y ws rm Pc Qc mc ms free) (cw : vx_CSW R s args own index y bytes maxL ret hh ws rm mc ms n) (hp : PreS s H Pc As)
    (hg : g.method = m) (hn : As.length = n) (hsize : g.locals.size = nL) (hstack : g.stack = As.reverse ++ rest) (hW : 2 * g.monitorRoom + (rest.map fun v => v.category).sum ≤ 8) (hdg : decode cc g.pc = .ok (.invokestatic index, 3)) (hf : cells + mc ≤ R.cells ∧ slots + ms ≤ R.slots) :
    va_Run p l e R s m args below meth c H locs cells slots mc ms g rest (Qc As.toArray) (free) := by
  obtain ⟨⟨hrc, hrs, hfr, hlo, hws, hcw⟩, hcode, hini, hy, hlen, hl, hstt⟩ := cw
  have hK : Back l R p e below s args y 3 8 (PreOf R mc ms Pc) (PostOf Qc mc ms free) := va_backW (hh := hh) (bytes := bytes) (maxL := maxL) (ret := ret) hM hp.1 hrc hrs hfr hlo hws hcw (fun a' U hW => word_at hW (Or.inl (by first | rfl | simp [Cond.onTables, Cond.keeps, Cond.steady])) hini)
  obtain ⟨hx, hb, hml, ho, -⟩ := S
  intro T hT X
  obtain ⟨v, vm₁, ⟨U', l2, c2, s2⟩, hW₁, X', ⟨g', mk, t, L, e1, e2, hq, h1, hL, h2, h3⟩, st⟩ := vx_callSW X hx (hh := hh) (bytes := bytes) (maxL := maxL) (ret := ret) ho hl hstt hini hcode hy hK hg (hsize.trans hml.symm) (argsL := As) (rest := rest) (fun sig h => hn.trans (hlen sig h)) hstack hW (by rw [hb]; exact hdg)
    (fun vm₁ hW₁ => ⟨hf.1, hf.2, hp.2 (T.setVm vm₁) hT hW₁⟩)
  dsimp only [Pt.U, Pt.locs, Pt.cells, Pt.slots] at X' e1 e2 h1 h2 h3 st
  subst h1; subst h2; subst h3
  exact ⟨v, (T.setVm vm₁).calling g' mk As.toArray, t, U', L, hT, X', hL, e1, e2, hq, st⟩
/-- not caught here, past rows that name other classes: it goes on to the caller -/
theorem vx_outP {p : Program} {l : Launch} {e : Env} {R : Room} {s : State} {m : MethodId} {args : Array Value} {below : List Frame} {meth : Method} {c : Code} {H : Heap} {locs : List Loc} {cells slots : Nat} {free : Addr → Prop} {ls : Array Slot} {rest : List Value} {Qc : Array Value → State → Outcome → State → Prop} {XC : String → State → State → Prop}
    {pc : Nat} {own E : String} {ce : Cell} {q : Addr} {mc ms : Nat} (hown : s.vm.findClass own = some m.cls) (hlocks : meth.locks = false)
    (hpass : ∀ z ∈ c.exceptionTable.toList, covers z pc = false ∨ (z.catchType ≠ 0 ∧ ∃ nm : String, (Cond.classLink own z.catchType nm).before args s = true ∧ va_Nc E nm s)) (hcell : H[q]? = some ce) (hv : ce.vm = .none) (hcl : s.vm.findClass E = some ce.cls)
    (hx : ∀ t : State, t.heap = H → s.vm.Alike t.vm → XC E s t) (hf : ∀ z ∈ locs, free z.base) (hc : cells ≤ mc) (hs : slots ≤ ms) :
    vx_W p l e R s m args below meth c H locs cells slots (vx_MQ below Qc XC args s mc ms free) (F0 m pc ls rest) q := by
  intro T hT X
  have hpl : e.platform.magicAccessors = ({} : Platform).magicAccessors := by rw [X.admits.platform]
  obtain ⟨vm', hW', X', st⟩ := X.outThrough hlocks q (g := F0 m pc ls rest) rfl rfl rfl (cell := ce) (by rw [hT]; exact hcell) (by rw [hv]; rfl)
    (by obtain ⟨k9, h9, -⟩ := Vm.findClass_spec hcl; exact ⟨k9, h9⟩) (fun z hz => by
      rcases hpass z hz with h | ⟨hz0, nm, hl1, hn1⟩
      · exact Or.inl h
      · obtain ⟨c6, hc6, hcl6⟩ := Cond.classLink_spec hown hl1 e.platform hpl
        obtain ⟨a8, b8, h1, h2, h3⟩ := hn1
        cases Option.some.inj (h1.symm.trans hcl)
        cases Option.some.inj (h2.symm.trans hc6)
        exact Or.inr ⟨hz0, _, hcl6, h3⟩)
  obtain ⟨g₀, hfr⟩ := X'.frames_eq
  have hcell9 : ((T.setVm vm').setFrames (.throwing q :: below)).heap[q]? = some ce := by
    show T.heap[q]? = some ce
    rw [hT]; exact hcell
  have hend : Ended ((T.setVm vm').setFrames (.throwing q :: below)) below (.threw q) := State.frames_setFrames _ (State.cur_lt_of_frames hfr)
  refine ⟨(T.setVm vm').setFrames (.throwing q :: below), ?_, .threw q, X'.here.running, hend, Or.inr ⟨q, rfl, E, ce, locs, hx _ hT (X'.ends _).1.alike, hcell9, hv, hcl, (X'.ends _).1, (X'.ends _).2.mono hc hs, hf⟩⟩
  rw [X.pushThrowing_eq]
  exact st
/-- a thing of a world lies in the heap -/
theorem vx_lt {D : va_G} {cl : List vw_C} {ws : va_W} {H1 : Heap} (h : va_P D cl ws H1) {k : Nat} {q : Nat × va_E} (hk : ws[k]? = some q) : q.1 < H1.size := (h k q hk).lt
end VXS
/-! ===== END ===== -/
/-! ===== BEGIN methods with a table of their own: called by a name, returning or throwing ===== -/
section VXH
/-! vx_backW, vx_callVX, vx_callSX, vx_callVW, vx_runVW, vx_runVX, vx_runSX, vx_ofWH follow the same proofs as their sisters above (Free/Laws.lean, Shelf42/LK1.lean); vx_outP calls Shelf42/NT130.lean (outThrough). -/
section
variable {l : Launch} {R : Room} {p : Program} {e : Env} {below : List Frame} {s : State} {sargs : Array Value} {y : MethodName} {len W9 : Nat}
theorem vx_backW {ws : List Cond} {rm : Room} {Pc : Array Value → State → Prop} {Qc : Array Value → State → Outcome → State → Prop} {XC : String → State → State → Prop} {mc ms : Nat} {free : Addr → Prop} {bytes : ByteArray} {maxL : Nat} {ret : Option FieldType} {hh : List (Nat × Nat × Nat × Nat)}
    (hM : vx_Met l y ws rm Pc Qc XC mc ms free) (hblind : FrameBlind Pc) (hrc : rm.cells = mc) (hrs : rm.slots = ms)
    (hframes : rm.frames + 1 ≤ R.frames) (hlocals : W9 + (maxL + 11) + rm.locals ≤ R.locals)
    (hws : ∀ w ∈ ws, ∀ a' U, s.WarmedH U.vm → w.before a' U = true) (hcode : Cond.codeWith y bytes maxL ret hh ∈ ws) (hinit : ∀ a' U, s.WarmedH U.vm → (Cond.initialized y.cls).before a' U = true) :
    vx_Back l R p e below s sargs y len W9 (PreOf R mc ms Pc) (PostOf Qc mc ms free) (vx_Post XC mc ms free) := by
  intro m meth c A g ig mk a X hg hsize hdg hW hn hp
  have h1 : (headSpec ws rm).pre.before a A.U = true := atoms_intro fun w hw => hws w hw _ _ X.warmed
  have h2 : (Cond.codeWith y bytes maxL ret hh).before a A.U = true := hws _ hcode _ _ X.warmed
  have h3 : (Cond.initialized y.cls).before a A.U = true := hinit _ _ X.warmed
  have h4 : A.cells + (headSpec ws rm).room.cells ≤ R.cells := by rw [show (headSpec ws rm).room.cells = mc from hrc]; exact hp.1
  have h5 : A.slots + (headSpec ws rm).room.slots ≤ R.slots := by rw [show (headSpec ws rm).room.slots = ms from hrs]; exact hp.2.1
  have hPc : Pc a (A.U.calling g mk a) := hblind _ _ _ _ hp.2.2
  obtain ⟨U, Ls, c0, s0⟩ := A
  dsimp only [Pt.U, Pt.locs, Pt.cells, Pt.slots] at h1 h2 h3 h4 h5 X hn hPc ⊢
  obtain ⟨m9, methY, cY, hn9, hmY, hcY, -, hlY, -⟩ := Cond.codeWith_spec h2
  cases Option.some.inj (hn9.symm.trans hn)
  obtain ⟨kY, hkY, -⟩ := className_of_methodNamed hn
  have hinitY : kY.init = .initialized := Cond.initialized_spec (findClass_of_methodNamed hn) hkY h3
  have h : At U g.method c below := by rw [hg]; exact X.here
  have hlocals9 : W9 + (maxL + 11) + (headSpec ws rm).room.locals ≤ R.locals := hlocals
  have happ : (headSpec ws rm).appliesLoose y e.platform (U.calling g mk a) = true :=
    Spec.appliesLoose_calling (g := g) h hdg hn hkY hinitY
      (X.room_calling (g := g) (R' := (headSpec ws rm).room) hsize hmY hcY hframes (by rw [hlY]; omega) h4 h5) h1
  obtain ⟨mid, hmid⟩ := h.above
  have hfr : (U.setTop g).frames = (.java g :: mid) ++ below := by rw [State.frames_setTop' g h.top, hmid]; rfl
  obtain ⟨o, s₂, hsteps, -, hend, hq⟩ := Steps.callFree hM p X.admits X.cas X.clock (acts := []) hfr happ hPc trivial
  have hq' : vx_Q Qc XC mc ms free a (U.calling g mk a) o s₂ := hq
  rw [State.frames_setTop' g h.top] at hend
  obtain ⟨g₀, hg0⟩ := Option.isSome_iff_exists.mp h.top
  obtain ⟨r, hr⟩ := State.topJava?_eq_some.mp hg0
  have hr' : (({ U with heap := s₂.heap, slotsUsed := s₂.slotsUsed } : State).setVm s₂.vm).frames = .java g₀ :: r := hr
  rcases hq' with ⟨hqc, L, hfe, hL⟩ | ⟨q, rfl, E, ce, L, hx, hce, hcv, hcl, hW₂, hsm, hL⟩
  · obtain ⟨⟨v, rfl⟩, hW₂, e2, q2, q3, q4, q5, q6⟩ := id hfe
    have e3 : s₂ = ({ (U.calling g mk a).setFrames s₂.frames with heap := s₂.heap, slotsUsed := s₂.slotsUsed } : State).setVm s₂.vm := by
      have : s₂ = ({ s₂ with vm := (U.calling g mk a).vm } : State).setVm s₂.vm := rfl
      rw [e2] at this
      exact this
    obtain ⟨c₂, i₂, len₂, hc₂, hd₂, hf₂⟩ := hend
    have hW' : U.WarmedH s₂.vm := hW₂
    have hcc : c₂ = c := by
      have h1 : s₂.code? g.method = U.code? g.method := by
        rw [State.code?_eq, State.code?_eq, hW'.alike.method?]
      exact Option.some.inj (hc₂.symm.trans (h1.trans h.code))
    subst hcc
    have hlen : len₂ = len := by rw [hdg] at hd₂; cases hd₂; rfl
    subst hlen
    have hs₂ : s₂ = (({ U with heap := s₂.heap, slotsUsed := s₂.slotsUsed } : State).setVm s₂.vm).setTop { g with pc := g.pc + len₂, stack := v.toList ++ g.stack } := by
      refine e3.trans ?_
      rw [hf₂, State.calling_eq h.top, State.setFrames_setFrames, State.setTop_of_frames _ hr', hr]
      rfl
    have hsame : U.sameButNew ({ U with heap := s₂.heap, slotsUsed := s₂.slotsUsed } : State) L mc ms := by
      refine ⟨?_, q2, q3, q4, q5, q6⟩
      obtain ⟨t, ht, -⟩ := State.frames_cons hr
      show ({ U with heap := s₂.heap, slotsUsed := s₂.slotsUsed } : State) = { U.setFrames U.frames with heap := s₂.heap, slotsUsed := s₂.slotsUsed }
      rw [State.setFrames_self ht]
    subst hg
    refine Or.inl ⟨v, ⟨(({ U with heap := s₂.heap, slotsUsed := s₂.slotsUsed } : State).setVm s₂.vm), Ls ++ L, c0 + mc, s0 + ms⟩,
      ⟨X.admits, X.cas, X.clock, X.frames, X.room, X.hears, X.method, X.code, (X.here.setHeapUsed s₂.heap s₂.slotsUsed).setVm hW'.alike, X.tail, State.WarmedH.trans X.warmed hW', X.limits, X.bytes, X.same.trans (hsame.setVm s.vm)⟩,
      ⟨g, mk, s₂, L, rfl, rfl, hqc, rfl, hL, rfl, rfl⟩, ?_⟩
    show Steps p.tables e below _ ((({ U with heap := s₂.heap, slotsUsed := s₂.slotsUsed } : State).setVm s₂.vm).setTop { g with pc := g.pc + len₂, stack := v.toList ++ g.stack })
    rw [← hs₂]
    exact hsteps
  · obtain ⟨e2, q2, q3, q4, q5, q6⟩ := id hsm
    have e3 : s₂ = ({ (U.calling g mk a).setFrames s₂.frames with heap := s₂.heap, slotsUsed := s₂.slotsUsed } : State).setVm s₂.vm := by
      have : s₂ = ({ s₂ with vm := (U.calling g mk a).vm } : State).setVm s₂.vm := rfl
      rw [e2] at this
      exact this
    have hf₂ : s₂.frames = .throwing q :: .java g :: U.frames.tail := hend
    have hW' : U.WarmedH s₂.vm := hW₂
    have hs₂ : s₂ = ((({ U with heap := s₂.heap, slotsUsed := s₂.slotsUsed } : State).setVm s₂.vm).setTop g).pushFrame (.throwing q) := by
      refine e3.trans ?_
      rw [hf₂, State.calling_eq h.top, State.setFrames_setFrames, State.pushFrame, State.frames_setTop _ hr', State.setTop_of_frames _ hr', State.setFrames_setFrames, hr]
      rfl
    have hsame : U.sameButNew ({ U with heap := s₂.heap, slotsUsed := s₂.slotsUsed } : State) L mc ms := by
      refine ⟨?_, q2, q3, q4, q5, q6⟩
      obtain ⟨t, ht, -⟩ := State.frames_cons hr
      show ({ U with heap := s₂.heap, slotsUsed := s₂.slotsUsed } : State) = { U.setFrames U.frames with heap := s₂.heap, slotsUsed := s₂.slotsUsed }
      rw [State.setFrames_self ht]
    subst hg
    refine Or.inr ⟨q, ⟨(({ U with heap := s₂.heap, slotsUsed := s₂.slotsUsed } : State).setVm s₂.vm), Ls ++ L, c0 + mc, s0 + ms⟩,
      ⟨X.admits, X.cas, X.clock, X.frames, X.room, X.hears, X.method, X.code, (X.here.setHeapUsed s₂.heap s₂.slotsUsed).setVm hW'.alike, X.tail, State.WarmedH.trans X.warmed hW', X.limits, X.bytes, X.same.trans (hsame.setVm s.vm)⟩,
      ⟨g, mk, s₂, L, E, ce, rfl, rfl, hx, hce, hcv, hcl, rfl, hL, rfl, rfl⟩, ?_⟩
    show Steps p.tables e below _ (((({ U with heap := s₂.heap, slotsUsed := s₂.slotsUsed } : State).setVm s₂.vm).setTop g).pushFrame (.throwing q))
    rw [← hs₂]
    exact hsteps
end
variable {p : Program} {l : Launch} {e : Env} {R : Room} {s : State} {m : MethodId} {args : Array Value} {below : List Frame} {meth : Method} {c : Code} {T : State} {H : Heap} {locs : List Loc} {cells slots : Nat}
theorem vx_callVX (X : Stand p l e R s m args below meth c T locs cells slots) (hexec : p.tables.exec = Jvm.exec) {own C : String} {index : Nat} {y : MethodName} {bytes : ByteArray} {maxL : Nat} {ret : Option FieldType} {hh : List (Nat × Nat × Nat × Nat)}
    (hown : s.vm.findClass own = some m.cls) (hlink : (Cond.methodLink own index y).before args s = true) (hinst : (Cond.instanceMethod y).before args s = true) (hsel : (Cond.selects C y y).before args s = true)
    (hcode : (Cond.codeWith y bytes maxL ret hh).before args s = true) (hy : y.cls ≠ "java/lang/invoke/MethodHandle" ∧ y.cls ≠ "java/lang/invoke/VarHandle")
    {W9 : Nat} {Pre : Pt → Array Value → Prop} {Post : Pt → Array Value → Option Value → Pt → Prop} {PostX : Pt → Array Value → Addr → Pt → Prop} (hK : vx_Back l R p e below s args y 3 W9 Pre Post PostX)
    {b : Addr} {cellB : Cell} (hcell : T.heap[b]? = some cellB) (hobj : cellB.vm.isStatics = false) (hcls : s.vm.findClass C = some cellB.cls)
    {g : JFrame} (hg : g.method = m) (hsize : g.locals.size = c.maxLocals) {argsL rest : List Value} (hlen : ∀ sig, parseMethodDescriptor y.desc = some sig → argsL.length = sig.parameters.length)
    (hstack : g.stack = argsL.reverse ++ .ref b :: rest) (hW : 2 * g.monitorRoom + (rest.map fun v => v.category).sum ≤ W9) (hdg : decode c.code g.pc = .ok (.invokevirtual index, 3))
    (hpre : ∀ vm₁, s.WarmedH vm₁ → Pre ⟨T.setVm vm₁, locs, cells, slots⟩ (Value.ref b :: argsL).toArray) :
    (∃ (v : Option Value) (vm₁ : Vm) (B : Pt), s.WarmedH vm₁ ∧ Stand p l e R s m args below meth c B.U B.locs B.cells B.slots ∧ Post ⟨T.setVm vm₁, locs, cells, slots⟩ (Value.ref b :: argsL).toArray v B ∧
      ∀ target, Steps p.tables e below (B.U.setTop { g with pc := g.pc + 3, stack := v.toList ++ rest }) target → Steps p.tables e below (T.setTop g) target) ∨
    (∃ (q : Addr) (vm₁ : Vm) (B : Pt), s.WarmedH vm₁ ∧ Stand p l e R s m args below meth c B.U B.locs B.cells B.slots ∧ PostX ⟨T.setVm vm₁, locs, cells, slots⟩ (Value.ref b :: argsL).toArray q B ∧
      Steps p.tables e below (T.setTop g) ((B.U.setTop { g with stack := rest }).pushFrame (.throwing q))) := by
  obtain ⟨mk, methM, hnamed, hmethM, hstM, habM⟩ := Cond.instanceMethod_spec hinst
  obtain ⟨m8, methM', cM, hn8, hmethM', -, -, -, -, -, -, hsigM⟩ := Cond.codeWith_spec hcode
  cases Option.some.inj (hn8.symm.trans hnamed)
  cases hmethM.symm.trans hmethM'
  obtain ⟨c2, r2, m2, q1, q2, q3, q4, kP, hkP, hkPi⟩ := Cond.selects_spec hsel
  cases hcls.symm.trans q1
  cases (State.methodFound?_of_named hnamed hy).symm.trans q2
  cases hnamed.symm.trans q3
  have hselP : selectMethod e.platform s.vm cellB.cls mk = .method mk := by rw [Launch.admits_selectMethod X.admits]; exact q4
  obtain ⟨vm₁, X₁, hstep₁⟩ := X.invokevirtual hexec hown hlink hnamed hmethM hstM hkP hkPi hy (a := b) (cell := cellB) hcell
    (fun z h => by rw [h] at hobj; cases hobj) hselP hmethM habM hkP hkPi (g := g) hg (argsL := argsL) (rest := rest) (hlen _ hsigM) hstack hdg
  rcases hK m meth c ⟨T.setVm vm₁, locs, cells, slots⟩ { g with stack := rest } (.invokevirtual index) mk (Value.ref b :: argsL).toArray X₁ hg hsize hdg hW (X₁.named hnamed) (hpre vm₁ X₁.warmed) with ⟨v, B, X', hpost, hsteps⟩ | ⟨q, B, X', hpost, hsteps⟩
  · exact Or.inl ⟨v, vm₁, B, X₁.warmed, X', hpost, fun target h => hstep₁ _ fun acts => by rw [doInvoke_state]; exact hsteps.trans h⟩
  · exact Or.inr ⟨q, vm₁, B, X₁.warmed, X', hpost, hstep₁ _ fun acts => by rw [doInvoke_state]; exact hsteps⟩
theorem vx_callSX (X : Stand p l e R s m args below meth c T locs cells slots) (hexec : p.tables.exec = Jvm.exec) {own : String} {index : Nat} {y : MethodName} {bytes : ByteArray} {maxL : Nat} {ret : Option FieldType} {hh : List (Nat × Nat × Nat × Nat)}
    (hown : s.vm.findClass own = some m.cls) (hlink : (Cond.methodLink own index y).before args s = true) (hstat : (Cond.static y).before args s = true) (hinit : (Cond.initialized y.cls).before args s = true)
    (hcode : (Cond.codeWith y bytes maxL ret hh).before args s = true) (hy : y.cls ≠ "java/lang/invoke/MethodHandle" ∧ y.cls ≠ "java/lang/invoke/VarHandle")
    {W9 : Nat} {Pre : Pt → Array Value → Prop} {Post : Pt → Array Value → Option Value → Pt → Prop} {PostX : Pt → Array Value → Addr → Pt → Prop} (hK : vx_Back l R p e below s args y 3 W9 Pre Post PostX)
    {g : JFrame} (hg : g.method = m) (hsize : g.locals.size = c.maxLocals) {argsL rest : List Value} (hlen : ∀ sig, parseMethodDescriptor y.desc = some sig → argsL.length = sig.parameters.length)
    (hstack : g.stack = argsL.reverse ++ rest) (hW : 2 * g.monitorRoom + (rest.map fun v => v.category).sum ≤ W9) (hdg : decode c.code g.pc = .ok (.invokestatic index, 3))
    (hpre : ∀ vm₁, s.WarmedH vm₁ → Pre ⟨T.setVm vm₁, locs, cells, slots⟩ argsL.toArray) :
    (∃ (v : Option Value) (vm₁ : Vm) (B : Pt), s.WarmedH vm₁ ∧ Stand p l e R s m args below meth c B.U B.locs B.cells B.slots ∧ Post ⟨T.setVm vm₁, locs, cells, slots⟩ argsL.toArray v B ∧
      ∀ target, Steps p.tables e below (B.U.setTop { g with pc := g.pc + 3, stack := v.toList ++ rest }) target → Steps p.tables e below (T.setTop g) target) ∨
    (∃ (q : Addr) (vm₁ : Vm) (B : Pt), s.WarmedH vm₁ ∧ Stand p l e R s m args below meth c B.U B.locs B.cells B.slots ∧ PostX ⟨T.setVm vm₁, locs, cells, slots⟩ argsL.toArray q B ∧
      Steps p.tables e below (T.setTop g) ((B.U.setTop { g with stack := rest }).pushFrame (.throwing q))) := by
  obtain ⟨mk, methM, cM, hnamed, hmethM, -, -, -, -, -, -, hsigM⟩ := Cond.codeWith_spec hcode
  have hstatic : methM.isStatic = true := Cond.static_spec hnamed hmethM hstat
  obtain ⟨kP, hkP, -⟩ := className_of_methodNamed hnamed
  have hinitP : kP.init = .initialized := Cond.initialized_spec (findClass_of_methodNamed hnamed) hkP hinit
  obtain ⟨vm₁, X₁, hstep₁⟩ := X.invokestatic hexec hown hlink hnamed hmethM hstatic hkP hinitP hy (g := g) hg (argsL := argsL) (rest := rest) (hlen _ hsigM) hstack hdg
  rcases hK m meth c ⟨T.setVm vm₁, locs, cells, slots⟩ { g with stack := rest } (.invokestatic index) mk argsL.toArray X₁ hg hsize hdg hW (X₁.named hnamed) (hpre vm₁ X₁.warmed) with ⟨v, B, X', hpost, hsteps⟩ | ⟨q, B, X', hpost, hsteps⟩
  · exact Or.inl ⟨v, vm₁, B, X₁.warmed, X', hpost, fun target h => hstep₁ _ fun acts => by rw [doInvoke_state]; exact hsteps.trans h⟩
  · exact Or.inr ⟨q, vm₁, B, X₁.warmed, X', hpost, hstep₁ _ fun acts => by rw [doInvoke_state]; exact hsteps⟩
theorem vx_callVW (X : Stand p l e R s m args below meth c T locs cells slots) (hexec : p.tables.exec = Jvm.exec) {own C : String} {index : Nat} {y : MethodName} {bytes : ByteArray} {maxL : Nat} {ret : Option FieldType} {hh : List (Nat × Nat × Nat × Nat)}
    (hown : s.vm.findClass own = some m.cls) (hlink : (Cond.methodLink own index y).before args s = true) (hinst : (Cond.instanceMethod y).before args s = true) (hsel : (Cond.selects C y y).before args s = true)
    (hcode : (Cond.codeWith y bytes maxL ret hh).before args s = true) (hy : y.cls ≠ "java/lang/invoke/MethodHandle" ∧ y.cls ≠ "java/lang/invoke/VarHandle")
    {W9 : Nat} {Pre : Pt → Array Value → Prop} {Post : Pt → Array Value → Option Value → Pt → Prop} (hK : Back l R p e below s args y 3 W9 Pre Post)
    {b : Addr} {cellB : Cell} (hcell : T.heap[b]? = some cellB) (hobj : cellB.vm.isStatics = false) (hcls : s.vm.findClass C = some cellB.cls)
    {g : JFrame} (hg : g.method = m) (hsize : g.locals.size = c.maxLocals) {argsL rest : List Value} (hlen : ∀ sig, parseMethodDescriptor y.desc = some sig → argsL.length = sig.parameters.length)
    (hstack : g.stack = argsL.reverse ++ .ref b :: rest) (hW : 2 * g.monitorRoom + (rest.map fun v => v.category).sum ≤ W9) (hdg : decode c.code g.pc = .ok (.invokevirtual index, 3))
    (hpre : ∀ vm₁, s.WarmedH vm₁ → Pre ⟨T.setVm vm₁, locs, cells, slots⟩ (Value.ref b :: argsL).toArray) :
    ∃ (v : Option Value) (vm₁ : Vm) (B : Pt), s.WarmedH vm₁ ∧ Stand p l e R s m args below meth c B.U B.locs B.cells B.slots ∧ Post ⟨T.setVm vm₁, locs, cells, slots⟩ (Value.ref b :: argsL).toArray v B ∧
      ∀ target, Steps p.tables e below (B.U.setTop { g with pc := g.pc + 3, stack := v.toList ++ rest }) target → Steps p.tables e below (T.setTop g) target := by
  obtain ⟨mk, methM, hnamed, hmethM, hstM, habM⟩ := Cond.instanceMethod_spec hinst
  obtain ⟨m8, methM', cM, hn8, hmethM', -, -, -, -, -, -, hsigM⟩ := Cond.codeWith_spec hcode
  cases Option.some.inj (hn8.symm.trans hnamed)
  cases hmethM.symm.trans hmethM'
  obtain ⟨c2, r2, m2, q1, q2, q3, q4, kP, hkP, hkPi⟩ := Cond.selects_spec hsel
  cases hcls.symm.trans q1
  cases (State.methodFound?_of_named hnamed hy).symm.trans q2
  cases hnamed.symm.trans q3
  have hselP : selectMethod e.platform s.vm cellB.cls mk = .method mk := by rw [Launch.admits_selectMethod X.admits]; exact q4
  obtain ⟨vm₁, X₁, hstep₁⟩ := X.invokevirtual hexec hown hlink hnamed hmethM hstM hkP hkPi hy (a := b) (cell := cellB) hcell
    (fun z h => by rw [h] at hobj; cases hobj) hselP hmethM habM hkP hkPi (g := g) hg (argsL := argsL) (rest := rest) (hlen _ hsigM) hstack hdg
  obtain ⟨v, B, X', hpost, hsteps⟩ := hK m meth c ⟨T.setVm vm₁, locs, cells, slots⟩ { g with stack := rest } (.invokevirtual index) mk (Value.ref b :: argsL).toArray X₁ hg hsize hdg hW (X₁.named hnamed) (hpre vm₁ X₁.warmed)
  exact ⟨v, vm₁, B, X₁.warmed, X', hpost, fun target h => hstep₁ _ fun acts => by rw [doInvoke_state]; exact hsteps.trans h⟩
abbrev vx_CVW (R : Room) (s : State) (args : Array Value) (own C : String) (index : Nat) (y : MethodName) (bytes : ByteArray) (maxL : Nat) (ret : Option FieldType) (hh : List (Nat × Nat × Nat × Nat)) (ws : List Cond) (rm : Room) (mc ms n : Nat) : Prop :=
  (rm.cells = mc ∧ rm.slots = ms ∧ rm.frames + 1 ≤ R.frames ∧ 8 + (maxL + 11) + rm.locals ≤ R.locals ∧ (∀ w ∈ ws, ∀ (a' : Array Value) (U : State), s.WarmedH U.vm → w.before a' U = true) ∧ Cond.codeWith y bytes maxL ret hh ∈ ws) ∧
  (Cond.codeWith y bytes maxL ret hh).before args s = true ∧ (Cond.initialized y.cls).before args s = true ∧ (y.cls ≠ "java/lang/invoke/MethodHandle" ∧ y.cls ≠ "java/lang/invoke/VarHandle") ∧
  (∀ sig, parseMethodDescriptor y.desc = some sig → n = sig.parameters.length) ∧ (Cond.methodLink own index y).before args s = true ∧ (Cond.instanceMethod y).before args s = true ∧ (Cond.selects C y y).before args s = true
theorem vx_cwVW {own C : String} {index maxL mc ms : Nat} {y : MethodName} {bytes : ByteArray} {ret : Option FieldType} {hh : List (Nat × Nat × Nat × Nat)} {Ts ws ws' : List Cond} {rm : Room} (n : Nat) (ht : ∀ w ∈ Ts, w.before args s = true) (hT : GoodIn Ts (wsV own index C y ws)) (hw : ws = Cond.codeWith y bytes maxL ret hh :: ws') (hrc : rm.cells = mc) (hrs : rm.slots = ms)
    (hd : y.cls = C ∧ y.cls ≠ "java/lang/invoke/MethodHandle" ∧ y.cls ≠ "java/lang/invoke/VarHandle" ∧ (parseMethodDescriptor y.desc).map (fun d => d.parameters.length) = some n) (hR : rm.frames + 1 ≤ R.frames ∧ 8 + (maxL + 11) + rm.locals ≤ R.locals) :
    vx_CVW R s args own C index y bytes maxL ret hh ws rm mc ms n := by
  obtain ⟨hC, hd⟩ := hd
  subst hC
  have ok : ∀ w ∈ wsV own index y.cls y ws, w.before args s = true := fun w h => ht w (hT w h).1
  have hG : GoodIn Ts ws := fun w h => hT w (by unfold wsV; exact List.mem_append_right _ h)
  have hc : Cond.codeWith y bytes maxL ret hh ∈ ws := by rw [hw]; exact List.mem_cons_self
  refine ⟨⟨hrc, hrs, hR.1, hR.2, pay_in ht hG, hc⟩, ht _ (hG _ hc).1, ok _ (by simp [wsV]), ⟨hd.1, hd.2.1⟩, fun sig h => ?_, ok _ (by simp [wsV]), ok _ (by simp [wsV]), ok _ (by simp [wsV])⟩
  have h2 := hd.2.2
  rw [h] at h2
  exact (Option.some.inj h2).symm
theorem vx_runVW {y : MethodName} {bytes cc : ByteArray} {maxL nL mc ms n index : Nat} {ret : Option FieldType} {hh : List (Nat × Nat × Nat × Nat)} {ws : List Cond} {rm : Room} {Pc : Array Value → State → Prop} {Qc : Array Value → State → Outcome → State → Prop} {free : Addr → Prop} {Ts : List Cond} {own C : String} {b : Addr} {As rest : List Value} {g : JFrame}
    (S : CallFix p m c cc nL s args Ts own) (hM : Met l y ws rm Pc Qc mc ms free) (cw : vx_CVW R s args own C index y bytes maxL ret hh ws rm mc ms n) (hp : PreV s H C b Pc As)
    (hg : g.method = m) (hn : As.length = n) (hsize : g.locals.size = nL) (hstack : g.stack = As.reverse ++ .ref b :: rest) (hW : 2 * g.monitorRoom + (rest.map fun v => v.category).sum ≤ 8) (hdg : decode cc g.pc = .ok (.invokevirtual index, 3)) (hf : cells + mc ≤ R.cells ∧ slots + ms ≤ R.slots) :
    va_Run p l e R s m args below meth c H locs cells slots mc ms g rest (Qc (Value.ref b :: As).toArray) free := by
  obtain ⟨⟨hrc, hrs, hfr, hlo, hws, hcw⟩, hcode, hini, hy, hlen, hl, hin, hse⟩ := cw
  have hK : Back l R p e below s args y 3 8 (PreOf R mc ms Pc) (PostOf Qc mc ms free) := va_backW (hh := hh) (bytes := bytes) (maxL := maxL) (ret := ret) hM hp.1 hrc hrs hfr hlo hws hcw (fun a' U hW => word_at hW (Or.inl (by first | rfl | simp [Cond.onTables, Cond.keeps, Cond.steady])) hini)
  obtain ⟨hx, hb, hml, ho, -⟩ := S
  obtain ⟨-, ⟨cellB, hcB, hoB, hclB⟩, hPc⟩ := hp
  intro T hT X
  obtain ⟨v, vm₁, ⟨U', l2, c2, s2⟩, hW₁, X', ⟨g', mk, t, L, e1, e2, hq, h1, hL, h2, h3⟩, st⟩ := vx_callVW X hx (C := C) (hh := hh) (bytes := bytes) (maxL := maxL) (ret := ret) ho hl hin hse hcode hy hK (by rw [hT]; exact hcB) hoB hclB hg (hsize.trans hml.symm) (argsL := As) (rest := rest) (fun sig h => hn.trans (hlen sig h)) hstack hW (by rw [hb]; exact hdg)
    (fun vm₁ hW₁ => ⟨hf.1, hf.2, hPc (T.setVm vm₁) hT hW₁⟩)
  dsimp only [Pt.U, Pt.locs, Pt.cells, Pt.slots] at X' e1 e2 h1 h2 h3 st
  subst h1; subst h2; subst h3
  exact ⟨v, (T.setVm vm₁).calling g' mk (Value.ref b :: As).toArray, t, U', L, hT, X', hL, e1, e2, hq, st⟩
section
variable {y : MethodName} {bytes cc : ByteArray} {maxL nL mc ms n index : Nat} {ret : Option FieldType} {ws : List Cond} {rm : Room} {Pc : Array Value → State → Prop} {Qc : Array Value → State → Outcome → State → Prop} {XC : String → State → State → Prop} {free : Addr → Prop} {Ts : List Cond} {own C : String} {b : Addr} {As rest : List Value} {g : JFrame}
theorem vx_runVX {hh : List (Nat × Nat × Nat × Nat)} (S : CallFix p m c cc nL s args Ts own) (hM : vx_Met l y ws rm Pc Qc XC mc ms free) (cw : vx_CVW R s args own C index y bytes maxL ret hh ws rm mc ms n) (hp : PreV s H C b Pc As)
    (hg : g.method = m) (hn : As.length = n) (hsize : g.locals.size = nL) (hstack : g.stack = As.reverse ++ .ref b :: rest) (hW : 2 * g.monitorRoom + (rest.map fun v => v.category).sum ≤ 8) (hdg : decode cc g.pc = .ok (.invokevirtual index, 3)) (hf : cells + mc ≤ R.cells ∧ slots + ms ≤ R.slots) :
    vx_Run p l e R s m args below meth c H locs cells slots mc ms g rest (Qc (Value.ref b :: As).toArray) XC free := by
  obtain ⟨⟨hrc, hrs, hfr, hlo, hws, hcw⟩, hcode, hini, hy, hlen, hl, hin, hse⟩ := cw
  have hK : vx_Back l R p e below s args y 3 8 (PreOf R mc ms Pc) (PostOf Qc mc ms free) (vx_Post XC mc ms free) := vx_backW (hh := hh) (bytes := bytes) (maxL := maxL) (ret := ret) hM hp.1 hrc hrs hfr hlo hws hcw (fun a' U hW => word_at hW (Or.inl (by first | rfl | simp [Cond.onTables, Cond.keeps, Cond.steady])) hini)
  obtain ⟨hx, hb, hml, ho, -⟩ := S
  obtain ⟨-, ⟨cellB, hcB, hoB, hclB⟩, hPc⟩ := hp
  intro T hT X
  rcases vx_callVX X hx (C := C) (hh := hh) (bytes := bytes) (maxL := maxL) (ret := ret) ho hl hin hse hcode hy hK (by rw [hT]; exact hcB) hoB hclB hg (hsize.trans hml.symm) (argsL := As) (rest := rest) (fun sig h => hn.trans (hlen sig h)) hstack hW (by rw [hb]; exact hdg)
    (fun vm₁ hW₁ => ⟨hf.1, hf.2, hPc (T.setVm vm₁) hT hW₁⟩) with ⟨v, vm₁, ⟨U', l2, c2, s2⟩, hW₁, X', ⟨g', mk, t, L, e1, e2, hq, h1, hL, h2, h3⟩, st⟩ | ⟨q, vm₁, ⟨U', l2, c2, s2⟩, hW₁, X', ⟨g', mk, t, L, E, ce, e1, e2, hq, hce, hcv, hcl, h1, hL, h2, h3⟩, st⟩
  · dsimp only [Pt.U, Pt.locs, Pt.cells, Pt.slots] at X' e1 e2 h1 h2 h3 st
    subst h1; subst h2; subst h3
    exact Or.inl ⟨v, (T.setVm vm₁).calling g' mk (Value.ref b :: As).toArray, t, U', L, hT, X', hL, e1, e2, hq, st⟩
  · dsimp only [Pt.U, Pt.locs, Pt.cells, Pt.slots] at X' e1 e2 h1 h2 h3 st hcl
    subst h1; subst h2; subst h3
    exact Or.inr ⟨q, (T.setVm vm₁).calling g' mk (Value.ref b :: As).toArray, t, U', L, E, ce, hT, X', hL, e1, e2, hq, hce, hcv, vx_cls hW₁ hcl, st⟩
theorem vx_runSX {hh : List (Nat × Nat × Nat × Nat)} (S : CallFix p m c cc nL s args Ts own) (hM : vx_Met l y ws rm Pc Qc XC mc ms free) (cw : vx_CSW R s args own index y bytes maxL ret hh ws rm mc ms n) (hp : PreS s H Pc As)
    (hg : g.method = m) (hn : As.length = n) (hsize : g.locals.size = nL) (hstack : g.stack = As.reverse ++ rest) (hW : 2 * g.monitorRoom + (rest.map fun v => v.category).sum ≤ 8) (hdg : decode cc g.pc = .ok (.invokestatic index, 3)) (hf : cells + mc ≤ R.cells ∧ slots + ms ≤ R.slots) :
    vx_Run p l e R s m args below meth c H locs cells slots mc ms g rest (Qc As.toArray) XC free := by
  obtain ⟨⟨hrc, hrs, hfr, hlo, hws, hcw⟩, hcode, hini, hy, hlen, hl, hstt⟩ := cw
  have hK : vx_Back l R p e below s args y 3 8 (PreOf R mc ms Pc) (PostOf Qc mc ms free) (vx_Post XC mc ms free) := vx_backW (hh := hh) (bytes := bytes) (maxL := maxL) (ret := ret) hM hp.1 hrc hrs hfr hlo hws hcw (fun a' U hW => word_at hW (Or.inl (by first | rfl | simp [Cond.onTables, Cond.keeps, Cond.steady])) hini)
  obtain ⟨hx, hb, hml, ho, -⟩ := S
  intro T hT X
  rcases vx_callSX X hx (hh := hh) (bytes := bytes) (maxL := maxL) (ret := ret) ho hl hstt hini hcode hy hK hg (hsize.trans hml.symm) (argsL := As) (rest := rest) (fun sig h => hn.trans (hlen sig h)) hstack hW (by rw [hb]; exact hdg)
    (fun vm₁ hW₁ => ⟨hf.1, hf.2, hp.2 (T.setVm vm₁) hT hW₁⟩) with ⟨v, vm₁, ⟨U', l2, c2, s2⟩, hW₁, X', ⟨g', mk, t, L, e1, e2, hq, h1, hL, h2, h3⟩, st⟩ | ⟨q, vm₁, ⟨U', l2, c2, s2⟩, hW₁, X', ⟨g', mk, t, L, E, ce, e1, e2, hq, hce, hcv, hcl, h1, hL, h2, h3⟩, st⟩
  · dsimp only [Pt.U, Pt.locs, Pt.cells, Pt.slots] at X' e1 e2 h1 h2 h3 st
    subst h1; subst h2; subst h3
    exact Or.inl ⟨v, (T.setVm vm₁).calling g' mk As.toArray, t, U', L, hT, X', hL, e1, e2, hq, st⟩
  · dsimp only [Pt.U, Pt.locs, Pt.cells, Pt.slots] at X' e1 e2 h1 h2 h3 st hcl
    subst h1; subst h2; subst h3
    exact Or.inr ⟨q, (T.setVm vm₁).calling g' mk As.toArray, t, U', L, E, ce, hT, X', hL, e1, e2, hq, hce, hcv, vx_cls hW₁ hcl, st⟩
end
end VXH
theorem vx_ofWH {l : Launch} {y : MethodName} {ws ws' : List Cond} {rm : Room} {Pc : Array Value → State → Prop} {Qc : Array Value → State → Outcome → State → Prop} {XC : String → State → State → Prop} {mc ms : Nat} {free : Addr → Prop} {cc : ByteArray} {maxL : Nat} {ret : Option FieldType} {hh : List (Nat × Nat × Nat × Nat)}
    (hy : plainName y.cls = true) (hw : ws = Cond.codeWith y cc maxL ret hh :: ws')
    (body : ∀ p e s m args below meth c s₁, BodyLoose p l y (headSpec ws rm) cc maxL ret e s m args below meth c s₁ → c.maxLocals = maxL → Pc args s →
      W p l e (headSpec ws rm).room s m args below meth c s.heap [] 0 0 (vx_MQ below Qc XC args s mc ms free) (entryFrame m args maxL)) : vx_Met l y ws rm Pc Qc XC mc ms free := by
  refine MetFree.of_bodyS (code := cc) (maxLocals := maxL) (ret := ret) hy ?_ ?_
  · intro args s m h hn
    obtain ⟨m9, meth, c, hn9, h1, h2, h3, h4, -, h5, h6, -⟩ := Cond.codeWith_spec (atoms_spec (ws := ws) h _ (by rw [hw]; exact List.mem_cons_self))
    cases hn.symm.trans hn9
    exact ⟨meth, c, h1, h2, h3, h4, h5, h6⟩
  · intro p e s m args below meth c s₁ B hml hP _
    have hh0 : s₁.heap = s.heap := by rw [B.state]; rfl
    obtain ⟨t, a1, o, b1, b2, b3⟩ := body p e s m args below meth c s₁ B hml hP s₁ hh0 (Stand.of_body B)
    exact ⟨t, o, a1, b1, b2, b3⟩
/-! ===== END ===== -/
end
section
def RX0 : String := "UserCore"
def TX0 : u_T := fun k => match k with
  | 0 => ("UserCore", "words", "[I", true)
  | 1 => ("UserCore", "rights", "[I", true)
  | 2 => ("UserCore", "registers", "[I", true)
  | 3 => ("UserCore", "pc", "I", false)
  | 4 => ("UserCore", "trap", "I", false)
  | 5 => ("UserCore", "value", "I", false)
  | _ => ("UserCore", "done", "I", false)
def tyX0 : Nat → FieldType := fun k => match k with
  | 0 => .array .int
  | 1 => .array .int
  | 2 => .array .int
  | 3 => .int
  | 4 => .int
  | 5 => .int
  | _ => .int
theorem nmX0 : ∀ a, a < 7 → ∀ b, b < 7 → a ≠ b → (TX0 a).2.1 ≠ (TX0 b).2.1 := by decide +kernel
theorem tyX0_ok : ∀ k, k < 7 → parseFieldDescriptor (TX0 k).2.2.1 = some (tyX0 k) := by decide +kernel
def RX1 : String := "UserCoreModel"
def TX1 : u_T := fun k => match k with
  | 0 => ("UserCoreModel", "thrown", "I", false)
  | 1 => ("UserCoreModel", "memory", "[B", true)
  | 2 => ("UserCoreModel", "rights", "[I", true)
  | 3 => ("UserCoreModel", "registers", "[I", true)
  | 4 => ("UserCoreModel", "pc", "I", false)
  | 5 => ("UserCoreModel", "trap", "I", false)
  | 6 => ("UserCoreModel", "value", "I", false)
  | 7 => ("UserCoreModel", "done", "I", false)
  | 8 => ("UserCoreModel", "w", "I", false)
  | 9 => ("UserCoreModel", "fails", "I", false)
  | 10 => ("UserCoreModel", "with", "I", false)
  | _ => ("UserCoreModel", "next", "I", false)
def tyX1 : Nat → FieldType := fun k => match k with
  | 0 => .int
  | 1 => .array .byte
  | 2 => .array .int
  | 3 => .array .int
  | 4 => .int
  | 5 => .int
  | 6 => .int
  | 7 => .int
  | 8 => .int
  | 9 => .int
  | 10 => .int
  | _ => .int
theorem nmX1 : ∀ a, a < 12 → ∀ b, b < 12 → a ≠ b → (TX1 a).2.1 ≠ (TX1 b).2.1 := by decide +kernel
theorem tyX1_ok : ∀ k, k < 12 → parseFieldDescriptor (TX1 k).2.2.1 = some (tyX1 k) := by decide +kernel
def RL : String := "UserCoreLaw"
abbrev cX0_init : ByteArray := prog_1_method_1_code
def yX0_init : MethodName := ⟨RX0, "<init>", "()V"⟩
abbrev cX0_poke : ByteArray := prog_1_method_2_code
def yX0_poke : MethodName := ⟨RX0, "poke", "(IIJ)Z"⟩
abbrev cX0_peek : ByteArray := prog_1_method_3_code
def yX0_peek : MethodName := ⟨RX0, "peek", "(I)I"⟩
abbrev cX0_protect : ByteArray := prog_1_method_4_code
def yX0_protect : MethodName := ⟨RX0, "protect", "(II)Z"⟩
abbrev cX0_set : ByteArray := prog_1_method_5_code
def yX0_set : MethodName := ⟨RX0, "set", "(II)Z"⟩
abbrev cX0_register : ByteArray := prog_1_method_6_code
def yX0_register : MethodName := ⟨RX0, "register", "(I)I"⟩
abbrev cX0_jump : ByteArray := prog_1_method_7_code
def yX0_jump : MethodName := ⟨RX0, "jump", "(I)V"⟩
abbrev cX0_pc : ByteArray := prog_1_method_8_code
def yX0_pc : MethodName := ⟨RX0, "pc", "()I"⟩
abbrev cX0_run : ByteArray := prog_1_method_9_code
def yX0_run : MethodName := ⟨RX0, "run", "(I)I"⟩
abbrev cX0_trap : ByteArray := prog_1_method_10_code
def yX0_trap : MethodName := ⟨RX0, "trap", "()I"⟩
abbrev cX0_value : ByteArray := prog_1_method_11_code
def yX0_value : MethodName := ⟨RX0, "value", "()I"⟩
abbrev cX0_done : ByteArray := prog_1_method_12_code
def yX0_done : MethodName := ⟨RX0, "done", "()I"⟩
abbrev cX0_makeStep : ByteArray := prog_1_method_13_code
def yX0_makeStep : MethodName := ⟨RX0, "makeStep", "()Z"⟩
abbrev cX0_execute : ByteArray := prog_1_method_14_code
def yX0_execute : MethodName := ⟨RX0, "execute", "(I)Z"⟩
abbrev cX0_goToRegister : ByteArray := prog_1_method_15_code
def yX0_goToRegister : MethodName := ⟨RX0, "goToRegister", "(I)Z"⟩
abbrev cX0_branch : ByteArray := prog_1_method_16_code
def yX0_branch : MethodName := ⟨RX0, "branch", "(I)Z"⟩
abbrev cX0_load : ByteArray := prog_1_method_17_code
def yX0_load : MethodName := ⟨RX0, "load", "(I)Z"⟩
abbrev cX0_store : ByteArray := prog_1_method_18_code
def yX0_store : MethodName := ⟨RX0, "store", "(I)Z"⟩
abbrev cX0_computeWithImmediate : ByteArray := prog_1_method_19_code
def yX0_computeWithImmediate : MethodName := ⟨RX0, "computeWithImmediate", "(I)Z"⟩
abbrev cX0_computeWithRegisters : ByteArray := prog_1_method_20_code
def yX0_computeWithRegisters : MethodName := ⟨RX0, "computeWithRegisters", "(I)Z"⟩
abbrev cX0_fence : ByteArray := prog_1_method_21_code
def yX0_fence : MethodName := ⟨RX0, "fence", "(I)Z"⟩
abbrev cX0_callOrBreak : ByteArray := prog_1_method_22_code
def yX0_callOrBreak : MethodName := ⟨RX0, "callOrBreak", "(I)Z"⟩
abbrev cX0_finish : ByteArray := prog_1_method_23_code
def yX0_finish : MethodName := ⟨RX0, "finish", "(II)Z"⟩
abbrev cX0_linkAndGo : ByteArray := prog_1_method_24_code
def yX0_linkAndGo : MethodName := ⟨RX0, "linkAndGo", "(II)Z"⟩
abbrev cX0_refuse : ByteArray := prog_1_method_25_code
def yX0_refuse : MethodName := ⟨RX0, "refuse", "(I)Z"⟩
abbrev cX0_trapWith : ByteArray := prog_1_method_26_code
def yX0_trapWith : MethodName := ⟨RX0, "trapWith", "(II)Z"⟩
abbrev cX0_isRegister : ByteArray := prog_1_method_27_code
def yX0_isRegister : MethodName := ⟨RX0, "isRegister", "(I)Z"⟩
abbrev cX0_putRegister : ByteArray := prog_1_method_28_code
def yX0_putRegister : MethodName := ⟨RX0, "putRegister", "(II)V"⟩
abbrev cX0_registerA : ByteArray := prog_1_method_29_code
def yX0_registerA : MethodName := ⟨RX0, "registerA", "(I)I"⟩
abbrev cX0_registerB : ByteArray := prog_1_method_30_code
def yX0_registerB : MethodName := ⟨RX0, "registerB", "(I)I"⟩
abbrev cX0_isInPages : ByteArray := prog_1_method_31_code
def yX0_isInPages : MethodName := ⟨RX0, "isInPages", "(I)Z"⟩
abbrev cX0_isCrooked : ByteArray := prog_1_method_32_code
def yX0_isCrooked : MethodName := ⟨RX0, "isCrooked", "(II)Z"⟩
abbrev cX0_hasRight : ByteArray := prog_1_method_33_code
def yX0_hasRight : MethodName := ⟨RX0, "hasRight", "(II)Z"⟩
abbrev cX0_bytesFrom : ByteArray := prog_1_method_34_code
def yX0_bytesFrom : MethodName := ⟨RX0, "bytesFrom", "(I)I"⟩
abbrev cX0_putBytes : ByteArray := prog_1_method_35_code
def yX0_putBytes : MethodName := ⟨RX0, "putBytes", "(IIJ)V"⟩
abbrev cX0_unsigned : ByteArray := prog_1_method_36_code
def yX0_unsigned : MethodName := ⟨RX0, "unsigned", "(I)J"⟩
abbrev cX0_compare : ByteArray := prog_1_method_37_code
def yX0_compare : MethodName := ⟨RX0, "compare", "(III)Z"⟩
abbrev cX0_narrow : ByteArray := prog_1_method_38_code
def yX0_narrow : MethodName := ⟨RX0, "narrow", "(II)I"⟩
abbrev cX0_compute : ByteArray := prog_1_method_39_code
def yX0_compute : MethodName := ⟨RX0, "compute", "(III)I"⟩
abbrev cX0_multiplyOrDivide : ByteArray := prog_1_method_40_code
def yX0_multiplyOrDivide : MethodName := ⟨RX0, "multiplyOrDivide", "(III)I"⟩
abbrev cX0_upperHalf : ByteArray := prog_1_method_41_code
def yX0_upperHalf : MethodName := ⟨RX0, "upperHalf", "(J)I"⟩
abbrev cX0_divide : ByteArray := prog_1_method_42_code
def yX0_divide : MethodName := ⟨RX0, "divide", "(III)I"⟩
abbrev cX0_partD : ByteArray := prog_1_method_43_code
def yX0_partD : MethodName := ⟨RX0, "partD", "(I)I"⟩
abbrev cX0_partF : ByteArray := prog_1_method_44_code
def yX0_partF : MethodName := ⟨RX0, "partF", "(I)I"⟩
abbrev cX0_partB : ByteArray := prog_1_method_45_code
def yX0_partB : MethodName := ⟨RX0, "partB", "(I)I"⟩
abbrev cX0_partG : ByteArray := prog_1_method_46_code
def yX0_partG : MethodName := ⟨RX0, "partG", "(I)I"⟩
abbrev cX0_lowImmediate : ByteArray := prog_1_method_47_code
def yX0_lowImmediate : MethodName := ⟨RX0, "lowImmediate", "(I)I"⟩
abbrev cX0_storeImmediate : ByteArray := prog_1_method_48_code
def yX0_storeImmediate : MethodName := ⟨RX0, "storeImmediate", "(I)I"⟩
abbrev cX0_branchImmediate : ByteArray := prog_1_method_49_code
def yX0_branchImmediate : MethodName := ⟨RX0, "branchImmediate", "(I)I"⟩
abbrev cX0_upperImmediate : ByteArray := prog_1_method_50_code
def yX0_upperImmediate : MethodName := ⟨RX0, "upperImmediate", "(I)I"⟩
abbrev cX0_jumpImmediate : ByteArray := prog_1_method_51_code
def yX0_jumpImmediate : MethodName := ⟨RX0, "jumpImmediate", "(I)I"⟩
abbrev cX1_init : ByteArray := prog_3_method_1_code
def yX1_init : MethodName := ⟨RX1, "<init>", "()V"⟩
abbrev cX1_thrown : ByteArray := prog_3_method_2_code
def yX1_thrown : MethodName := ⟨RX1, "thrown", "()I"⟩
abbrev cX1_poke : ByteArray := prog_3_method_3_code
def yX1_poke : MethodName := ⟨RX1, "poke", "(IIJ)Z"⟩
abbrev cX1_peek : ByteArray := prog_3_method_4_code
def yX1_peek : MethodName := ⟨RX1, "peek", "(I)I"⟩
abbrev cX1_protect : ByteArray := prog_3_method_5_code
def yX1_protect : MethodName := ⟨RX1, "protect", "(II)Z"⟩
abbrev cX1_may : ByteArray := prog_3_method_6_code
def yX1_may : MethodName := ⟨RX1, "may", "(II)Z"⟩
abbrev cX1_bytes : ByteArray := prog_3_method_7_code
def yX1_bytes : MethodName := ⟨RX1, "bytes", "(II)I"⟩
abbrev cX1_set : ByteArray := prog_3_method_8_code
def yX1_set : MethodName := ⟨RX1, "set", "(II)Z"⟩
abbrev cX1_register : ByteArray := prog_3_method_9_code
def yX1_register : MethodName := ⟨RX1, "register", "(I)I"⟩
abbrev cX1_jump : ByteArray := prog_3_method_10_code
def yX1_jump : MethodName := ⟨RX1, "jump", "(I)V"⟩
abbrev cX1_pc : ByteArray := prog_3_method_11_code
def yX1_pc : MethodName := ⟨RX1, "pc", "()I"⟩
abbrev cX1_part : ByteArray := prog_3_method_12_code
def yX1_part : MethodName := ⟨RX1, "part", "(II)I"⟩
abbrev cX1_signed : ByteArray := prog_3_method_13_code
def yX1_signed : MethodName := ⟨RX1, "signed", "(II)I"⟩
abbrev cX1_i : ByteArray := prog_3_method_14_code
def yX1_i : MethodName := ⟨RX1, "i", "()I"⟩
abbrev cX1_s : ByteArray := prog_3_method_15_code
def yX1_s : MethodName := ⟨RX1, "s", "()I"⟩
abbrev cX1_b : ByteArray := prog_3_method_16_code
def yX1_b : MethodName := ⟨RX1, "b", "()I"⟩
abbrev cX1_u : ByteArray := prog_3_method_17_code
def yX1_u : MethodName := ⟨RX1, "u", "()I"⟩
abbrev cX1_j : ByteArray := prog_3_method_18_code
def yX1_j : MethodName := ⟨RX1, "j", "()I"⟩
abbrev cX1_under : ByteArray := prog_3_method_19_code
def yX1_under : MethodName := ⟨RX1, "under", "(II)Z"⟩
abbrev cX1_upper : ByteArray := prog_3_method_20_code
def yX1_upper : MethodName := ⟨RX1, "upper", "(II)I"⟩
abbrev cX1_divided : ByteArray := prog_3_method_21_code
def yX1_divided : MethodName := ⟨RX1, "divided", "(IIZ)I"⟩
abbrev cX1_quotient : ByteArray := prog_3_method_22_code
def yX1_quotient : MethodName := ⟨RX1, "quotient", "(IIZ)I"⟩
abbrev cX1_moved : ByteArray := prog_3_method_23_code
def yX1_moved : MethodName := ⟨RX1, "moved", "(IIZZ)I"⟩
abbrev cX1_multiplied : ByteArray := prog_3_method_24_code
def yX1_multiplied : MethodName := ⟨RX1, "multiplied", "(III)I"⟩
abbrev cX1_fail : ByteArray := prog_3_method_25_code
def yX1_fail : MethodName := ⟨RX1, "fail", "(II)V"⟩
abbrev cX1_strange : ByteArray := prog_3_method_26_code
def yX1_strange : MethodName := ⟨RX1, "strange", "()V"⟩
abbrev cX1_put : ByteArray := prog_3_method_27_code
def yX1_put : MethodName := ⟨RX1, "put", "(I)V"⟩
abbrev cX1_goTo : ByteArray := prog_3_method_28_code
def yX1_goTo : MethodName := ⟨RX1, "goTo", "(IZ)V"⟩
abbrev cX1_branch : ByteArray := prog_3_method_29_code
def yX1_branch : MethodName := ⟨RX1, "branch", "(III)V"⟩
abbrev cX1_load : ByteArray := prog_3_method_30_code
def yX1_load : MethodName := ⟨RX1, "load", "(II)V"⟩
abbrev cX1_store : ByteArray := prog_3_method_31_code
def yX1_store : MethodName := ⟨RX1, "store", "(III)V"⟩
abbrev cX1_worked : ByteArray := prog_3_method_32_code
def yX1_worked : MethodName := ⟨RX1, "worked", "(IIIZ)I"⟩
abbrev cX1_immediate : ByteArray := prog_3_method_33_code
def yX1_immediate : MethodName := ⟨RX1, "immediate", "(III)V"⟩
abbrev cX1_both : ByteArray := prog_3_method_34_code
def yX1_both : MethodName := ⟨RX1, "both", "(IIII)V"⟩
abbrev cX1_perform : ByteArray := prog_3_method_35_code
def yX1_perform : MethodName := ⟨RX1, "perform", "()V"⟩
abbrev cX1_step : ByteArray := prog_3_method_36_code
def yX1_step : MethodName := ⟨RX1, "step", "()Z"⟩
abbrev cX1_run : ByteArray := prog_3_method_37_code
def yX1_run : MethodName := ⟨RX1, "run", "(I)I"⟩
abbrev cX1_trap : ByteArray := prog_3_method_38_code
def yX1_trap : MethodName := ⟨RX1, "trap", "()I"⟩
abbrev cX1_value : ByteArray := prog_3_method_39_code
def yX1_value : MethodName := ⟨RX1, "value", "()I"⟩
abbrev cX1_done : ByteArray := prog_3_method_40_code
def yX1_done : MethodName := ⟨RX1, "done", "()I"⟩
abbrev cL_run : ByteArray := method_3_code
def yL_run : MethodName := ⟨RL, "run", "(LUserCore;I[J)I"⟩
abbrev cL_law : ByteArray := code
def yL_law : MethodName := ⟨RL, "law", "([I)Z"⟩
abbrev vwCl : List vw_C := [(RX0, TX0, 7), (RX1, TX1, 12)]
/-- the tables' good words, and the code words: every method's words are its own code word and these -/
def gIs (w : Cond) : Bool := k2_isCode w || goodWord w
def gw : List Cond := lw_tbl.filter gIs
theorem gw_good {w : Cond} (h : w ∈ gw) : (w.onTables && w.keeps) = true ∨ ∃ ty, w = .arrayClass ty := by
  have h1 := (List.mem_filter.mp h).2
  unfold gIs at h1
  rcases Bool.or_eq_true_iff.mp h1 with h2 | h2
  · cases w <;> first | (simp [k2_isCode] at h2; done) | exact Or.inl rfl
  · exact good_of_word h2
theorem gw_tbl {w : Cond} (h : w ∈ gw) : w ∈ lw_tbl := (List.mem_filter.mp h).1
theorem gmem {w : Cond} (k : Nat) (h : lw_tbl[k]? = some w) (hg : gIs w = true) : w ∈ gw := List.mem_filter.mpr ⟨List.mem_of_getElem? h, hg⟩
theorem gcons {w w0 : Cond} (h : w ∈ gw) : w ∈ w0 :: gw := List.mem_cons_of_mem _ h
theorem gV {own C : String} {idx : Nat} {y : MethodName} {w0 w1 : Cond} (h1 : Cond.methodLink own idx y ∈ gw) (h2 : Cond.instanceMethod y ∈ gw) (h3 : Cond.selects C y y ∈ gw) (h4 : Cond.initialized C ∈ gw) (h5 : w1 ∈ gw) : GoodIn (w0 :: gw) (wsV own idx C y (w1 :: gw)) := by
  intro w hw
  have h : w ∈ gw := by
    unfold wsV at hw
    rcases List.mem_append.mp hw with q | q
    · simp only [List.mem_cons, List.not_mem_nil, or_false] at q
      rcases q with rfl | rfl | rfl | rfl
      · exact h1
      · exact h2
      · exact h3
      · exact h4
    · rcases List.mem_cons.mp q with rfl | q
      · exact h5
      · exact q
  exact ⟨gcons h, gw_good h⟩
theorem gS {own : String} {idx : Nat} {y : MethodName} {w0 w1 : Cond} (h1 : Cond.methodLink own idx y ∈ gw) (h2 : Cond.static y ∈ gw) (h4 : Cond.initialized own ∈ gw) (h5 : w1 ∈ gw) : GoodIn (w0 :: gw) (wsS own idx y (w1 :: gw)) := by
  intro w hw
  have h : w ∈ gw := by
    unfold wsS at hw
    rcases List.mem_append.mp hw with q | q
    · simp only [List.mem_cons, List.not_mem_nil, or_false] at q
      rcases q with rfl | rfl | rfl
      · exact h1
      · exact h2
      · exact h4
    · rcases List.mem_cons.mp q with rfl | q
      · exact h5
      · exact q
  exact ⟨gcons h, gw_good h⟩
theorem gw_lay {w0 : Cond} {l : List Cond} (h : ∀ w ∈ l, w ∈ gw) : ∀ w ∈ l, w ∈ w0 :: gw := fun w q => gcons (h w q)
theorem lay_X0 : ∀ w ∈ u_ws RX0 TX0 7, w ∈ gw := by decide +kernel
theorem lay_X1 : ∀ w ∈ u_ws RX1 TX1 12, w ∈ gw := by decide +kernel
abbrev wsX0_init : List Cond := Cond.code yX0_init cX0_init 1 none :: gw
abbrev wsX0_poke : List Cond := Cond.code yX0_poke cX0_poke 5 (some .boolean) :: gw
abbrev wsX0_peek : List Cond := Cond.code yX0_peek cX0_peek 2 (some .int) :: gw
abbrev wsX0_protect : List Cond := Cond.code yX0_protect cX0_protect 3 (some .boolean) :: gw
abbrev wsX0_set : List Cond := Cond.code yX0_set cX0_set 3 (some .boolean) :: gw
abbrev wsX0_register : List Cond := Cond.code yX0_register cX0_register 2 (some .int) :: gw
abbrev wsX0_jump : List Cond := Cond.code yX0_jump cX0_jump 2 none :: gw
abbrev wsX0_pc : List Cond := Cond.code yX0_pc cX0_pc 1 (some .int) :: gw
abbrev wsX0_run : List Cond := Cond.code yX0_run cX0_run 4 (some .int) :: gw
abbrev wsX0_trap : List Cond := Cond.code yX0_trap cX0_trap 1 (some .int) :: gw
abbrev wsX0_value : List Cond := Cond.code yX0_value cX0_value 1 (some .int) :: gw
abbrev wsX0_done : List Cond := Cond.code yX0_done cX0_done 1 (some .int) :: gw
abbrev wsX0_makeStep : List Cond := Cond.code yX0_makeStep cX0_makeStep 1 (some .boolean) :: gw
abbrev wsX0_execute : List Cond := Cond.code yX0_execute cX0_execute 2 (some .boolean) :: gw
abbrev wsX0_goToRegister : List Cond := Cond.code yX0_goToRegister cX0_goToRegister 2 (some .boolean) :: gw
abbrev wsX0_branch : List Cond := Cond.code yX0_branch cX0_branch 6 (some .boolean) :: gw
abbrev wsX0_load : List Cond := Cond.code yX0_load cX0_load 4 (some .boolean) :: gw
abbrev wsX0_store : List Cond := Cond.code yX0_store cX0_store 5 (some .boolean) :: gw
abbrev wsX0_computeWithImmediate : List Cond := Cond.code yX0_computeWithImmediate cX0_computeWithImmediate 4 (some .boolean) :: gw
abbrev wsX0_computeWithRegisters : List Cond := Cond.code yX0_computeWithRegisters cX0_computeWithRegisters 5 (some .boolean) :: gw
abbrev wsX0_fence : List Cond := Cond.code yX0_fence cX0_fence 2 (some .boolean) :: gw
abbrev wsX0_callOrBreak : List Cond := Cond.code yX0_callOrBreak cX0_callOrBreak 2 (some .boolean) :: gw
abbrev wsX0_finish : List Cond := Cond.code yX0_finish cX0_finish 3 (some .boolean) :: gw
abbrev wsX0_linkAndGo : List Cond := Cond.code yX0_linkAndGo cX0_linkAndGo 3 (some .boolean) :: gw
abbrev wsX0_refuse : List Cond := Cond.code yX0_refuse cX0_refuse 2 (some .boolean) :: gw
abbrev wsX0_trapWith : List Cond := Cond.code yX0_trapWith cX0_trapWith 3 (some .boolean) :: gw
abbrev wsX0_isRegister : List Cond := Cond.code yX0_isRegister cX0_isRegister 1 (some .boolean) :: gw
abbrev wsX0_putRegister : List Cond := Cond.code yX0_putRegister cX0_putRegister 3 none :: gw
abbrev wsX0_registerA : List Cond := Cond.code yX0_registerA cX0_registerA 2 (some .int) :: gw
abbrev wsX0_registerB : List Cond := Cond.code yX0_registerB cX0_registerB 2 (some .int) :: gw
abbrev wsX0_isInPages : List Cond := Cond.code yX0_isInPages cX0_isInPages 1 (some .boolean) :: gw
abbrev wsX0_isCrooked : List Cond := Cond.code yX0_isCrooked cX0_isCrooked 2 (some .boolean) :: gw
abbrev wsX0_hasRight : List Cond := Cond.code yX0_hasRight cX0_hasRight 3 (some .boolean) :: gw
abbrev wsX0_bytesFrom : List Cond := Cond.code yX0_bytesFrom cX0_bytesFrom 2 (some .int) :: gw
abbrev wsX0_putBytes : List Cond := Cond.code yX0_putBytes cX0_putBytes 9 none :: gw
abbrev wsX0_unsigned : List Cond := Cond.code yX0_unsigned cX0_unsigned 1 (some .long) :: gw
abbrev wsX0_compare : List Cond := Cond.code yX0_compare cX0_compare 3 (some .boolean) :: gw
abbrev wsX0_narrow : List Cond := Cond.code yX0_narrow cX0_narrow 2 (some .int) :: gw
abbrev wsX0_compute : List Cond := Cond.code yX0_compute cX0_compute 3 (some .int) :: gw
abbrev wsX0_multiplyOrDivide : List Cond := Cond.code yX0_multiplyOrDivide cX0_multiplyOrDivide 3 (some .int) :: gw
abbrev wsX0_upperHalf : List Cond := Cond.code yX0_upperHalf cX0_upperHalf 2 (some .int) :: gw
abbrev wsX0_divide : List Cond := Cond.code yX0_divide cX0_divide 3 (some .int) :: gw
abbrev wsX0_partD : List Cond := Cond.code yX0_partD cX0_partD 1 (some .int) :: gw
abbrev wsX0_partF : List Cond := Cond.code yX0_partF cX0_partF 1 (some .int) :: gw
abbrev wsX0_partB : List Cond := Cond.code yX0_partB cX0_partB 1 (some .int) :: gw
abbrev wsX0_partG : List Cond := Cond.code yX0_partG cX0_partG 1 (some .int) :: gw
abbrev wsX0_lowImmediate : List Cond := Cond.code yX0_lowImmediate cX0_lowImmediate 1 (some .int) :: gw
abbrev wsX0_storeImmediate : List Cond := Cond.code yX0_storeImmediate cX0_storeImmediate 1 (some .int) :: gw
abbrev wsX0_branchImmediate : List Cond := Cond.code yX0_branchImmediate cX0_branchImmediate 1 (some .int) :: gw
abbrev wsX0_upperImmediate : List Cond := Cond.code yX0_upperImmediate cX0_upperImmediate 1 (some .int) :: gw
abbrev wsX0_jumpImmediate : List Cond := Cond.code yX0_jumpImmediate cX0_jumpImmediate 1 (some .int) :: gw
abbrev wsX1_init : List Cond := Cond.code yX1_init cX1_init 1 none :: gw
abbrev wsX1_thrown : List Cond := Cond.code yX1_thrown cX1_thrown 1 (some .int) :: gw
abbrev wsX1_poke : List Cond := Cond.code yX1_poke cX1_poke 6 (some .boolean) :: gw
abbrev wsX1_peek : List Cond := Cond.code yX1_peek cX1_peek 2 (some .int) :: gw
abbrev wsX1_protect : List Cond := Cond.code yX1_protect cX1_protect 3 (some .boolean) :: gw
abbrev wsX1_may : List Cond := Cond.code yX1_may cX1_may 4 (some .boolean) :: gw
abbrev wsX1_bytes : List Cond := Cond.code yX1_bytes cX1_bytes 5 (some .int) :: gw
abbrev wsX1_set : List Cond := Cond.code yX1_set cX1_set 3 (some .boolean) :: gw
abbrev wsX1_register : List Cond := Cond.code yX1_register cX1_register 2 (some .int) :: gw
abbrev wsX1_jump : List Cond := Cond.code yX1_jump cX1_jump 2 none :: gw
abbrev wsX1_pc : List Cond := Cond.code yX1_pc cX1_pc 1 (some .int) :: gw
abbrev wsX1_part : List Cond := Cond.code yX1_part cX1_part 5 (some .int) :: gw
abbrev wsX1_signed : List Cond := Cond.code yX1_signed cX1_signed 2 (some .int) :: gw
abbrev wsX1_i : List Cond := Cond.code yX1_i cX1_i 1 (some .int) :: gw
abbrev wsX1_s : List Cond := Cond.code yX1_s cX1_s 1 (some .int) :: gw
abbrev wsX1_b : List Cond := Cond.code yX1_b cX1_b 1 (some .int) :: gw
abbrev wsX1_u : List Cond := Cond.code yX1_u cX1_u 1 (some .int) :: gw
abbrev wsX1_j : List Cond := Cond.code yX1_j cX1_j 1 (some .int) :: gw
abbrev wsX1_under : List Cond := Cond.code yX1_under cX1_under 6 (some .boolean) :: gw
abbrev wsX1_upper : List Cond := Cond.code yX1_upper cX1_upper 6 (some .int) :: gw
abbrev wsX1_divided : List Cond := Cond.code yX1_divided cX1_divided 8 (some .int) :: gw
abbrev wsX1_quotient : List Cond := Cond.code yX1_quotient cX1_quotient 5 (some .int) :: gw
abbrev wsX1_moved : List Cond := Cond.code yX1_moved cX1_moved 6 (some .int) :: gw
abbrev wsX1_multiplied : List Cond := Cond.code yX1_multiplied cX1_multiplied 4 (some .int) :: gw
abbrev wsX1_fail : List Cond := Cond.code yX1_fail cX1_fail 3 none :: gw
abbrev wsX1_strange : List Cond := Cond.code yX1_strange cX1_strange 1 none :: gw
abbrev wsX1_put : List Cond := Cond.code yX1_put cX1_put 3 none :: gw
abbrev wsX1_goTo : List Cond := Cond.code yX1_goTo cX1_goTo 3 none :: gw
abbrev wsX1_branch : List Cond := Cond.code yX1_branch cX1_branch 5 none :: gw
abbrev wsX1_load : List Cond := Cond.code yX1_load cX1_load 5 none :: gw
abbrev wsX1_store : List Cond := Cond.code yX1_store cX1_store 6 none :: gw
abbrev wsX1_worked : List Cond := Cond.code yX1_worked cX1_worked 4 (some .int) :: gw
abbrev wsX1_immediate : List Cond := Cond.code yX1_immediate cX1_immediate 5 none :: gw
abbrev wsX1_both : List Cond := Cond.code yX1_both cX1_both 5 none :: gw
abbrev wsX1_perform : List Cond := Cond.code yX1_perform cX1_perform 5 none :: gw
abbrev wsX1_step : List Cond := Cond.code yX1_step cX1_step 1 (some .boolean) :: gw
abbrev wsX1_run : List Cond := Cond.code yX1_run cX1_run 4 (some .int) :: gw
abbrev wsX1_trap : List Cond := Cond.code yX1_trap cX1_trap 1 (some .int) :: gw
abbrev wsX1_value : List Cond := Cond.code yX1_value cX1_value 1 (some .int) :: gw
abbrev wsX1_done : List Cond := Cond.code yX1_done cX1_done 1 (some .int) :: gw
set_option maxRecDepth 20000 in
theorem mT_L_8 : Cond.classLink RL 8 "UserCore" ∈ gw := gmem 47 (by decide +kernel) rfl
set_option maxRecDepth 20000 in
theorem mO_X0 : Cond.instantiable RX0 7 ∈ gw := gmem 48 (by decide +kernel) rfl
set_option maxRecDepth 20000 in
theorem mL_L_15 : Cond.methodLink RL 15 yX0_init ∈ gw := gmem 49 (by decide +kernel) rfl
set_option maxRecDepth 20000 in
theorem mI_X0_init : Cond.instanceMethod yX0_init ∈ gw := gmem 50 (by decide +kernel) rfl
set_option maxRecDepth 20000 in
theorem mC_X0_init : Cond.code yX0_init cX0_init 1 none ∈ gw := gmem 51 rfl rfl
set_option maxRecDepth 20000 in
theorem mL_X0_3 : Cond.methodLink RX0 3 objectInit ∈ gw := gmem 52 (by decide +kernel) rfl
set_option maxRecDepth 20000 in
theorem mF_X0_9 : Cond.fieldLink RX0 9 "UserCore" "words" "[I" ∈ gw := gmem 55 (by decide +kernel) rfl
set_option maxRecDepth 20000 in
theorem mF_X0_13 : Cond.fieldLink RX0 13 "UserCore" "rights" "[I" ∈ gw := gmem 56 (by decide +kernel) rfl
set_option maxRecDepth 20000 in
theorem mF_X0_16 : Cond.fieldLink RX0 16 "UserCore" "registers" "[I" ∈ gw := gmem 57 (by decide +kernel) rfl
set_option maxRecDepth 20000 in
theorem mF_X0_19 : Cond.fieldLink RX0 19 "UserCore" "pc" "I" ∈ gw := gmem 58 (by decide +kernel) rfl
set_option maxRecDepth 20000 in
theorem mF_X0_23 : Cond.fieldLink RX0 23 "UserCore" "trap" "I" ∈ gw := gmem 59 (by decide +kernel) rfl
set_option maxRecDepth 20000 in
theorem mF_X0_26 : Cond.fieldLink RX0 26 "UserCore" "value" "I" ∈ gw := gmem 60 (by decide +kernel) rfl
set_option maxRecDepth 20000 in
theorem mF_X0_29 : Cond.fieldLink RX0 29 "UserCore" "done" "I" ∈ gw := gmem 61 (by decide +kernel) rfl
set_option maxRecDepth 20000 in
theorem mA_int : Cond.arrayClass .int ∈ gw := gmem 77 (by decide +kernel) rfl
set_option maxRecDepth 20000 in
theorem mL_L_21 : Cond.methodLink RL 21 yX0_poke ∈ gw := gmem 78 (by decide +kernel) rfl
set_option maxRecDepth 20000 in
theorem mI_X0_poke : Cond.instanceMethod yX0_poke ∈ gw := gmem 79 (by decide +kernel) rfl
set_option maxRecDepth 20000 in
theorem mE_X0_poke : Cond.selects RX0 yX0_poke yX0_poke ∈ gw := gmem 80 (by decide +kernel) rfl
set_option maxRecDepth 20000 in
theorem mC_X0_poke : Cond.code yX0_poke cX0_poke 5 (some .boolean) ∈ gw := gmem 81 rfl rfl
set_option maxRecDepth 20000 in
theorem mL_X0_32 : Cond.methodLink RX0 32 yX0_putBytes ∈ gw := gmem 82 (by decide +kernel) rfl
set_option maxRecDepth 20000 in
theorem mI_X0_putBytes : Cond.instanceMethod yX0_putBytes ∈ gw := gmem 84 (by decide +kernel) rfl
set_option maxRecDepth 20000 in
theorem mC_X0_putBytes : Cond.code yX0_putBytes cX0_putBytes 9 none ∈ gw := gmem 85 rfl rfl
set_option maxRecDepth 20000 in
theorem mL_L_26 : Cond.methodLink RL 26 yX0_peek ∈ gw := gmem 86 (by decide +kernel) rfl
set_option maxRecDepth 20000 in
theorem mI_X0_peek : Cond.instanceMethod yX0_peek ∈ gw := gmem 87 (by decide +kernel) rfl
set_option maxRecDepth 20000 in
theorem mE_X0_peek : Cond.selects RX0 yX0_peek yX0_peek ∈ gw := gmem 88 (by decide +kernel) rfl
set_option maxRecDepth 20000 in
theorem mC_X0_peek : Cond.code yX0_peek cX0_peek 2 (some .int) ∈ gw := gmem 89 rfl rfl
set_option maxRecDepth 20000 in
theorem mL_X0_36 : Cond.methodLink RX0 36 yX0_isInPages ∈ gw := gmem 90 (by decide +kernel) rfl
set_option maxRecDepth 20000 in
theorem mS_X0_isInPages : Cond.static yX0_isInPages ∈ gw := gmem 91 (by decide +kernel) rfl
set_option maxRecDepth 20000 in
theorem mC_X0_isInPages : Cond.code yX0_isInPages cX0_isInPages 1 (some .boolean) ∈ gw := gmem 92 rfl rfl
set_option maxRecDepth 20000 in
theorem mL_X0_40 : Cond.methodLink RX0 40 yX0_bytesFrom ∈ gw := gmem 93 (by decide +kernel) rfl
set_option maxRecDepth 20000 in
theorem mI_X0_bytesFrom : Cond.instanceMethod yX0_bytesFrom ∈ gw := gmem 95 (by decide +kernel) rfl
set_option maxRecDepth 20000 in
theorem mC_X0_bytesFrom : Cond.code yX0_bytesFrom cX0_bytesFrom 2 (some .int) ∈ gw := gmem 96 rfl rfl
set_option maxRecDepth 20000 in
theorem mL_L_30 : Cond.methodLink RL 30 yX0_protect ∈ gw := gmem 97 (by decide +kernel) rfl
set_option maxRecDepth 20000 in
theorem mI_X0_protect : Cond.instanceMethod yX0_protect ∈ gw := gmem 98 (by decide +kernel) rfl
set_option maxRecDepth 20000 in
theorem mE_X0_protect : Cond.selects RX0 yX0_protect yX0_protect ∈ gw := gmem 99 (by decide +kernel) rfl
set_option maxRecDepth 20000 in
theorem mC_X0_protect : Cond.code yX0_protect cX0_protect 3 (some .boolean) ∈ gw := gmem 100 rfl rfl
set_option maxRecDepth 20000 in
theorem mL_L_35 : Cond.methodLink RL 35 yX0_set ∈ gw := gmem 101 (by decide +kernel) rfl
set_option maxRecDepth 20000 in
theorem mI_X0_set : Cond.instanceMethod yX0_set ∈ gw := gmem 102 (by decide +kernel) rfl
set_option maxRecDepth 20000 in
theorem mE_X0_set : Cond.selects RX0 yX0_set yX0_set ∈ gw := gmem 103 (by decide +kernel) rfl
set_option maxRecDepth 20000 in
theorem mC_X0_set : Cond.code yX0_set cX0_set 3 (some .boolean) ∈ gw := gmem 104 rfl rfl
set_option maxRecDepth 20000 in
theorem mL_X0_44 : Cond.methodLink RX0 44 yX0_isRegister ∈ gw := gmem 105 (by decide +kernel) rfl
set_option maxRecDepth 20000 in
theorem mS_X0_isRegister : Cond.static yX0_isRegister ∈ gw := gmem 106 (by decide +kernel) rfl
set_option maxRecDepth 20000 in
theorem mC_X0_isRegister : Cond.code yX0_isRegister cX0_isRegister 1 (some .boolean) ∈ gw := gmem 107 rfl rfl
set_option maxRecDepth 20000 in
theorem mL_X0_47 : Cond.methodLink RX0 47 yX0_putRegister ∈ gw := gmem 108 (by decide +kernel) rfl
set_option maxRecDepth 20000 in
theorem mI_X0_putRegister : Cond.instanceMethod yX0_putRegister ∈ gw := gmem 110 (by decide +kernel) rfl
set_option maxRecDepth 20000 in
theorem mC_X0_putRegister : Cond.code yX0_putRegister cX0_putRegister 3 none ∈ gw := gmem 111 rfl rfl
set_option maxRecDepth 20000 in
theorem mL_L_39 : Cond.methodLink RL 39 yX0_register ∈ gw := gmem 112 (by decide +kernel) rfl
set_option maxRecDepth 20000 in
theorem mI_X0_register : Cond.instanceMethod yX0_register ∈ gw := gmem 113 (by decide +kernel) rfl
set_option maxRecDepth 20000 in
theorem mE_X0_register : Cond.selects RX0 yX0_register yX0_register ∈ gw := gmem 114 (by decide +kernel) rfl
set_option maxRecDepth 20000 in
theorem mC_X0_register : Cond.code yX0_register cX0_register 2 (some .int) ∈ gw := gmem 115 rfl rfl
set_option maxRecDepth 20000 in
theorem mL_L_43 : Cond.methodLink RL 43 yX0_jump ∈ gw := gmem 116 (by decide +kernel) rfl
set_option maxRecDepth 20000 in
theorem mI_X0_jump : Cond.instanceMethod yX0_jump ∈ gw := gmem 117 (by decide +kernel) rfl
set_option maxRecDepth 20000 in
theorem mE_X0_jump : Cond.selects RX0 yX0_jump yX0_jump ∈ gw := gmem 118 (by decide +kernel) rfl
set_option maxRecDepth 20000 in
theorem mC_X0_jump : Cond.code yX0_jump cX0_jump 2 none ∈ gw := gmem 119 rfl rfl
set_option maxRecDepth 20000 in
theorem mL_L_48 : Cond.methodLink RL 48 yX0_pc ∈ gw := gmem 120 (by decide +kernel) rfl
set_option maxRecDepth 20000 in
theorem mI_X0_pc : Cond.instanceMethod yX0_pc ∈ gw := gmem 121 (by decide +kernel) rfl
set_option maxRecDepth 20000 in
theorem mE_X0_pc : Cond.selects RX0 yX0_pc yX0_pc ∈ gw := gmem 122 (by decide +kernel) rfl
set_option maxRecDepth 20000 in
theorem mC_X0_pc : Cond.code yX0_pc cX0_pc 1 (some .int) ∈ gw := gmem 123 rfl rfl
set_option maxRecDepth 20000 in
theorem mL_L_62 : Cond.methodLink RL 62 yX0_trap ∈ gw := gmem 124 (by decide +kernel) rfl
set_option maxRecDepth 20000 in
theorem mI_X0_trap : Cond.instanceMethod yX0_trap ∈ gw := gmem 125 (by decide +kernel) rfl
set_option maxRecDepth 20000 in
theorem mE_X0_trap : Cond.selects RX0 yX0_trap yX0_trap ∈ gw := gmem 126 (by decide +kernel) rfl
set_option maxRecDepth 20000 in
theorem mC_X0_trap : Cond.code yX0_trap cX0_trap 1 (some .int) ∈ gw := gmem 127 rfl rfl
set_option maxRecDepth 20000 in
theorem mL_L_66 : Cond.methodLink RL 66 yX0_value ∈ gw := gmem 128 (by decide +kernel) rfl
set_option maxRecDepth 20000 in
theorem mI_X0_value : Cond.instanceMethod yX0_value ∈ gw := gmem 129 (by decide +kernel) rfl
set_option maxRecDepth 20000 in
theorem mE_X0_value : Cond.selects RX0 yX0_value yX0_value ∈ gw := gmem 130 (by decide +kernel) rfl
set_option maxRecDepth 20000 in
theorem mC_X0_value : Cond.code yX0_value cX0_value 1 (some .int) ∈ gw := gmem 131 rfl rfl
set_option maxRecDepth 20000 in
theorem mL_L_70 : Cond.methodLink RL 70 yX0_done ∈ gw := gmem 132 (by decide +kernel) rfl
set_option maxRecDepth 20000 in
theorem mI_X0_done : Cond.instanceMethod yX0_done ∈ gw := gmem 133 (by decide +kernel) rfl
set_option maxRecDepth 20000 in
theorem mE_X0_done : Cond.selects RX0 yX0_done yX0_done ∈ gw := gmem 134 (by decide +kernel) rfl
set_option maxRecDepth 20000 in
theorem mC_X0_done : Cond.code yX0_done cX0_done 1 (some .int) ∈ gw := gmem 135 rfl rfl
set_option maxRecDepth 20000 in
theorem mL_L_53 : Cond.methodLink RL 53 yL_run ∈ gw := gmem 136 (by decide +kernel) rfl
set_option maxRecDepth 20000 in
theorem mS_L_run : Cond.static yL_run ∈ gw := gmem 137 (by decide +kernel) rfl
set_option maxRecDepth 20000 in
theorem mT_L_13 : Cond.classLink RL 13 "java/lang/IllegalArgumentException" ∈ gw := gmem 139 (by decide +kernel) rfl
set_option maxRecDepth 20000 in
theorem mL_L_7 : Cond.methodLink RL 7 yX0_run ∈ gw := gmem 140 (by decide +kernel) rfl
set_option maxRecDepth 20000 in
theorem mI_X0_run : Cond.instanceMethod yX0_run ∈ gw := gmem 141 (by decide +kernel) rfl
set_option maxRecDepth 20000 in
theorem mE_X0_run : Cond.selects RX0 yX0_run yX0_run ∈ gw := gmem 142 (by decide +kernel) rfl
set_option maxRecDepth 20000 in
theorem mC_X0_run : Cond.code yX0_run cX0_run 4 (some .int) ∈ gw := gmem 143 rfl rfl
set_option maxRecDepth 20000 in
theorem mT_X0_51 : Cond.classLink RX0 51 "java/lang/IllegalArgumentException" ∈ gw := gmem 144 (by decide +kernel) rfl
set_option maxRecDepth 20000 in
theorem mA_byte : Cond.arrayClass .byte ∈ gw := gmem 209 (by decide +kernel) rfl
set_option maxRecDepth 20000 in
theorem mL_X0_58 : Cond.methodLink RX0 58 yX0_makeStep ∈ gw := gmem 210 (by decide +kernel) rfl
set_option maxRecDepth 20000 in
theorem mI_X0_makeStep : Cond.instanceMethod yX0_makeStep ∈ gw := gmem 212 (by decide +kernel) rfl
set_option maxRecDepth 20000 in
theorem mC_X0_makeStep : Cond.code yX0_makeStep cX0_makeStep 1 (some .boolean) ∈ gw := gmem 213 rfl rfl
set_option maxRecDepth 20000 in
theorem mL_X0_62 : Cond.methodLink RX0 62 yX0_isCrooked ∈ gw := gmem 214 (by decide +kernel) rfl
set_option maxRecDepth 20000 in
theorem mS_X0_isCrooked : Cond.static yX0_isCrooked ∈ gw := gmem 215 (by decide +kernel) rfl
set_option maxRecDepth 20000 in
theorem mC_X0_isCrooked : Cond.code yX0_isCrooked cX0_isCrooked 2 (some .boolean) ∈ gw := gmem 216 rfl rfl
set_option maxRecDepth 20000 in
theorem mL_X0_66 : Cond.methodLink RX0 66 yX0_trapWith ∈ gw := gmem 217 (by decide +kernel) rfl
set_option maxRecDepth 20000 in
theorem mI_X0_trapWith : Cond.instanceMethod yX0_trapWith ∈ gw := gmem 219 (by decide +kernel) rfl
set_option maxRecDepth 20000 in
theorem mC_X0_trapWith : Cond.code yX0_trapWith cX0_trapWith 3 (some .boolean) ∈ gw := gmem 220 rfl rfl
set_option maxRecDepth 20000 in
theorem mL_X0_69 : Cond.methodLink RX0 69 yX0_hasRight ∈ gw := gmem 221 (by decide +kernel) rfl
set_option maxRecDepth 20000 in
theorem mI_X0_hasRight : Cond.instanceMethod yX0_hasRight ∈ gw := gmem 223 (by decide +kernel) rfl
set_option maxRecDepth 20000 in
theorem mC_X0_hasRight : Cond.code yX0_hasRight cX0_hasRight 3 (some .boolean) ∈ gw := gmem 224 rfl rfl
set_option maxRecDepth 20000 in
theorem mL_X0_72 : Cond.methodLink RX0 72 yX0_execute ∈ gw := gmem 225 (by decide +kernel) rfl
set_option maxRecDepth 20000 in
theorem mI_X0_execute : Cond.instanceMethod yX0_execute ∈ gw := gmem 227 (by decide +kernel) rfl
set_option maxRecDepth 20000 in
theorem mC_X0_execute : Cond.code yX0_execute cX0_execute 2 (some .boolean) ∈ gw := gmem 228 rfl rfl
set_option maxRecDepth 20000 in
theorem mL_X0_75 : Cond.methodLink RX0 75 yX0_upperImmediate ∈ gw := gmem 229 (by decide +kernel) rfl
set_option maxRecDepth 20000 in
theorem mS_X0_upperImmediate : Cond.static yX0_upperImmediate ∈ gw := gmem 230 (by decide +kernel) rfl
set_option maxRecDepth 20000 in
theorem mC_X0_upperImmediate : Cond.code yX0_upperImmediate cX0_upperImmediate 1 (some .int) ∈ gw := gmem 231 rfl rfl
set_option maxRecDepth 20000 in
theorem mL_X0_78 : Cond.methodLink RX0 78 yX0_finish ∈ gw := gmem 232 (by decide +kernel) rfl
set_option maxRecDepth 20000 in
theorem mI_X0_finish : Cond.instanceMethod yX0_finish ∈ gw := gmem 234 (by decide +kernel) rfl
set_option maxRecDepth 20000 in
theorem mC_X0_finish : Cond.code yX0_finish cX0_finish 3 (some .boolean) ∈ gw := gmem 235 rfl rfl
set_option maxRecDepth 20000 in
theorem mL_X0_154 : Cond.methodLink RX0 154 yX0_partD ∈ gw := gmem 236 (by decide +kernel) rfl
set_option maxRecDepth 20000 in
theorem mS_X0_partD : Cond.static yX0_partD ∈ gw := gmem 237 (by decide +kernel) rfl
set_option maxRecDepth 20000 in
theorem mC_X0_partD : Cond.code yX0_partD cX0_partD 1 (some .int) ∈ gw := gmem 238 rfl rfl
set_option maxRecDepth 20000 in
theorem mL_X0_81 : Cond.methodLink RX0 81 yX0_jumpImmediate ∈ gw := gmem 239 (by decide +kernel) rfl
set_option maxRecDepth 20000 in
theorem mS_X0_jumpImmediate : Cond.static yX0_jumpImmediate ∈ gw := gmem 240 (by decide +kernel) rfl
set_option maxRecDepth 20000 in
theorem mC_X0_jumpImmediate : Cond.code yX0_jumpImmediate cX0_jumpImmediate 1 (some .int) ∈ gw := gmem 241 rfl rfl
set_option maxRecDepth 20000 in
theorem mL_X0_84 : Cond.methodLink RX0 84 yX0_linkAndGo ∈ gw := gmem 242 (by decide +kernel) rfl
set_option maxRecDepth 20000 in
theorem mI_X0_linkAndGo : Cond.instanceMethod yX0_linkAndGo ∈ gw := gmem 244 (by decide +kernel) rfl
set_option maxRecDepth 20000 in
theorem mC_X0_linkAndGo : Cond.code yX0_linkAndGo cX0_linkAndGo 3 (some .boolean) ∈ gw := gmem 245 rfl rfl
set_option maxRecDepth 20000 in
theorem mL_X0_87 : Cond.methodLink RX0 87 yX0_goToRegister ∈ gw := gmem 246 (by decide +kernel) rfl
set_option maxRecDepth 20000 in
theorem mI_X0_goToRegister : Cond.instanceMethod yX0_goToRegister ∈ gw := gmem 248 (by decide +kernel) rfl
set_option maxRecDepth 20000 in
theorem mC_X0_goToRegister : Cond.code yX0_goToRegister cX0_goToRegister 2 (some .boolean) ∈ gw := gmem 249 rfl rfl
set_option maxRecDepth 20000 in
theorem mL_X0_114 : Cond.methodLink RX0 114 yX0_partF ∈ gw := gmem 250 (by decide +kernel) rfl
set_option maxRecDepth 20000 in
theorem mS_X0_partF : Cond.static yX0_partF ∈ gw := gmem 251 (by decide +kernel) rfl
set_option maxRecDepth 20000 in
theorem mC_X0_partF : Cond.code yX0_partF cX0_partF 1 (some .int) ∈ gw := gmem 252 rfl rfl
set_option maxRecDepth 20000 in
theorem mL_X0_111 : Cond.methodLink RX0 111 yX0_refuse ∈ gw := gmem 253 (by decide +kernel) rfl
set_option maxRecDepth 20000 in
theorem mI_X0_refuse : Cond.instanceMethod yX0_refuse ∈ gw := gmem 255 (by decide +kernel) rfl
set_option maxRecDepth 20000 in
theorem mC_X0_refuse : Cond.code yX0_refuse cX0_refuse 2 (some .boolean) ∈ gw := gmem 256 rfl rfl
set_option maxRecDepth 20000 in
theorem mL_X0_117 : Cond.methodLink RX0 117 yX0_registerA ∈ gw := gmem 257 (by decide +kernel) rfl
set_option maxRecDepth 20000 in
theorem mI_X0_registerA : Cond.instanceMethod yX0_registerA ∈ gw := gmem 259 (by decide +kernel) rfl
set_option maxRecDepth 20000 in
theorem mC_X0_registerA : Cond.code yX0_registerA cX0_registerA 2 (some .int) ∈ gw := gmem 260 rfl rfl
set_option maxRecDepth 20000 in
theorem mL_X0_120 : Cond.methodLink RX0 120 yX0_lowImmediate ∈ gw := gmem 261 (by decide +kernel) rfl
set_option maxRecDepth 20000 in
theorem mS_X0_lowImmediate : Cond.static yX0_lowImmediate ∈ gw := gmem 262 (by decide +kernel) rfl
set_option maxRecDepth 20000 in
theorem mC_X0_lowImmediate : Cond.code yX0_lowImmediate cX0_lowImmediate 1 (some .int) ∈ gw := gmem 263 rfl rfl
set_option maxRecDepth 20000 in
theorem mL_X0_90 : Cond.methodLink RX0 90 yX0_branch ∈ gw := gmem 264 (by decide +kernel) rfl
set_option maxRecDepth 20000 in
theorem mI_X0_branch : Cond.instanceMethod yX0_branch ∈ gw := gmem 266 (by decide +kernel) rfl
set_option maxRecDepth 20000 in
theorem mC_X0_branch : Cond.code yX0_branch cX0_branch 6 (some .boolean) ∈ gw := gmem 267 rfl rfl
set_option maxRecDepth 20000 in
theorem mL_X0_123 : Cond.methodLink RX0 123 yX0_registerB ∈ gw := gmem 268 (by decide +kernel) rfl
set_option maxRecDepth 20000 in
theorem mI_X0_registerB : Cond.instanceMethod yX0_registerB ∈ gw := gmem 270 (by decide +kernel) rfl
set_option maxRecDepth 20000 in
theorem mC_X0_registerB : Cond.code yX0_registerB cX0_registerB 2 (some .int) ∈ gw := gmem 271 rfl rfl
set_option maxRecDepth 20000 in
theorem mL_X0_143 : Cond.methodLink RX0 143 yX0_partB ∈ gw := gmem 272 (by decide +kernel) rfl
set_option maxRecDepth 20000 in
theorem mS_X0_partB : Cond.static yX0_partB ∈ gw := gmem 273 (by decide +kernel) rfl
set_option maxRecDepth 20000 in
theorem mC_X0_partB : Cond.code yX0_partB cX0_partB 1 (some .int) ∈ gw := gmem 274 rfl rfl
set_option maxRecDepth 20000 in
theorem mL_X0_126 : Cond.methodLink RX0 126 yX0_compare ∈ gw := gmem 275 (by decide +kernel) rfl
set_option maxRecDepth 20000 in
theorem mS_X0_compare : Cond.static yX0_compare ∈ gw := gmem 276 (by decide +kernel) rfl
set_option maxRecDepth 20000 in
theorem mC_X0_compare : Cond.code yX0_compare cX0_compare 3 (some .boolean) ∈ gw := gmem 277 rfl rfl
set_option maxRecDepth 20000 in
theorem mL_X0_159 : Cond.methodLink RX0 159 yX0_unsigned ∈ gw := gmem 278 (by decide +kernel) rfl
set_option maxRecDepth 20000 in
theorem mS_X0_unsigned : Cond.static yX0_unsigned ∈ gw := gmem 279 (by decide +kernel) rfl
set_option maxRecDepth 20000 in
theorem mC_X0_unsigned : Cond.code yX0_unsigned cX0_unsigned 1 (some .long) ∈ gw := gmem 280 rfl rfl
set_option maxRecDepth 20000 in
theorem mK_X0_157 : Cond.constantLong RX0 157 4294967295 ∈ gw := gmem 281 (by decide +kernel) rfl
set_option maxRecDepth 20000 in
theorem mL_X0_130 : Cond.methodLink RX0 130 yX0_branchImmediate ∈ gw := gmem 282 (by decide +kernel) rfl
set_option maxRecDepth 20000 in
theorem mS_X0_branchImmediate : Cond.static yX0_branchImmediate ∈ gw := gmem 283 (by decide +kernel) rfl
set_option maxRecDepth 20000 in
theorem mC_X0_branchImmediate : Cond.code yX0_branchImmediate cX0_branchImmediate 1 (some .int) ∈ gw := gmem 284 rfl rfl
set_option maxRecDepth 20000 in
theorem mL_X0_93 : Cond.methodLink RX0 93 yX0_load ∈ gw := gmem 285 (by decide +kernel) rfl
set_option maxRecDepth 20000 in
theorem mI_X0_load : Cond.instanceMethod yX0_load ∈ gw := gmem 287 (by decide +kernel) rfl
set_option maxRecDepth 20000 in
theorem mC_X0_load : Cond.code yX0_load cX0_load 4 (some .boolean) ∈ gw := gmem 288 rfl rfl
set_option maxRecDepth 20000 in
theorem mL_X0_133 : Cond.methodLink RX0 133 yX0_narrow ∈ gw := gmem 289 (by decide +kernel) rfl
set_option maxRecDepth 20000 in
theorem mS_X0_narrow : Cond.static yX0_narrow ∈ gw := gmem 290 (by decide +kernel) rfl
set_option maxRecDepth 20000 in
theorem mC_X0_narrow : Cond.code yX0_narrow cX0_narrow 2 (some .int) ∈ gw := gmem 291 rfl rfl
set_option maxRecDepth 20000 in
theorem mK_X0_163 : Cond.constant RX0 163 65535 ∈ gw := gmem 292 (by decide +kernel) rfl
set_option maxRecDepth 20000 in
theorem mL_X0_96 : Cond.methodLink RX0 96 yX0_store ∈ gw := gmem 293 (by decide +kernel) rfl
set_option maxRecDepth 20000 in
theorem mI_X0_store : Cond.instanceMethod yX0_store ∈ gw := gmem 295 (by decide +kernel) rfl
set_option maxRecDepth 20000 in
theorem mC_X0_store : Cond.code yX0_store cX0_store 5 (some .boolean) ∈ gw := gmem 296 rfl rfl
set_option maxRecDepth 20000 in
theorem mL_X0_137 : Cond.methodLink RX0 137 yX0_storeImmediate ∈ gw := gmem 297 (by decide +kernel) rfl
set_option maxRecDepth 20000 in
theorem mS_X0_storeImmediate : Cond.static yX0_storeImmediate ∈ gw := gmem 298 (by decide +kernel) rfl
set_option maxRecDepth 20000 in
theorem mC_X0_storeImmediate : Cond.code yX0_storeImmediate cX0_storeImmediate 1 (some .int) ∈ gw := gmem 299 rfl rfl
set_option maxRecDepth 20000 in
theorem mL_X0_99 : Cond.methodLink RX0 99 yX0_computeWithImmediate ∈ gw := gmem 300 (by decide +kernel) rfl
set_option maxRecDepth 20000 in
theorem mI_X0_computeWithImmediate : Cond.instanceMethod yX0_computeWithImmediate ∈ gw := gmem 302 (by decide +kernel) rfl
set_option maxRecDepth 20000 in
theorem mC_X0_computeWithImmediate : Cond.code yX0_computeWithImmediate cX0_computeWithImmediate 4 (some .boolean) ∈ gw := gmem 303 rfl rfl
set_option maxRecDepth 20000 in
theorem mL_X0_140 : Cond.methodLink RX0 140 yX0_partG ∈ gw := gmem 304 (by decide +kernel) rfl
set_option maxRecDepth 20000 in
theorem mS_X0_partG : Cond.static yX0_partG ∈ gw := gmem 305 (by decide +kernel) rfl
set_option maxRecDepth 20000 in
theorem mC_X0_partG : Cond.code yX0_partG cX0_partG 1 (some .int) ∈ gw := gmem 306 rfl rfl
set_option maxRecDepth 20000 in
theorem mL_X0_146 : Cond.methodLink RX0 146 yX0_compute ∈ gw := gmem 307 (by decide +kernel) rfl
set_option maxRecDepth 20000 in
theorem mS_X0_compute : Cond.static yX0_compute ∈ gw := gmem 308 (by decide +kernel) rfl
set_option maxRecDepth 20000 in
theorem mC_X0_compute : Cond.code yX0_compute cX0_compute 3 (some .int) ∈ gw := gmem 309 rfl rfl
set_option maxRecDepth 20000 in
theorem mL_X0_102 : Cond.methodLink RX0 102 yX0_computeWithRegisters ∈ gw := gmem 310 (by decide +kernel) rfl
set_option maxRecDepth 20000 in
theorem mI_X0_computeWithRegisters : Cond.instanceMethod yX0_computeWithRegisters ∈ gw := gmem 312 (by decide +kernel) rfl
set_option maxRecDepth 20000 in
theorem mC_X0_computeWithRegisters : Cond.code yX0_computeWithRegisters cX0_computeWithRegisters 5 (some .boolean) ∈ gw := gmem 313 rfl rfl
set_option maxRecDepth 20000 in
theorem mL_X0_150 : Cond.methodLink RX0 150 yX0_multiplyOrDivide ∈ gw := gmem 314 (by decide +kernel) rfl
set_option maxRecDepth 20000 in
theorem mS_X0_multiplyOrDivide : Cond.static yX0_multiplyOrDivide ∈ gw := gmem 315 (by decide +kernel) rfl
set_option maxRecDepth 20000 in
theorem mC_X0_multiplyOrDivide : Cond.code yX0_multiplyOrDivide cX0_multiplyOrDivide 3 (some .int) ∈ gw := gmem 316 rfl rfl
set_option maxRecDepth 20000 in
theorem mL_X0_164 : Cond.methodLink RX0 164 yX0_upperHalf ∈ gw := gmem 317 (by decide +kernel) rfl
set_option maxRecDepth 20000 in
theorem mS_X0_upperHalf : Cond.static yX0_upperHalf ∈ gw := gmem 318 (by decide +kernel) rfl
set_option maxRecDepth 20000 in
theorem mC_X0_upperHalf : Cond.code yX0_upperHalf cX0_upperHalf 2 (some .int) ∈ gw := gmem 319 rfl rfl
set_option maxRecDepth 20000 in
theorem mL_X0_168 : Cond.methodLink RX0 168 yX0_divide ∈ gw := gmem 320 (by decide +kernel) rfl
set_option maxRecDepth 20000 in
theorem mS_X0_divide : Cond.static yX0_divide ∈ gw := gmem 321 (by decide +kernel) rfl
set_option maxRecDepth 20000 in
theorem mC_X0_divide : Cond.code yX0_divide cX0_divide 3 (some .int) ∈ gw := gmem 322 rfl rfl
set_option maxRecDepth 20000 in
theorem mL_X0_105 : Cond.methodLink RX0 105 yX0_fence ∈ gw := gmem 323 (by decide +kernel) rfl
set_option maxRecDepth 20000 in
theorem mI_X0_fence : Cond.instanceMethod yX0_fence ∈ gw := gmem 325 (by decide +kernel) rfl
set_option maxRecDepth 20000 in
theorem mC_X0_fence : Cond.code yX0_fence cX0_fence 2 (some .boolean) ∈ gw := gmem 326 rfl rfl
set_option maxRecDepth 20000 in
theorem mL_X0_108 : Cond.methodLink RX0 108 yX0_callOrBreak ∈ gw := gmem 327 (by decide +kernel) rfl
set_option maxRecDepth 20000 in
theorem mI_X0_callOrBreak : Cond.instanceMethod yX0_callOrBreak ∈ gw := gmem 329 (by decide +kernel) rfl
set_option maxRecDepth 20000 in
theorem mC_X0_callOrBreak : Cond.code yX0_callOrBreak cX0_callOrBreak 2 (some .boolean) ∈ gw := gmem 330 rfl rfl
set_option maxRecDepth 20000 in
theorem mK_X0_153 : Cond.constant RX0 153 1048691 ∈ gw := gmem 331 (by decide +kernel) rfl
set_option maxRecDepth 20000 in
theorem mT_L_16 : Cond.classLink RL 16 "UserCoreModel" ∈ gw := gmem 332 (by decide +kernel) rfl
set_option maxRecDepth 20000 in
theorem mO_X1 : Cond.instantiable RX1 12 ∈ gw := gmem 333 (by decide +kernel) rfl
set_option maxRecDepth 20000 in
theorem mL_L_18 : Cond.methodLink RL 18 yX1_init ∈ gw := gmem 334 (by decide +kernel) rfl
set_option maxRecDepth 20000 in
theorem mI_X1_init : Cond.instanceMethod yX1_init ∈ gw := gmem 335 (by decide +kernel) rfl
set_option maxRecDepth 20000 in
theorem mC_X1_init : Cond.code yX1_init cX1_init 1 none ∈ gw := gmem 336 rfl rfl
set_option maxRecDepth 20000 in
theorem mL_X1_1 : Cond.methodLink RX1 1 objectInit ∈ gw := gmem 337 (by decide +kernel) rfl
set_option maxRecDepth 20000 in
theorem mF_X1_24 : Cond.fieldLink RX1 24 "UserCoreModel" "thrown" "I" ∈ gw := gmem 338 (by decide +kernel) rfl
set_option maxRecDepth 20000 in
theorem mF_X1_7 : Cond.fieldLink RX1 7 "UserCoreModel" "memory" "[B" ∈ gw := gmem 339 (by decide +kernel) rfl
set_option maxRecDepth 20000 in
theorem mF_X1_13 : Cond.fieldLink RX1 13 "UserCoreModel" "rights" "[I" ∈ gw := gmem 340 (by decide +kernel) rfl
set_option maxRecDepth 20000 in
theorem mF_X1_17 : Cond.fieldLink RX1 17 "UserCoreModel" "registers" "[I" ∈ gw := gmem 341 (by decide +kernel) rfl
set_option maxRecDepth 20000 in
theorem mF_X1_27 : Cond.fieldLink RX1 27 "UserCoreModel" "pc" "I" ∈ gw := gmem 342 (by decide +kernel) rfl
set_option maxRecDepth 20000 in
theorem mF_X1_20 : Cond.fieldLink RX1 20 "UserCoreModel" "trap" "I" ∈ gw := gmem 343 (by decide +kernel) rfl
set_option maxRecDepth 20000 in
theorem mF_X1_136 : Cond.fieldLink RX1 136 "UserCoreModel" "value" "I" ∈ gw := gmem 344 (by decide +kernel) rfl
set_option maxRecDepth 20000 in
theorem mF_X1_133 : Cond.fieldLink RX1 133 "UserCoreModel" "done" "I" ∈ gw := gmem 345 (by decide +kernel) rfl
set_option maxRecDepth 20000 in
theorem mF_X1_30 : Cond.fieldLink RX1 30 "UserCoreModel" "w" "I" ∈ gw := gmem 346 (by decide +kernel) rfl
set_option maxRecDepth 20000 in
theorem mF_X1_54 : Cond.fieldLink RX1 54 "UserCoreModel" "fails" "I" ∈ gw := gmem 347 (by decide +kernel) rfl
set_option maxRecDepth 20000 in
theorem mF_X1_57 : Cond.fieldLink RX1 57 "UserCoreModel" "with" "I" ∈ gw := gmem 348 (by decide +kernel) rfl
set_option maxRecDepth 20000 in
theorem mF_X1_64 : Cond.fieldLink RX1 64 "UserCoreModel" "next" "I" ∈ gw := gmem 349 (by decide +kernel) rfl
set_option maxRecDepth 20000 in
theorem mL_L_59 : Cond.methodLink RL 59 yX1_thrown ∈ gw := gmem 375 (by decide +kernel) rfl
set_option maxRecDepth 20000 in
theorem mI_X1_thrown : Cond.instanceMethod yX1_thrown ∈ gw := gmem 376 (by decide +kernel) rfl
set_option maxRecDepth 20000 in
theorem mE_X1_thrown : Cond.selects RX1 yX1_thrown yX1_thrown ∈ gw := gmem 377 (by decide +kernel) rfl
set_option maxRecDepth 20000 in
theorem mC_X1_thrown : Cond.code yX1_thrown cX1_thrown 1 (some .int) ∈ gw := gmem 378 rfl rfl
set_option maxRecDepth 20000 in
theorem mL_L_25 : Cond.methodLink RL 25 yX1_poke ∈ gw := gmem 379 (by decide +kernel) rfl
set_option maxRecDepth 20000 in
theorem mI_X1_poke : Cond.instanceMethod yX1_poke ∈ gw := gmem 380 (by decide +kernel) rfl
set_option maxRecDepth 20000 in
theorem mE_X1_poke : Cond.selects RX1 yX1_poke yX1_poke ∈ gw := gmem 381 (by decide +kernel) rfl
set_option maxRecDepth 20000 in
theorem mC_X1_poke : Cond.code yX1_poke cX1_poke 6 (some .boolean) ∈ gw := gmem 382 rfl rfl
set_option maxRecDepth 20000 in
theorem mL_L_29 : Cond.methodLink RL 29 yX1_peek ∈ gw := gmem 383 (by decide +kernel) rfl
set_option maxRecDepth 20000 in
theorem mI_X1_peek : Cond.instanceMethod yX1_peek ∈ gw := gmem 384 (by decide +kernel) rfl
set_option maxRecDepth 20000 in
theorem mE_X1_peek : Cond.selects RX1 yX1_peek yX1_peek ∈ gw := gmem 385 (by decide +kernel) rfl
set_option maxRecDepth 20000 in
theorem mC_X1_peek : Cond.code yX1_peek cX1_peek 2 (some .int) ∈ gw := gmem 386 rfl rfl
set_option maxRecDepth 20000 in
theorem mL_L_34 : Cond.methodLink RL 34 yX1_protect ∈ gw := gmem 387 (by decide +kernel) rfl
set_option maxRecDepth 20000 in
theorem mI_X1_protect : Cond.instanceMethod yX1_protect ∈ gw := gmem 388 (by decide +kernel) rfl
set_option maxRecDepth 20000 in
theorem mE_X1_protect : Cond.selects RX1 yX1_protect yX1_protect ∈ gw := gmem 389 (by decide +kernel) rfl
set_option maxRecDepth 20000 in
theorem mC_X1_protect : Cond.code yX1_protect cX1_protect 3 (some .boolean) ∈ gw := gmem 390 rfl rfl
set_option maxRecDepth 20000 in
theorem mL_L_38 : Cond.methodLink RL 38 yX1_set ∈ gw := gmem 391 (by decide +kernel) rfl
set_option maxRecDepth 20000 in
theorem mI_X1_set : Cond.instanceMethod yX1_set ∈ gw := gmem 392 (by decide +kernel) rfl
set_option maxRecDepth 20000 in
theorem mE_X1_set : Cond.selects RX1 yX1_set yX1_set ∈ gw := gmem 393 (by decide +kernel) rfl
set_option maxRecDepth 20000 in
theorem mC_X1_set : Cond.code yX1_set cX1_set 3 (some .boolean) ∈ gw := gmem 394 rfl rfl
set_option maxRecDepth 20000 in
theorem mL_L_42 : Cond.methodLink RL 42 yX1_register ∈ gw := gmem 395 (by decide +kernel) rfl
set_option maxRecDepth 20000 in
theorem mI_X1_register : Cond.instanceMethod yX1_register ∈ gw := gmem 396 (by decide +kernel) rfl
set_option maxRecDepth 20000 in
theorem mE_X1_register : Cond.selects RX1 yX1_register yX1_register ∈ gw := gmem 397 (by decide +kernel) rfl
set_option maxRecDepth 20000 in
theorem mC_X1_register : Cond.code yX1_register cX1_register 2 (some .int) ∈ gw := gmem 398 rfl rfl
set_option maxRecDepth 20000 in
theorem mL_L_47 : Cond.methodLink RL 47 yX1_jump ∈ gw := gmem 399 (by decide +kernel) rfl
set_option maxRecDepth 20000 in
theorem mI_X1_jump : Cond.instanceMethod yX1_jump ∈ gw := gmem 400 (by decide +kernel) rfl
set_option maxRecDepth 20000 in
theorem mE_X1_jump : Cond.selects RX1 yX1_jump yX1_jump ∈ gw := gmem 401 (by decide +kernel) rfl
set_option maxRecDepth 20000 in
theorem mC_X1_jump : Cond.code yX1_jump cX1_jump 2 none ∈ gw := gmem 402 rfl rfl
set_option maxRecDepth 20000 in
theorem mL_L_52 : Cond.methodLink RL 52 yX1_pc ∈ gw := gmem 403 (by decide +kernel) rfl
set_option maxRecDepth 20000 in
theorem mI_X1_pc : Cond.instanceMethod yX1_pc ∈ gw := gmem 404 (by decide +kernel) rfl
set_option maxRecDepth 20000 in
theorem mE_X1_pc : Cond.selects RX1 yX1_pc yX1_pc ∈ gw := gmem 405 (by decide +kernel) rfl
set_option maxRecDepth 20000 in
theorem mC_X1_pc : Cond.code yX1_pc cX1_pc 1 (some .int) ∈ gw := gmem 406 rfl rfl
set_option maxRecDepth 20000 in
theorem mL_L_58 : Cond.methodLink RL 58 yX1_run ∈ gw := gmem 407 (by decide +kernel) rfl
set_option maxRecDepth 20000 in
theorem mI_X1_run : Cond.instanceMethod yX1_run ∈ gw := gmem 408 (by decide +kernel) rfl
set_option maxRecDepth 20000 in
theorem mE_X1_run : Cond.selects RX1 yX1_run yX1_run ∈ gw := gmem 409 (by decide +kernel) rfl
set_option maxRecDepth 20000 in
theorem mC_X1_run : Cond.code yX1_run cX1_run 4 (some .int) ∈ gw := gmem 410 rfl rfl
set_option maxRecDepth 20000 in
theorem mL_X1_139 : Cond.methodLink RX1 139 yX1_step ∈ gw := gmem 411 (by decide +kernel) rfl
set_option maxRecDepth 20000 in
theorem mI_X1_step : Cond.instanceMethod yX1_step ∈ gw := gmem 413 (by decide +kernel) rfl
set_option maxRecDepth 20000 in
theorem mC_X1_step : Cond.code yX1_step cX1_step 1 (some .boolean) ∈ gw := gmem 414 rfl rfl
set_option maxRecDepth 20000 in
theorem mL_X1_60 : Cond.methodLink RX1 60 yX1_fail ∈ gw := gmem 415 (by decide +kernel) rfl
set_option maxRecDepth 20000 in
theorem mI_X1_fail : Cond.instanceMethod yX1_fail ∈ gw := gmem 417 (by decide +kernel) rfl
set_option maxRecDepth 20000 in
theorem mC_X1_fail : Cond.code yX1_fail cX1_fail 3 none ∈ gw := gmem 418 rfl rfl
set_option maxRecDepth 20000 in
theorem mL_X1_82 : Cond.methodLink RX1 82 yX1_may ∈ gw := gmem 419 (by decide +kernel) rfl
set_option maxRecDepth 20000 in
theorem mI_X1_may : Cond.instanceMethod yX1_may ∈ gw := gmem 421 (by decide +kernel) rfl
set_option maxRecDepth 20000 in
theorem mC_X1_may : Cond.code yX1_may cX1_may 4 (some .boolean) ∈ gw := gmem 422 rfl rfl
set_option maxRecDepth 20000 in
theorem mL_X1_85 : Cond.methodLink RX1 85 yX1_bytes ∈ gw := gmem 423 (by decide +kernel) rfl
set_option maxRecDepth 20000 in
theorem mI_X1_bytes : Cond.instanceMethod yX1_bytes ∈ gw := gmem 425 (by decide +kernel) rfl
set_option maxRecDepth 20000 in
theorem mC_X1_bytes : Cond.code yX1_bytes cX1_bytes 5 (some .int) ∈ gw := gmem 426 rfl rfl
set_option maxRecDepth 20000 in
theorem mL_X1_130 : Cond.methodLink RX1 130 yX1_perform ∈ gw := gmem 427 (by decide +kernel) rfl
set_option maxRecDepth 20000 in
theorem mI_X1_perform : Cond.instanceMethod yX1_perform ∈ gw := gmem 429 (by decide +kernel) rfl
set_option maxRecDepth 20000 in
theorem mC_X1_perform : Cond.code yX1_perform cX1_perform 5 none ∈ gw := gmem 430 rfl rfl
set_option maxRecDepth 20000 in
theorem mL_X1_33 : Cond.methodLink RX1 33 yX1_part ∈ gw := gmem 431 (by decide +kernel) rfl
set_option maxRecDepth 20000 in
theorem mI_X1_part : Cond.instanceMethod yX1_part ∈ gw := gmem 433 (by decide +kernel) rfl
set_option maxRecDepth 20000 in
theorem mC_X1_part : Cond.code yX1_part cX1_part 5 (some .int) ∈ gw := gmem 434 rfl rfl
set_option maxRecDepth 20000 in
theorem mL_X1_103 : Cond.methodLink RX1 103 yX1_u ∈ gw := gmem 435 (by decide +kernel) rfl
set_option maxRecDepth 20000 in
theorem mI_X1_u : Cond.instanceMethod yX1_u ∈ gw := gmem 437 (by decide +kernel) rfl
set_option maxRecDepth 20000 in
theorem mC_X1_u : Cond.code yX1_u cX1_u 1 (some .int) ∈ gw := gmem 438 rfl rfl
set_option maxRecDepth 20000 in
theorem mL_X1_67 : Cond.methodLink RX1 67 yX1_put ∈ gw := gmem 439 (by decide +kernel) rfl
set_option maxRecDepth 20000 in
theorem mI_X1_put : Cond.instanceMethod yX1_put ∈ gw := gmem 441 (by decide +kernel) rfl
set_option maxRecDepth 20000 in
theorem mC_X1_put : Cond.code yX1_put cX1_put 3 none ∈ gw := gmem 442 rfl rfl
set_option maxRecDepth 20000 in
theorem mL_X1_106 : Cond.methodLink RX1 106 yX1_j ∈ gw := gmem 443 (by decide +kernel) rfl
set_option maxRecDepth 20000 in
theorem mI_X1_j : Cond.instanceMethod yX1_j ∈ gw := gmem 445 (by decide +kernel) rfl
set_option maxRecDepth 20000 in
theorem mC_X1_j : Cond.code yX1_j cX1_j 1 (some .int) ∈ gw := gmem 446 rfl rfl
set_option maxRecDepth 20000 in
theorem mL_X1_37 : Cond.methodLink RX1 37 yX1_signed ∈ gw := gmem 447 (by decide +kernel) rfl
set_option maxRecDepth 20000 in
theorem mS_X1_signed : Cond.static yX1_signed ∈ gw := gmem 448 (by decide +kernel) rfl
set_option maxRecDepth 20000 in
theorem mC_X1_signed : Cond.code yX1_signed cX1_signed 2 (some .int) ∈ gw := gmem 449 rfl rfl
set_option maxRecDepth 20000 in
theorem mL_X1_78 : Cond.methodLink RX1 78 yX1_goTo ∈ gw := gmem 450 (by decide +kernel) rfl
set_option maxRecDepth 20000 in
theorem mI_X1_goTo : Cond.instanceMethod yX1_goTo ∈ gw := gmem 452 (by decide +kernel) rfl
set_option maxRecDepth 20000 in
theorem mC_X1_goTo : Cond.code yX1_goTo cX1_goTo 3 none ∈ gw := gmem 453 rfl rfl
set_option maxRecDepth 20000 in
theorem mL_X1_92 : Cond.methodLink RX1 92 yX1_i ∈ gw := gmem 454 (by decide +kernel) rfl
set_option maxRecDepth 20000 in
theorem mI_X1_i : Cond.instanceMethod yX1_i ∈ gw := gmem 456 (by decide +kernel) rfl
set_option maxRecDepth 20000 in
theorem mC_X1_i : Cond.code yX1_i cX1_i 1 (some .int) ∈ gw := gmem 457 rfl rfl
set_option maxRecDepth 20000 in
theorem mL_X1_71 : Cond.methodLink RX1 71 yX1_strange ∈ gw := gmem 458 (by decide +kernel) rfl
set_option maxRecDepth 20000 in
theorem mI_X1_strange : Cond.instanceMethod yX1_strange ∈ gw := gmem 460 (by decide +kernel) rfl
set_option maxRecDepth 20000 in
theorem mC_X1_strange : Cond.code yX1_strange cX1_strange 1 none ∈ gw := gmem 461 rfl rfl
set_option maxRecDepth 20000 in
theorem mL_X1_109 : Cond.methodLink RX1 109 yX1_branch ∈ gw := gmem 462 (by decide +kernel) rfl
set_option maxRecDepth 20000 in
theorem mI_X1_branch : Cond.instanceMethod yX1_branch ∈ gw := gmem 464 (by decide +kernel) rfl
set_option maxRecDepth 20000 in
theorem mC_X1_branch : Cond.code yX1_branch cX1_branch 5 none ∈ gw := gmem 465 rfl rfl
set_option maxRecDepth 20000 in
theorem mL_X1_40 : Cond.methodLink RX1 40 yX1_under ∈ gw := gmem 466 (by decide +kernel) rfl
set_option maxRecDepth 20000 in
theorem mS_X1_under : Cond.static yX1_under ∈ gw := gmem 467 (by decide +kernel) rfl
set_option maxRecDepth 20000 in
theorem mC_X1_under : Cond.code yX1_under cX1_under 6 (some .boolean) ∈ gw := gmem 468 rfl rfl
set_option maxRecDepth 20000 in
theorem mL_X1_74 : Cond.methodLink RX1 74 yX1_b ∈ gw := gmem 469 (by decide +kernel) rfl
set_option maxRecDepth 20000 in
theorem mI_X1_b : Cond.instanceMethod yX1_b ∈ gw := gmem 471 (by decide +kernel) rfl
set_option maxRecDepth 20000 in
theorem mC_X1_b : Cond.code yX1_b cX1_b 1 (some .int) ∈ gw := gmem 472 rfl rfl
set_option maxRecDepth 20000 in
theorem mL_X1_113 : Cond.methodLink RX1 113 yX1_load ∈ gw := gmem 473 (by decide +kernel) rfl
set_option maxRecDepth 20000 in
theorem mI_X1_load : Cond.instanceMethod yX1_load ∈ gw := gmem 475 (by decide +kernel) rfl
set_option maxRecDepth 20000 in
theorem mC_X1_load : Cond.code yX1_load cX1_load 5 none ∈ gw := gmem 476 rfl rfl
set_option maxRecDepth 20000 in
theorem mL_X1_116 : Cond.methodLink RX1 116 yX1_s ∈ gw := gmem 477 (by decide +kernel) rfl
set_option maxRecDepth 20000 in
theorem mI_X1_s : Cond.instanceMethod yX1_s ∈ gw := gmem 479 (by decide +kernel) rfl
set_option maxRecDepth 20000 in
theorem mC_X1_s : Cond.code yX1_s cX1_s 1 (some .int) ∈ gw := gmem 480 rfl rfl
set_option maxRecDepth 20000 in
theorem mL_X1_119 : Cond.methodLink RX1 119 yX1_store ∈ gw := gmem 481 (by decide +kernel) rfl
set_option maxRecDepth 20000 in
theorem mI_X1_store : Cond.instanceMethod yX1_store ∈ gw := gmem 483 (by decide +kernel) rfl
set_option maxRecDepth 20000 in
theorem mC_X1_store : Cond.code yX1_store cX1_store 6 none ∈ gw := gmem 484 rfl rfl
set_option maxRecDepth 20000 in
theorem mL_X1_122 : Cond.methodLink RX1 122 yX1_immediate ∈ gw := gmem 485 (by decide +kernel) rfl
set_option maxRecDepth 20000 in
theorem mI_X1_immediate : Cond.instanceMethod yX1_immediate ∈ gw := gmem 487 (by decide +kernel) rfl
set_option maxRecDepth 20000 in
theorem mC_X1_immediate : Cond.code yX1_immediate cX1_immediate 5 none ∈ gw := gmem 488 rfl rfl
set_option maxRecDepth 20000 in
theorem mL_X1_95 : Cond.methodLink RX1 95 yX1_worked ∈ gw := gmem 489 (by decide +kernel) rfl
set_option maxRecDepth 20000 in
theorem mS_X1_worked : Cond.static yX1_worked ∈ gw := gmem 490 (by decide +kernel) rfl
set_option maxRecDepth 20000 in
theorem mC_X1_worked : Cond.code yX1_worked cX1_worked 4 (some .int) ∈ gw := gmem 491 rfl rfl
set_option maxRecDepth 20000 in
theorem mL_X1_88 : Cond.methodLink RX1 88 yX1_moved ∈ gw := gmem 492 (by decide +kernel) rfl
set_option maxRecDepth 20000 in
theorem mS_X1_moved : Cond.static yX1_moved ∈ gw := gmem 493 (by decide +kernel) rfl
set_option maxRecDepth 20000 in
theorem mC_X1_moved : Cond.code yX1_moved cX1_moved 6 (some .int) ∈ gw := gmem 494 rfl rfl
set_option maxRecDepth 20000 in
theorem mL_X1_125 : Cond.methodLink RX1 125 yX1_both ∈ gw := gmem 495 (by decide +kernel) rfl
set_option maxRecDepth 20000 in
theorem mI_X1_both : Cond.instanceMethod yX1_both ∈ gw := gmem 497 (by decide +kernel) rfl
set_option maxRecDepth 20000 in
theorem mC_X1_both : Cond.code yX1_both cX1_both 5 none ∈ gw := gmem 498 rfl rfl
set_option maxRecDepth 20000 in
theorem mL_X1_99 : Cond.methodLink RX1 99 yX1_multiplied ∈ gw := gmem 499 (by decide +kernel) rfl
set_option maxRecDepth 20000 in
theorem mS_X1_multiplied : Cond.static yX1_multiplied ∈ gw := gmem 500 (by decide +kernel) rfl
set_option maxRecDepth 20000 in
theorem mC_X1_multiplied : Cond.code yX1_multiplied cX1_multiplied 4 (some .int) ∈ gw := gmem 501 rfl rfl
set_option maxRecDepth 20000 in
theorem mL_X1_48 : Cond.methodLink RX1 48 yX1_upper ∈ gw := gmem 502 (by decide +kernel) rfl
set_option maxRecDepth 20000 in
theorem mS_X1_upper : Cond.static yX1_upper ∈ gw := gmem 503 (by decide +kernel) rfl
set_option maxRecDepth 20000 in
theorem mC_X1_upper : Cond.code yX1_upper cX1_upper 6 (some .int) ∈ gw := gmem 504 rfl rfl
set_option maxRecDepth 20000 in
theorem mL_X1_51 : Cond.methodLink RX1 51 yX1_quotient ∈ gw := gmem 505 (by decide +kernel) rfl
set_option maxRecDepth 20000 in
theorem mS_X1_quotient : Cond.static yX1_quotient ∈ gw := gmem 506 (by decide +kernel) rfl
set_option maxRecDepth 20000 in
theorem mC_X1_quotient : Cond.code yX1_quotient cX1_quotient 5 (some .int) ∈ gw := gmem 507 rfl rfl
set_option maxRecDepth 20000 in
theorem mL_X1_44 : Cond.methodLink RX1 44 yX1_divided ∈ gw := gmem 508 (by decide +kernel) rfl
set_option maxRecDepth 20000 in
theorem mS_X1_divided : Cond.static yX1_divided ∈ gw := gmem 509 (by decide +kernel) rfl
set_option maxRecDepth 20000 in
theorem mC_X1_divided : Cond.code yX1_divided cX1_divided 8 (some .int) ∈ gw := gmem 510 rfl rfl
set_option maxRecDepth 20000 in
theorem mK_X1_129 : Cond.constant RX1 129 1048691 ∈ gw := gmem 511 (by decide +kernel) rfl
set_option maxRecDepth 20000 in
theorem mL_L_65 : Cond.methodLink RL 65 yX1_trap ∈ gw := gmem 512 (by decide +kernel) rfl
set_option maxRecDepth 20000 in
theorem mI_X1_trap : Cond.instanceMethod yX1_trap ∈ gw := gmem 513 (by decide +kernel) rfl
set_option maxRecDepth 20000 in
theorem mE_X1_trap : Cond.selects RX1 yX1_trap yX1_trap ∈ gw := gmem 514 (by decide +kernel) rfl
set_option maxRecDepth 20000 in
theorem mC_X1_trap : Cond.code yX1_trap cX1_trap 1 (some .int) ∈ gw := gmem 515 rfl rfl
set_option maxRecDepth 20000 in
theorem mL_L_69 : Cond.methodLink RL 69 yX1_value ∈ gw := gmem 516 (by decide +kernel) rfl
set_option maxRecDepth 20000 in
theorem mI_X1_value : Cond.instanceMethod yX1_value ∈ gw := gmem 517 (by decide +kernel) rfl
set_option maxRecDepth 20000 in
theorem mE_X1_value : Cond.selects RX1 yX1_value yX1_value ∈ gw := gmem 518 (by decide +kernel) rfl
set_option maxRecDepth 20000 in
theorem mC_X1_value : Cond.code yX1_value cX1_value 1 (some .int) ∈ gw := gmem 519 rfl rfl
set_option maxRecDepth 20000 in
theorem mL_L_73 : Cond.methodLink RL 73 yX1_done ∈ gw := gmem 520 (by decide +kernel) rfl
set_option maxRecDepth 20000 in
theorem mI_X1_done : Cond.instanceMethod yX1_done ∈ gw := gmem 521 (by decide +kernel) rfl
set_option maxRecDepth 20000 in
theorem mE_X1_done : Cond.selects RX1 yX1_done yX1_done ∈ gw := gmem 522 (by decide +kernel) rfl
set_option maxRecDepth 20000 in
theorem mC_X1_done : Cond.code yX1_done cX1_done 1 (some .int) ∈ gw := gmem 523 rfl rfl
set_option maxRecDepth 20000 in
theorem mK_L_19 : Cond.constantLong RL 19 4294967295 ∈ gw := gmem 524 (by decide +kernel) rfl
set_option maxRecDepth 20000 in
theorem mA_long : Cond.arrayClass .long ∈ gw := gmem 525 (by decide +kernel) rfl
set_option maxRecDepth 20000 in
theorem mE_X0_putBytes : Cond.selects RX0 yX0_putBytes yX0_putBytes ∈ gw := gmem 0 (by decide +kernel) rfl
set_option maxRecDepth 20000 in
theorem mE_X0_bytesFrom : Cond.selects RX0 yX0_bytesFrom yX0_bytesFrom ∈ gw := gmem 1 (by decide +kernel) rfl
set_option maxRecDepth 20000 in
theorem mE_X0_putRegister : Cond.selects RX0 yX0_putRegister yX0_putRegister ∈ gw := gmem 2 (by decide +kernel) rfl
set_option maxRecDepth 20000 in
theorem mE_X0_makeStep : Cond.selects RX0 yX0_makeStep yX0_makeStep ∈ gw := gmem 4 (by decide +kernel) rfl
set_option maxRecDepth 20000 in
theorem mE_X0_trapWith : Cond.selects RX0 yX0_trapWith yX0_trapWith ∈ gw := gmem 5 (by decide +kernel) rfl
set_option maxRecDepth 20000 in
theorem mE_X0_hasRight : Cond.selects RX0 yX0_hasRight yX0_hasRight ∈ gw := gmem 6 (by decide +kernel) rfl
set_option maxRecDepth 20000 in
theorem mE_X0_execute : Cond.selects RX0 yX0_execute yX0_execute ∈ gw := gmem 7 (by decide +kernel) rfl
set_option maxRecDepth 20000 in
theorem mE_X0_finish : Cond.selects RX0 yX0_finish yX0_finish ∈ gw := gmem 8 (by decide +kernel) rfl
set_option maxRecDepth 20000 in
theorem mE_X0_linkAndGo : Cond.selects RX0 yX0_linkAndGo yX0_linkAndGo ∈ gw := gmem 9 (by decide +kernel) rfl
set_option maxRecDepth 20000 in
theorem mE_X0_goToRegister : Cond.selects RX0 yX0_goToRegister yX0_goToRegister ∈ gw := gmem 10 (by decide +kernel) rfl
set_option maxRecDepth 20000 in
theorem mE_X0_refuse : Cond.selects RX0 yX0_refuse yX0_refuse ∈ gw := gmem 11 (by decide +kernel) rfl
set_option maxRecDepth 20000 in
theorem mE_X0_registerA : Cond.selects RX0 yX0_registerA yX0_registerA ∈ gw := gmem 12 (by decide +kernel) rfl
set_option maxRecDepth 20000 in
theorem mE_X0_branch : Cond.selects RX0 yX0_branch yX0_branch ∈ gw := gmem 13 (by decide +kernel) rfl
set_option maxRecDepth 20000 in
theorem mE_X0_registerB : Cond.selects RX0 yX0_registerB yX0_registerB ∈ gw := gmem 14 (by decide +kernel) rfl
set_option maxRecDepth 20000 in
theorem mE_X0_load : Cond.selects RX0 yX0_load yX0_load ∈ gw := gmem 15 (by decide +kernel) rfl
set_option maxRecDepth 20000 in
theorem mE_X0_store : Cond.selects RX0 yX0_store yX0_store ∈ gw := gmem 16 (by decide +kernel) rfl
set_option maxRecDepth 20000 in
theorem mE_X0_computeWithImmediate : Cond.selects RX0 yX0_computeWithImmediate yX0_computeWithImmediate ∈ gw := gmem 17 (by decide +kernel) rfl
set_option maxRecDepth 20000 in
theorem mE_X0_computeWithRegisters : Cond.selects RX0 yX0_computeWithRegisters yX0_computeWithRegisters ∈ gw := gmem 18 (by decide +kernel) rfl
set_option maxRecDepth 20000 in
theorem mE_X0_fence : Cond.selects RX0 yX0_fence yX0_fence ∈ gw := gmem 19 (by decide +kernel) rfl
set_option maxRecDepth 20000 in
theorem mE_X0_callOrBreak : Cond.selects RX0 yX0_callOrBreak yX0_callOrBreak ∈ gw := gmem 20 (by decide +kernel) rfl
set_option maxRecDepth 20000 in
theorem mE_X1_step : Cond.selects RX1 yX1_step yX1_step ∈ gw := gmem 21 (by decide +kernel) rfl
set_option maxRecDepth 20000 in
theorem mE_X1_fail : Cond.selects RX1 yX1_fail yX1_fail ∈ gw := gmem 22 (by decide +kernel) rfl
set_option maxRecDepth 20000 in
theorem mE_X1_may : Cond.selects RX1 yX1_may yX1_may ∈ gw := gmem 23 (by decide +kernel) rfl
set_option maxRecDepth 20000 in
theorem mE_X1_bytes : Cond.selects RX1 yX1_bytes yX1_bytes ∈ gw := gmem 24 (by decide +kernel) rfl
set_option maxRecDepth 20000 in
theorem mE_X1_perform : Cond.selects RX1 yX1_perform yX1_perform ∈ gw := gmem 25 (by decide +kernel) rfl
set_option maxRecDepth 20000 in
theorem mE_X1_part : Cond.selects RX1 yX1_part yX1_part ∈ gw := gmem 26 (by decide +kernel) rfl
set_option maxRecDepth 20000 in
theorem mE_X1_u : Cond.selects RX1 yX1_u yX1_u ∈ gw := gmem 27 (by decide +kernel) rfl
set_option maxRecDepth 20000 in
theorem mE_X1_put : Cond.selects RX1 yX1_put yX1_put ∈ gw := gmem 28 (by decide +kernel) rfl
set_option maxRecDepth 20000 in
theorem mE_X1_j : Cond.selects RX1 yX1_j yX1_j ∈ gw := gmem 29 (by decide +kernel) rfl
set_option maxRecDepth 20000 in
theorem mE_X1_goTo : Cond.selects RX1 yX1_goTo yX1_goTo ∈ gw := gmem 30 (by decide +kernel) rfl
set_option maxRecDepth 20000 in
theorem mE_X1_i : Cond.selects RX1 yX1_i yX1_i ∈ gw := gmem 31 (by decide +kernel) rfl
set_option maxRecDepth 20000 in
theorem mE_X1_strange : Cond.selects RX1 yX1_strange yX1_strange ∈ gw := gmem 32 (by decide +kernel) rfl
set_option maxRecDepth 20000 in
theorem mE_X1_branch : Cond.selects RX1 yX1_branch yX1_branch ∈ gw := gmem 33 (by decide +kernel) rfl
set_option maxRecDepth 20000 in
theorem mE_X1_b : Cond.selects RX1 yX1_b yX1_b ∈ gw := gmem 34 (by decide +kernel) rfl
set_option maxRecDepth 20000 in
theorem mE_X1_load : Cond.selects RX1 yX1_load yX1_load ∈ gw := gmem 35 (by decide +kernel) rfl
set_option maxRecDepth 20000 in
theorem mE_X1_s : Cond.selects RX1 yX1_s yX1_s ∈ gw := gmem 36 (by decide +kernel) rfl
set_option maxRecDepth 20000 in
theorem mE_X1_store : Cond.selects RX1 yX1_store yX1_store ∈ gw := gmem 37 (by decide +kernel) rfl
set_option maxRecDepth 20000 in
theorem mE_X1_immediate : Cond.selects RX1 yX1_immediate yX1_immediate ∈ gw := gmem 38 (by decide +kernel) rfl
set_option maxRecDepth 20000 in
theorem mE_X1_both : Cond.selects RX1 yX1_both yX1_both ∈ gw := gmem 39 (by decide +kernel) rfl
set_option maxRecDepth 20000 in
theorem mN_X0 : Cond.initialized RX0 ∈ gw := gmem 41 (by decide +kernel) rfl
set_option maxRecDepth 20000 in
theorem mN_X1 : Cond.initialized RX1 ∈ gw := gmem 42 (by decide +kernel) rfl
set_option maxRecDepth 20000 in
theorem mN_L : Cond.initialized RL ∈ gw := gmem 40 (by decide +kernel) rfl
set_option maxRecDepth 20000 in
theorem mI_objectInit : Cond.instanceMethod objectInit ∈ gw := gmem 53 (by decide +kernel) rfl
set_option maxRecDepth 20000 in
theorem mC_objectInit : Cond.code objectInit object_method_1_code 1 none ∈ gw := gmem 54 rfl rfl
end
section
theorem dX0_init_0 : decode cX0_init 0 = .ok (.aload_n 0, 1) := by decide +kernel
theorem dX0_init_1 : decode cX0_init 1 = .ok (.invokespecial 3, 3) := by decide +kernel
theorem dX0_init_4 : decode cX0_init 4 = .ok (.aload_n 0, 1) := by decide +kernel
theorem dX0_init_5 : decode cX0_init 5 = .ok (.sipush 4096, 3) := by decide +kernel
theorem dX0_init_8 : decode cX0_init 8 = .ok (.newarray .int, 2) := by decide +kernel
theorem dX0_init_10 : decode cX0_init 10 = .ok (.putfield 9, 3) := by decide +kernel
theorem dX0_init_13 : decode cX0_init 13 = .ok (.aload_n 0, 1) := by decide +kernel
theorem dX0_init_14 : decode cX0_init 14 = .ok (.iconst 4, 1) := by decide +kernel
theorem dX0_init_15 : decode cX0_init 15 = .ok (.newarray .int, 2) := by decide +kernel
theorem dX0_init_17 : decode cX0_init 17 = .ok (.dup, 1) := by decide +kernel
theorem dX0_init_18 : decode cX0_init 18 = .ok (.iconst 0, 1) := by decide +kernel
theorem dX0_init_19 : decode cX0_init 19 = .ok (.bipush 7, 2) := by decide +kernel
theorem dX0_init_21 : decode cX0_init 21 = .ok (.iastore, 1) := by decide +kernel
theorem dX0_init_22 : decode cX0_init 22 = .ok (.dup, 1) := by decide +kernel
theorem dX0_init_23 : decode cX0_init 23 = .ok (.iconst 1, 1) := by decide +kernel
theorem dX0_init_24 : decode cX0_init 24 = .ok (.bipush 7, 2) := by decide +kernel
theorem dX0_init_26 : decode cX0_init 26 = .ok (.iastore, 1) := by decide +kernel
theorem dX0_init_27 : decode cX0_init 27 = .ok (.dup, 1) := by decide +kernel
theorem dX0_init_28 : decode cX0_init 28 = .ok (.iconst 2, 1) := by decide +kernel
theorem dX0_init_29 : decode cX0_init 29 = .ok (.bipush 7, 2) := by decide +kernel
theorem dX0_init_31 : decode cX0_init 31 = .ok (.iastore, 1) := by decide +kernel
theorem dX0_init_32 : decode cX0_init 32 = .ok (.dup, 1) := by decide +kernel
theorem dX0_init_33 : decode cX0_init 33 = .ok (.iconst 3, 1) := by decide +kernel
theorem dX0_init_34 : decode cX0_init 34 = .ok (.bipush 7, 2) := by decide +kernel
theorem dX0_init_36 : decode cX0_init 36 = .ok (.iastore, 1) := by decide +kernel
theorem dX0_init_37 : decode cX0_init 37 = .ok (.putfield 13, 3) := by decide +kernel
theorem dX0_init_40 : decode cX0_init 40 = .ok (.aload_n 0, 1) := by decide +kernel
theorem dX0_init_41 : decode cX0_init 41 = .ok (.bipush 32, 2) := by decide +kernel
theorem dX0_init_43 : decode cX0_init 43 = .ok (.newarray .int, 2) := by decide +kernel
theorem dX0_init_45 : decode cX0_init 45 = .ok (.putfield 16, 3) := by decide +kernel
theorem dX0_init_48 : decode cX0_init 48 = .ok (.aload_n 0, 1) := by decide +kernel
theorem dX0_init_49 : decode cX0_init 49 = .ok (.iconst 0, 1) := by decide +kernel
theorem dX0_init_50 : decode cX0_init 50 = .ok (.putfield 19, 3) := by decide +kernel
theorem dX0_init_53 : decode cX0_init 53 = .ok (.aload_n 0, 1) := by decide +kernel
theorem dX0_init_54 : decode cX0_init 54 = .ok (.iconst (-1), 1) := by decide +kernel
theorem dX0_init_55 : decode cX0_init 55 = .ok (.putfield 23, 3) := by decide +kernel
theorem dX0_init_58 : decode cX0_init 58 = .ok (.aload_n 0, 1) := by decide +kernel
theorem dX0_init_59 : decode cX0_init 59 = .ok (.iconst 0, 1) := by decide +kernel
theorem dX0_init_60 : decode cX0_init 60 = .ok (.putfield 26, 3) := by decide +kernel
theorem dX0_init_63 : decode cX0_init 63 = .ok (.aload_n 0, 1) := by decide +kernel
theorem dX0_init_64 : decode cX0_init 64 = .ok (.iconst 0, 1) := by decide +kernel
theorem dX0_init_65 : decode cX0_init 65 = .ok (.putfield 29, 3) := by decide +kernel
theorem dX0_init_68 : decode cX0_init 68 = .ok (.return_, 1) := by decide +kernel
theorem dX0_poke_0 : decode cX0_poke 0 = .ok (.iload_n 2, 1) := by decide +kernel
theorem dX0_poke_1 : decode cX0_poke 1 = .ok (.iconst 1, 1) := by decide +kernel
theorem dX0_poke_2 : decode cX0_poke 2 = .ok (.if_icmp .lt 9, 3) := by decide +kernel
theorem dX0_poke_5 : decode cX0_poke 5 = .ok (.iload_n 2, 1) := by decide +kernel
theorem dX0_poke_6 : decode cX0_poke 6 = .ok (.bipush 8, 2) := by decide +kernel
theorem dX0_poke_8 : decode cX0_poke 8 = .ok (.if_icmp .le 5, 3) := by decide +kernel
theorem dX0_poke_11 : decode cX0_poke 11 = .ok (.iconst 0, 1) := by decide +kernel
theorem dX0_poke_12 : decode cX0_poke 12 = .ok (.ireturn, 1) := by decide +kernel
theorem dX0_poke_13 : decode cX0_poke 13 = .ok (.iload_n 1, 1) := by decide +kernel
theorem dX0_poke_14 : decode cX0_poke 14 = .ok (.ifCond .lt 12, 3) := by decide +kernel
theorem dX0_poke_17 : decode cX0_poke 17 = .ok (.iload_n 1, 1) := by decide +kernel
theorem dX0_poke_18 : decode cX0_poke 18 = .ok (.sipush 16384, 3) := by decide +kernel
theorem dX0_poke_21 : decode cX0_poke 21 = .ok (.iload_n 2, 1) := by decide +kernel
theorem dX0_poke_22 : decode cX0_poke 22 = .ok (.isub, 1) := by decide +kernel
theorem dX0_poke_23 : decode cX0_poke 23 = .ok (.if_icmp .le 5, 3) := by decide +kernel
theorem dX0_poke_26 : decode cX0_poke 26 = .ok (.iconst 0, 1) := by decide +kernel
theorem dX0_poke_27 : decode cX0_poke 27 = .ok (.ireturn, 1) := by decide +kernel
theorem dX0_poke_28 : decode cX0_poke 28 = .ok (.aload_n 0, 1) := by decide +kernel
theorem dX0_poke_29 : decode cX0_poke 29 = .ok (.iload_n 1, 1) := by decide +kernel
theorem dX0_poke_30 : decode cX0_poke 30 = .ok (.iload_n 2, 1) := by decide +kernel
theorem dX0_poke_31 : decode cX0_poke 31 = .ok (.lload_n 3, 1) := by decide +kernel
theorem dX0_poke_32 : decode cX0_poke 32 = .ok (.invokevirtual 32, 3) := by decide +kernel
theorem dX0_poke_35 : decode cX0_poke 35 = .ok (.iconst 1, 1) := by decide +kernel
theorem dX0_poke_36 : decode cX0_poke 36 = .ok (.ireturn, 1) := by decide +kernel
theorem dX0_peek_0 : decode cX0_peek 0 = .ok (.iload_n 1, 1) := by decide +kernel
theorem dX0_peek_1 : decode cX0_peek 1 = .ok (.invokestatic 36, 3) := by decide +kernel
theorem dX0_peek_4 : decode cX0_peek 4 = .ok (.ifCond .ne 5, 3) := by decide +kernel
theorem dX0_peek_7 : decode cX0_peek 7 = .ok (.iconst (-1), 1) := by decide +kernel
theorem dX0_peek_8 : decode cX0_peek 8 = .ok (.ireturn, 1) := by decide +kernel
theorem dX0_peek_9 : decode cX0_peek 9 = .ok (.aload_n 0, 1) := by decide +kernel
theorem dX0_peek_10 : decode cX0_peek 10 = .ok (.iload_n 1, 1) := by decide +kernel
theorem dX0_peek_11 : decode cX0_peek 11 = .ok (.invokevirtual 40, 3) := by decide +kernel
theorem dX0_peek_14 : decode cX0_peek 14 = .ok (.sipush 255, 3) := by decide +kernel
theorem dX0_peek_17 : decode cX0_peek 17 = .ok (.iand, 1) := by decide +kernel
theorem dX0_peek_18 : decode cX0_peek 18 = .ok (.ireturn, 1) := by decide +kernel
theorem dX0_protect_0 : decode cX0_protect 0 = .ok (.iload_n 1, 1) := by decide +kernel
theorem dX0_protect_1 : decode cX0_protect 1 = .ok (.ifCond .lt 18, 3) := by decide +kernel
theorem dX0_protect_4 : decode cX0_protect 4 = .ok (.iload_n 1, 1) := by decide +kernel
theorem dX0_protect_5 : decode cX0_protect 5 = .ok (.iconst 4, 1) := by decide +kernel
theorem dX0_protect_6 : decode cX0_protect 6 = .ok (.if_icmp .ge 13, 3) := by decide +kernel
theorem dX0_protect_9 : decode cX0_protect 9 = .ok (.iload_n 2, 1) := by decide +kernel
theorem dX0_protect_10 : decode cX0_protect 10 = .ok (.ifCond .lt 9, 3) := by decide +kernel
theorem dX0_protect_13 : decode cX0_protect 13 = .ok (.iload_n 2, 1) := by decide +kernel
theorem dX0_protect_14 : decode cX0_protect 14 = .ok (.bipush 7, 2) := by decide +kernel
theorem dX0_protect_16 : decode cX0_protect 16 = .ok (.if_icmp .le 5, 3) := by decide +kernel
theorem dX0_protect_19 : decode cX0_protect 19 = .ok (.iconst 0, 1) := by decide +kernel
theorem dX0_protect_20 : decode cX0_protect 20 = .ok (.ireturn, 1) := by decide +kernel
theorem dX0_protect_21 : decode cX0_protect 21 = .ok (.aload_n 0, 1) := by decide +kernel
theorem dX0_protect_22 : decode cX0_protect 22 = .ok (.getfield 13, 3) := by decide +kernel
theorem dX0_protect_25 : decode cX0_protect 25 = .ok (.iload_n 1, 1) := by decide +kernel
theorem dX0_protect_26 : decode cX0_protect 26 = .ok (.iload_n 2, 1) := by decide +kernel
theorem dX0_protect_27 : decode cX0_protect 27 = .ok (.iastore, 1) := by decide +kernel
theorem dX0_protect_28 : decode cX0_protect 28 = .ok (.iconst 1, 1) := by decide +kernel
theorem dX0_protect_29 : decode cX0_protect 29 = .ok (.ireturn, 1) := by decide +kernel
theorem dX0_set_0 : decode cX0_set 0 = .ok (.iload_n 1, 1) := by decide +kernel
theorem dX0_set_1 : decode cX0_set 1 = .ok (.invokestatic 44, 3) := by decide +kernel
theorem dX0_set_4 : decode cX0_set 4 = .ok (.ifCond .ne 5, 3) := by decide +kernel
theorem dX0_set_7 : decode cX0_set 7 = .ok (.iconst 0, 1) := by decide +kernel
theorem dX0_set_8 : decode cX0_set 8 = .ok (.ireturn, 1) := by decide +kernel
theorem dX0_set_9 : decode cX0_set 9 = .ok (.aload_n 0, 1) := by decide +kernel
theorem dX0_set_10 : decode cX0_set 10 = .ok (.iload_n 1, 1) := by decide +kernel
theorem dX0_set_11 : decode cX0_set 11 = .ok (.iload_n 2, 1) := by decide +kernel
theorem dX0_set_12 : decode cX0_set 12 = .ok (.invokevirtual 47, 3) := by decide +kernel
theorem dX0_set_15 : decode cX0_set 15 = .ok (.iconst 1, 1) := by decide +kernel
theorem dX0_set_16 : decode cX0_set 16 = .ok (.ireturn, 1) := by decide +kernel
theorem dX0_register_0 : decode cX0_register 0 = .ok (.iload_n 1, 1) := by decide +kernel
theorem dX0_register_1 : decode cX0_register 1 = .ok (.invokestatic 44, 3) := by decide +kernel
theorem dX0_register_4 : decode cX0_register 4 = .ok (.ifCond .eq 12, 3) := by decide +kernel
theorem dX0_register_7 : decode cX0_register 7 = .ok (.aload_n 0, 1) := by decide +kernel
theorem dX0_register_8 : decode cX0_register 8 = .ok (.getfield 16, 3) := by decide +kernel
theorem dX0_register_11 : decode cX0_register 11 = .ok (.iload_n 1, 1) := by decide +kernel
theorem dX0_register_12 : decode cX0_register 12 = .ok (.iaload, 1) := by decide +kernel
theorem dX0_register_13 : decode cX0_register 13 = .ok (.goto 4, 3) := by decide +kernel
theorem dX0_register_16 : decode cX0_register 16 = .ok (.iconst 0, 1) := by decide +kernel
theorem dX0_register_17 : decode cX0_register 17 = .ok (.ireturn, 1) := by decide +kernel
theorem dX0_jump_0 : decode cX0_jump 0 = .ok (.aload_n 0, 1) := by decide +kernel
theorem dX0_jump_1 : decode cX0_jump 1 = .ok (.iload_n 1, 1) := by decide +kernel
theorem dX0_jump_2 : decode cX0_jump 2 = .ok (.putfield 19, 3) := by decide +kernel
theorem dX0_jump_5 : decode cX0_jump 5 = .ok (.return_, 1) := by decide +kernel
theorem dX0_pc_0 : decode cX0_pc 0 = .ok (.aload_n 0, 1) := by decide +kernel
theorem dX0_pc_1 : decode cX0_pc 1 = .ok (.getfield 19, 3) := by decide +kernel
theorem dX0_pc_4 : decode cX0_pc 4 = .ok (.ireturn, 1) := by decide +kernel
theorem dX0_run_0 : decode cX0_run 0 = .ok (.iload_n 1, 1) := by decide +kernel
theorem dX0_run_1 : decode cX0_run 1 = .ok (.ifCond .lt 10, 3) := by decide +kernel
theorem dX0_run_4 : decode cX0_run 4 = .ok (.iload_n 1, 1) := by decide +kernel
theorem dX0_run_5 : decode cX0_run 5 = .ok (.sipush 2000, 3) := by decide +kernel
theorem dX0_run_8 : decode cX0_run 8 = .ok (.if_icmp .le 13, 3) := by decide +kernel
theorem dX0_run_11 : decode cX0_run 11 = .ok (.new 51, 3) := by decide +kernel
theorem dX0_run_14 : decode cX0_run 14 = .ok (.dup, 1) := by decide +kernel
theorem dX0_run_15 : decode cX0_run 15 = .ok (.ldc 53, 2) := by decide +kernel
theorem dX0_run_17 : decode cX0_run 17 = .ok (.invokespecial 55, 3) := by decide +kernel
theorem dX0_run_20 : decode cX0_run 20 = .ok (.athrow, 1) := by decide +kernel
theorem dX0_run_21 : decode cX0_run 21 = .ok (.aload_n 0, 1) := by decide +kernel
theorem dX0_run_22 : decode cX0_run 22 = .ok (.iconst (-1), 1) := by decide +kernel
theorem dX0_run_23 : decode cX0_run 23 = .ok (.putfield 23, 3) := by decide +kernel
theorem dX0_run_26 : decode cX0_run 26 = .ok (.aload_n 0, 1) := by decide +kernel
theorem dX0_run_27 : decode cX0_run 27 = .ok (.iconst 0, 1) := by decide +kernel
theorem dX0_run_28 : decode cX0_run 28 = .ok (.putfield 26, 3) := by decide +kernel
theorem dX0_run_31 : decode cX0_run 31 = .ok (.iconst 0, 1) := by decide +kernel
theorem dX0_run_32 : decode cX0_run 32 = .ok (.istore_n 2, 1) := by decide +kernel
theorem dX0_run_33 : decode cX0_run 33 = .ok (.iconst 0, 1) := by decide +kernel
theorem dX0_run_34 : decode cX0_run 34 = .ok (.istore_n 3, 1) := by decide +kernel
theorem dX0_run_35 : decode cX0_run 35 = .ok (.iload_n 3, 1) := by decide +kernel
theorem dX0_run_36 : decode cX0_run 36 = .ok (.iload_n 1, 1) := by decide +kernel
theorem dX0_run_37 : decode cX0_run 37 = .ok (.if_icmp .ge 22, 3) := by decide +kernel
theorem dX0_run_40 : decode cX0_run 40 = .ok (.aload_n 0, 1) := by decide +kernel
theorem dX0_run_41 : decode cX0_run 41 = .ok (.invokevirtual 58, 3) := by decide +kernel
theorem dX0_run_44 : decode cX0_run 44 = .ok (.ifCond .ne 6, 3) := by decide +kernel
theorem dX0_run_47 : decode cX0_run 47 = .ok (.goto 12, 3) := by decide +kernel
theorem dX0_run_50 : decode cX0_run 50 = .ok (.iinc 2 1, 3) := by decide +kernel
theorem dX0_run_53 : decode cX0_run 53 = .ok (.iinc 3 1, 3) := by decide +kernel
theorem dX0_run_56 : decode cX0_run 56 = .ok (.goto (-21), 3) := by decide +kernel
theorem dX0_run_59 : decode cX0_run 59 = .ok (.aload_n 0, 1) := by decide +kernel
theorem dX0_run_60 : decode cX0_run 60 = .ok (.dup, 1) := by decide +kernel
theorem dX0_run_61 : decode cX0_run 61 = .ok (.getfield 29, 3) := by decide +kernel
theorem dX0_run_64 : decode cX0_run 64 = .ok (.iload_n 2, 1) := by decide +kernel
theorem dX0_run_65 : decode cX0_run 65 = .ok (.iadd, 1) := by decide +kernel
theorem dX0_run_66 : decode cX0_run 66 = .ok (.putfield 29, 3) := by decide +kernel
theorem dX0_run_69 : decode cX0_run 69 = .ok (.iload_n 2, 1) := by decide +kernel
theorem dX0_run_70 : decode cX0_run 70 = .ok (.ireturn, 1) := by decide +kernel
theorem dX0_trap_0 : decode cX0_trap 0 = .ok (.aload_n 0, 1) := by decide +kernel
theorem dX0_trap_1 : decode cX0_trap 1 = .ok (.getfield 23, 3) := by decide +kernel
theorem dX0_trap_4 : decode cX0_trap 4 = .ok (.ireturn, 1) := by decide +kernel
theorem dX0_value_0 : decode cX0_value 0 = .ok (.aload_n 0, 1) := by decide +kernel
theorem dX0_value_1 : decode cX0_value 1 = .ok (.getfield 26, 3) := by decide +kernel
theorem dX0_value_4 : decode cX0_value 4 = .ok (.ireturn, 1) := by decide +kernel
theorem dX0_done_0 : decode cX0_done 0 = .ok (.aload_n 0, 1) := by decide +kernel
theorem dX0_done_1 : decode cX0_done 1 = .ok (.getfield 29, 3) := by decide +kernel
theorem dX0_done_4 : decode cX0_done 4 = .ok (.ireturn, 1) := by decide +kernel
theorem dX0_makeStep_0 : decode cX0_makeStep 0 = .ok (.aload_n 0, 1) := by decide +kernel
theorem dX0_makeStep_1 : decode cX0_makeStep 1 = .ok (.getfield 19, 3) := by decide +kernel
theorem dX0_makeStep_4 : decode cX0_makeStep 4 = .ok (.iconst 4, 1) := by decide +kernel
theorem dX0_makeStep_5 : decode cX0_makeStep 5 = .ok (.invokestatic 62, 3) := by decide +kernel
theorem dX0_makeStep_8 : decode cX0_makeStep 8 = .ok (.ifCond .eq 13, 3) := by decide +kernel
theorem dX0_makeStep_11 : decode cX0_makeStep 11 = .ok (.aload_n 0, 1) := by decide +kernel
theorem dX0_makeStep_12 : decode cX0_makeStep 12 = .ok (.iconst 0, 1) := by decide +kernel
theorem dX0_makeStep_13 : decode cX0_makeStep 13 = .ok (.aload_n 0, 1) := by decide +kernel
theorem dX0_makeStep_14 : decode cX0_makeStep 14 = .ok (.getfield 19, 3) := by decide +kernel
theorem dX0_makeStep_17 : decode cX0_makeStep 17 = .ok (.invokevirtual 66, 3) := by decide +kernel
theorem dX0_makeStep_20 : decode cX0_makeStep 20 = .ok (.ireturn, 1) := by decide +kernel
theorem dX0_makeStep_21 : decode cX0_makeStep 21 = .ok (.aload_n 0, 1) := by decide +kernel
theorem dX0_makeStep_22 : decode cX0_makeStep 22 = .ok (.aload_n 0, 1) := by decide +kernel
theorem dX0_makeStep_23 : decode cX0_makeStep 23 = .ok (.getfield 19, 3) := by decide +kernel
theorem dX0_makeStep_26 : decode cX0_makeStep 26 = .ok (.iconst 4, 1) := by decide +kernel
theorem dX0_makeStep_27 : decode cX0_makeStep 27 = .ok (.invokevirtual 69, 3) := by decide +kernel
theorem dX0_makeStep_30 : decode cX0_makeStep 30 = .ok (.ifCond .ne 14, 3) := by decide +kernel
theorem dX0_makeStep_33 : decode cX0_makeStep 33 = .ok (.aload_n 0, 1) := by decide +kernel
theorem dX0_makeStep_34 : decode cX0_makeStep 34 = .ok (.bipush 12, 2) := by decide +kernel
theorem dX0_makeStep_36 : decode cX0_makeStep 36 = .ok (.aload_n 0, 1) := by decide +kernel
theorem dX0_makeStep_37 : decode cX0_makeStep 37 = .ok (.getfield 19, 3) := by decide +kernel
theorem dX0_makeStep_40 : decode cX0_makeStep 40 = .ok (.invokevirtual 66, 3) := by decide +kernel
theorem dX0_makeStep_43 : decode cX0_makeStep 43 = .ok (.ireturn, 1) := by decide +kernel
theorem dX0_makeStep_44 : decode cX0_makeStep 44 = .ok (.aload_n 0, 1) := by decide +kernel
theorem dX0_makeStep_45 : decode cX0_makeStep 45 = .ok (.aload_n 0, 1) := by decide +kernel
theorem dX0_makeStep_46 : decode cX0_makeStep 46 = .ok (.getfield 9, 3) := by decide +kernel
theorem dX0_makeStep_49 : decode cX0_makeStep 49 = .ok (.aload_n 0, 1) := by decide +kernel
theorem dX0_makeStep_50 : decode cX0_makeStep 50 = .ok (.getfield 19, 3) := by decide +kernel
theorem dX0_makeStep_53 : decode cX0_makeStep 53 = .ok (.iconst 2, 1) := by decide +kernel
theorem dX0_makeStep_54 : decode cX0_makeStep 54 = .ok (.iushr, 1) := by decide +kernel
theorem dX0_makeStep_55 : decode cX0_makeStep 55 = .ok (.iaload, 1) := by decide +kernel
theorem dX0_makeStep_56 : decode cX0_makeStep 56 = .ok (.invokevirtual 72, 3) := by decide +kernel
theorem dX0_makeStep_59 : decode cX0_makeStep 59 = .ok (.ireturn, 1) := by decide +kernel
theorem dX0_execute_0 : decode cX0_execute 0 = .ok (.iload_n 1, 1) := by decide +kernel
theorem dX0_execute_1 : decode cX0_execute 1 = .ok (.bipush 127, 2) := by decide +kernel
theorem dX0_execute_3 : decode cX0_execute 3 = .ok (.iand, 1) := by decide +kernel
theorem dX0_execute_4 : decode cX0_execute 4 = .ok (.lookupswitch 188 #[(3, 152), (15, 176), (19, 164), (23, 110), (35, 158), (51, 170), (55, 100), (99, 146), (103, 140), (111, 125), (115, 182)], 100) := by decide +kernel
theorem dX0_execute_104 : decode cX0_execute 104 = .ok (.aload_n 0, 1) := by decide +kernel
theorem dX0_execute_105 : decode cX0_execute 105 = .ok (.iload_n 1, 1) := by decide +kernel
theorem dX0_execute_106 : decode cX0_execute 106 = .ok (.iload_n 1, 1) := by decide +kernel
theorem dX0_execute_107 : decode cX0_execute 107 = .ok (.invokestatic 75, 3) := by decide +kernel
theorem dX0_execute_110 : decode cX0_execute 110 = .ok (.invokevirtual 78, 3) := by decide +kernel
theorem dX0_execute_113 : decode cX0_execute 113 = .ok (.ireturn, 1) := by decide +kernel
theorem dX0_execute_114 : decode cX0_execute 114 = .ok (.aload_n 0, 1) := by decide +kernel
theorem dX0_execute_115 : decode cX0_execute 115 = .ok (.iload_n 1, 1) := by decide +kernel
theorem dX0_execute_116 : decode cX0_execute 116 = .ok (.aload_n 0, 1) := by decide +kernel
theorem dX0_execute_117 : decode cX0_execute 117 = .ok (.getfield 19, 3) := by decide +kernel
theorem dX0_execute_120 : decode cX0_execute 120 = .ok (.iload_n 1, 1) := by decide +kernel
theorem dX0_execute_121 : decode cX0_execute 121 = .ok (.invokestatic 75, 3) := by decide +kernel
theorem dX0_execute_124 : decode cX0_execute 124 = .ok (.iadd, 1) := by decide +kernel
theorem dX0_execute_125 : decode cX0_execute 125 = .ok (.invokevirtual 78, 3) := by decide +kernel
theorem dX0_execute_128 : decode cX0_execute 128 = .ok (.ireturn, 1) := by decide +kernel
theorem dX0_execute_129 : decode cX0_execute 129 = .ok (.aload_n 0, 1) := by decide +kernel
theorem dX0_execute_130 : decode cX0_execute 130 = .ok (.iload_n 1, 1) := by decide +kernel
theorem dX0_execute_131 : decode cX0_execute 131 = .ok (.aload_n 0, 1) := by decide +kernel
theorem dX0_execute_132 : decode cX0_execute 132 = .ok (.getfield 19, 3) := by decide +kernel
theorem dX0_execute_135 : decode cX0_execute 135 = .ok (.iload_n 1, 1) := by decide +kernel
theorem dX0_execute_136 : decode cX0_execute 136 = .ok (.invokestatic 81, 3) := by decide +kernel
theorem dX0_execute_139 : decode cX0_execute 139 = .ok (.iadd, 1) := by decide +kernel
theorem dX0_execute_140 : decode cX0_execute 140 = .ok (.invokevirtual 84, 3) := by decide +kernel
theorem dX0_execute_143 : decode cX0_execute 143 = .ok (.ireturn, 1) := by decide +kernel
theorem dX0_execute_144 : decode cX0_execute 144 = .ok (.aload_n 0, 1) := by decide +kernel
theorem dX0_execute_145 : decode cX0_execute 145 = .ok (.iload_n 1, 1) := by decide +kernel
theorem dX0_execute_146 : decode cX0_execute 146 = .ok (.invokevirtual 87, 3) := by decide +kernel
theorem dX0_execute_149 : decode cX0_execute 149 = .ok (.ireturn, 1) := by decide +kernel
theorem dX0_execute_150 : decode cX0_execute 150 = .ok (.aload_n 0, 1) := by decide +kernel
theorem dX0_execute_151 : decode cX0_execute 151 = .ok (.iload_n 1, 1) := by decide +kernel
theorem dX0_execute_152 : decode cX0_execute 152 = .ok (.invokevirtual 90, 3) := by decide +kernel
theorem dX0_execute_155 : decode cX0_execute 155 = .ok (.ireturn, 1) := by decide +kernel
theorem dX0_execute_156 : decode cX0_execute 156 = .ok (.aload_n 0, 1) := by decide +kernel
theorem dX0_execute_157 : decode cX0_execute 157 = .ok (.iload_n 1, 1) := by decide +kernel
theorem dX0_execute_158 : decode cX0_execute 158 = .ok (.invokevirtual 93, 3) := by decide +kernel
theorem dX0_execute_161 : decode cX0_execute 161 = .ok (.ireturn, 1) := by decide +kernel
theorem dX0_execute_162 : decode cX0_execute 162 = .ok (.aload_n 0, 1) := by decide +kernel
theorem dX0_execute_163 : decode cX0_execute 163 = .ok (.iload_n 1, 1) := by decide +kernel
theorem dX0_execute_164 : decode cX0_execute 164 = .ok (.invokevirtual 96, 3) := by decide +kernel
theorem dX0_execute_167 : decode cX0_execute 167 = .ok (.ireturn, 1) := by decide +kernel
theorem dX0_execute_168 : decode cX0_execute 168 = .ok (.aload_n 0, 1) := by decide +kernel
theorem dX0_execute_169 : decode cX0_execute 169 = .ok (.iload_n 1, 1) := by decide +kernel
theorem dX0_execute_170 : decode cX0_execute 170 = .ok (.invokevirtual 99, 3) := by decide +kernel
theorem dX0_execute_173 : decode cX0_execute 173 = .ok (.ireturn, 1) := by decide +kernel
theorem dX0_execute_174 : decode cX0_execute 174 = .ok (.aload_n 0, 1) := by decide +kernel
theorem dX0_execute_175 : decode cX0_execute 175 = .ok (.iload_n 1, 1) := by decide +kernel
theorem dX0_execute_176 : decode cX0_execute 176 = .ok (.invokevirtual 102, 3) := by decide +kernel
theorem dX0_execute_179 : decode cX0_execute 179 = .ok (.ireturn, 1) := by decide +kernel
theorem dX0_execute_180 : decode cX0_execute 180 = .ok (.aload_n 0, 1) := by decide +kernel
theorem dX0_execute_181 : decode cX0_execute 181 = .ok (.iload_n 1, 1) := by decide +kernel
theorem dX0_execute_182 : decode cX0_execute 182 = .ok (.invokevirtual 105, 3) := by decide +kernel
theorem dX0_execute_185 : decode cX0_execute 185 = .ok (.ireturn, 1) := by decide +kernel
theorem dX0_execute_186 : decode cX0_execute 186 = .ok (.aload_n 0, 1) := by decide +kernel
theorem dX0_execute_187 : decode cX0_execute 187 = .ok (.iload_n 1, 1) := by decide +kernel
theorem dX0_execute_188 : decode cX0_execute 188 = .ok (.invokevirtual 108, 3) := by decide +kernel
theorem dX0_execute_191 : decode cX0_execute 191 = .ok (.ireturn, 1) := by decide +kernel
theorem dX0_execute_192 : decode cX0_execute 192 = .ok (.aload_n 0, 1) := by decide +kernel
theorem dX0_execute_193 : decode cX0_execute 193 = .ok (.iload_n 1, 1) := by decide +kernel
theorem dX0_execute_194 : decode cX0_execute 194 = .ok (.invokevirtual 111, 3) := by decide +kernel
theorem dX0_execute_197 : decode cX0_execute 197 = .ok (.ireturn, 1) := by decide +kernel
theorem dX0_goToRegister_0 : decode cX0_goToRegister 0 = .ok (.iload_n 1, 1) := by decide +kernel
theorem dX0_goToRegister_1 : decode cX0_goToRegister 1 = .ok (.invokestatic 114, 3) := by decide +kernel
theorem dX0_goToRegister_4 : decode cX0_goToRegister 4 = .ok (.ifCond .eq 9, 3) := by decide +kernel
theorem dX0_goToRegister_7 : decode cX0_goToRegister 7 = .ok (.aload_n 0, 1) := by decide +kernel
theorem dX0_goToRegister_8 : decode cX0_goToRegister 8 = .ok (.iload_n 1, 1) := by decide +kernel
theorem dX0_goToRegister_9 : decode cX0_goToRegister 9 = .ok (.invokevirtual 111, 3) := by decide +kernel
theorem dX0_goToRegister_12 : decode cX0_goToRegister 12 = .ok (.ireturn, 1) := by decide +kernel
theorem dX0_goToRegister_13 : decode cX0_goToRegister 13 = .ok (.aload_n 0, 1) := by decide +kernel
theorem dX0_goToRegister_14 : decode cX0_goToRegister 14 = .ok (.iload_n 1, 1) := by decide +kernel
theorem dX0_goToRegister_15 : decode cX0_goToRegister 15 = .ok (.aload_n 0, 1) := by decide +kernel
theorem dX0_goToRegister_16 : decode cX0_goToRegister 16 = .ok (.iload_n 1, 1) := by decide +kernel
theorem dX0_goToRegister_17 : decode cX0_goToRegister 17 = .ok (.invokevirtual 117, 3) := by decide +kernel
theorem dX0_goToRegister_20 : decode cX0_goToRegister 20 = .ok (.iload_n 1, 1) := by decide +kernel
theorem dX0_goToRegister_21 : decode cX0_goToRegister 21 = .ok (.invokestatic 120, 3) := by decide +kernel
theorem dX0_goToRegister_24 : decode cX0_goToRegister 24 = .ok (.iadd, 1) := by decide +kernel
theorem dX0_goToRegister_25 : decode cX0_goToRegister 25 = .ok (.bipush (-2), 2) := by decide +kernel
theorem dX0_goToRegister_27 : decode cX0_goToRegister 27 = .ok (.iand, 1) := by decide +kernel
theorem dX0_goToRegister_28 : decode cX0_goToRegister 28 = .ok (.invokevirtual 84, 3) := by decide +kernel
theorem dX0_goToRegister_31 : decode cX0_goToRegister 31 = .ok (.ireturn, 1) := by decide +kernel
theorem dX0_branch_0 : decode cX0_branch 0 = .ok (.iload_n 1, 1) := by decide +kernel
theorem dX0_branch_1 : decode cX0_branch 1 = .ok (.invokestatic 114, 3) := by decide +kernel
theorem dX0_branch_4 : decode cX0_branch 4 = .ok (.istore_n 2, 1) := by decide +kernel
theorem dX0_branch_5 : decode cX0_branch 5 = .ok (.iload_n 2, 1) := by decide +kernel
theorem dX0_branch_6 : decode cX0_branch 6 = .ok (.iconst 2, 1) := by decide +kernel
theorem dX0_branch_7 : decode cX0_branch 7 = .ok (.if_icmp .eq 8, 3) := by decide +kernel
theorem dX0_branch_10 : decode cX0_branch 10 = .ok (.iload_n 2, 1) := by decide +kernel
theorem dX0_branch_11 : decode cX0_branch 11 = .ok (.iconst 3, 1) := by decide +kernel
theorem dX0_branch_12 : decode cX0_branch 12 = .ok (.if_icmp .ne 9, 3) := by decide +kernel
theorem dX0_branch_15 : decode cX0_branch 15 = .ok (.aload_n 0, 1) := by decide +kernel
theorem dX0_branch_16 : decode cX0_branch 16 = .ok (.iload_n 1, 1) := by decide +kernel
theorem dX0_branch_17 : decode cX0_branch 17 = .ok (.invokevirtual 111, 3) := by decide +kernel
theorem dX0_branch_20 : decode cX0_branch 20 = .ok (.ireturn, 1) := by decide +kernel
theorem dX0_branch_21 : decode cX0_branch 21 = .ok (.iload_n 2, 1) := by decide +kernel
theorem dX0_branch_22 : decode cX0_branch 22 = .ok (.iconst 1, 1) := by decide +kernel
theorem dX0_branch_23 : decode cX0_branch 23 = .ok (.iand, 1) := by decide +kernel
theorem dX0_branch_24 : decode cX0_branch 24 = .ok (.iconst 1, 1) := by decide +kernel
theorem dX0_branch_25 : decode cX0_branch 25 = .ok (.if_icmp .ne 7, 3) := by decide +kernel
theorem dX0_branch_28 : decode cX0_branch 28 = .ok (.iconst 1, 1) := by decide +kernel
theorem dX0_branch_29 : decode cX0_branch 29 = .ok (.goto 4, 3) := by decide +kernel
theorem dX0_branch_32 : decode cX0_branch 32 = .ok (.iconst 0, 1) := by decide +kernel
theorem dX0_branch_33 : decode cX0_branch 33 = .ok (.istore_n 3, 1) := by decide +kernel
theorem dX0_branch_34 : decode cX0_branch 34 = .ok (.iload_n 2, 1) := by decide +kernel
theorem dX0_branch_35 : decode cX0_branch 35 = .ok (.bipush 6, 2) := by decide +kernel
theorem dX0_branch_37 : decode cX0_branch 37 = .ok (.iand, 1) := by decide +kernel
theorem dX0_branch_38 : decode cX0_branch 38 = .ok (.aload_n 0, 1) := by decide +kernel
theorem dX0_branch_39 : decode cX0_branch 39 = .ok (.iload_n 1, 1) := by decide +kernel
theorem dX0_branch_40 : decode cX0_branch 40 = .ok (.invokevirtual 117, 3) := by decide +kernel
theorem dX0_branch_43 : decode cX0_branch 43 = .ok (.aload_n 0, 1) := by decide +kernel
theorem dX0_branch_44 : decode cX0_branch 44 = .ok (.iload_n 1, 1) := by decide +kernel
theorem dX0_branch_45 : decode cX0_branch 45 = .ok (.invokevirtual 123, 3) := by decide +kernel
theorem dX0_branch_48 : decode cX0_branch 48 = .ok (.invokestatic 126, 3) := by decide +kernel
theorem dX0_branch_51 : decode cX0_branch 51 = .ok (.iload_n 3, 1) := by decide +kernel
theorem dX0_branch_52 : decode cX0_branch 52 = .ok (.if_icmp .eq 7, 3) := by decide +kernel
theorem dX0_branch_55 : decode cX0_branch 55 = .ok (.iconst 1, 1) := by decide +kernel
theorem dX0_branch_56 : decode cX0_branch 56 = .ok (.goto 4, 3) := by decide +kernel
theorem dX0_branch_59 : decode cX0_branch 59 = .ok (.iconst 0, 1) := by decide +kernel
theorem dX0_branch_60 : decode cX0_branch 60 = .ok (.istore 4, 2) := by decide +kernel
theorem dX0_branch_62 : decode cX0_branch 62 = .ok (.iload 4, 2) := by decide +kernel
theorem dX0_branch_64 : decode cX0_branch 64 = .ok (.ifCond .eq 15, 3) := by decide +kernel
theorem dX0_branch_67 : decode cX0_branch 67 = .ok (.aload_n 0, 1) := by decide +kernel
theorem dX0_branch_68 : decode cX0_branch 68 = .ok (.getfield 19, 3) := by decide +kernel
theorem dX0_branch_71 : decode cX0_branch 71 = .ok (.iload_n 1, 1) := by decide +kernel
theorem dX0_branch_72 : decode cX0_branch 72 = .ok (.invokestatic 130, 3) := by decide +kernel
theorem dX0_branch_75 : decode cX0_branch 75 = .ok (.iadd, 1) := by decide +kernel
theorem dX0_branch_76 : decode cX0_branch 76 = .ok (.goto 9, 3) := by decide +kernel
theorem dX0_branch_79 : decode cX0_branch 79 = .ok (.aload_n 0, 1) := by decide +kernel
theorem dX0_branch_80 : decode cX0_branch 80 = .ok (.getfield 19, 3) := by decide +kernel
theorem dX0_branch_83 : decode cX0_branch 83 = .ok (.iconst 4, 1) := by decide +kernel
theorem dX0_branch_84 : decode cX0_branch 84 = .ok (.iadd, 1) := by decide +kernel
theorem dX0_branch_85 : decode cX0_branch 85 = .ok (.istore 5, 2) := by decide +kernel
theorem dX0_branch_87 : decode cX0_branch 87 = .ok (.iload 5, 2) := by decide +kernel
theorem dX0_branch_89 : decode cX0_branch 89 = .ok (.iconst 4, 1) := by decide +kernel
theorem dX0_branch_90 : decode cX0_branch 90 = .ok (.invokestatic 62, 3) := by decide +kernel
theorem dX0_branch_93 : decode cX0_branch 93 = .ok (.ifCond .eq 11, 3) := by decide +kernel
theorem dX0_branch_96 : decode cX0_branch 96 = .ok (.aload_n 0, 1) := by decide +kernel
theorem dX0_branch_97 : decode cX0_branch 97 = .ok (.iconst 0, 1) := by decide +kernel
theorem dX0_branch_98 : decode cX0_branch 98 = .ok (.iload 5, 2) := by decide +kernel
theorem dX0_branch_100 : decode cX0_branch 100 = .ok (.invokevirtual 66, 3) := by decide +kernel
theorem dX0_branch_103 : decode cX0_branch 103 = .ok (.ireturn, 1) := by decide +kernel
theorem dX0_branch_104 : decode cX0_branch 104 = .ok (.aload_n 0, 1) := by decide +kernel
theorem dX0_branch_105 : decode cX0_branch 105 = .ok (.iload 5, 2) := by decide +kernel
theorem dX0_branch_107 : decode cX0_branch 107 = .ok (.putfield 19, 3) := by decide +kernel
theorem dX0_branch_110 : decode cX0_branch 110 = .ok (.iconst 1, 1) := by decide +kernel
theorem dX0_branch_111 : decode cX0_branch 111 = .ok (.ireturn, 1) := by decide +kernel
theorem dX0_load_0 : decode cX0_load 0 = .ok (.iload_n 1, 1) := by decide +kernel
theorem dX0_load_1 : decode cX0_load 1 = .ok (.invokestatic 114, 3) := by decide +kernel
theorem dX0_load_4 : decode cX0_load 4 = .ok (.istore_n 2, 1) := by decide +kernel
theorem dX0_load_5 : decode cX0_load 5 = .ok (.iload_n 2, 1) := by decide +kernel
theorem dX0_load_6 : decode cX0_load 6 = .ok (.iconst 3, 1) := by decide +kernel
theorem dX0_load_7 : decode cX0_load 7 = .ok (.if_icmp .eq 8, 3) := by decide +kernel
theorem dX0_load_10 : decode cX0_load 10 = .ok (.iload_n 2, 1) := by decide +kernel
theorem dX0_load_11 : decode cX0_load 11 = .ok (.iconst 5, 1) := by decide +kernel
theorem dX0_load_12 : decode cX0_load 12 = .ok (.if_icmp .le 9, 3) := by decide +kernel
theorem dX0_load_15 : decode cX0_load 15 = .ok (.aload_n 0, 1) := by decide +kernel
theorem dX0_load_16 : decode cX0_load 16 = .ok (.iload_n 1, 1) := by decide +kernel
theorem dX0_load_17 : decode cX0_load 17 = .ok (.invokevirtual 111, 3) := by decide +kernel
theorem dX0_load_20 : decode cX0_load 20 = .ok (.ireturn, 1) := by decide +kernel
theorem dX0_load_21 : decode cX0_load 21 = .ok (.aload_n 0, 1) := by decide +kernel
theorem dX0_load_22 : decode cX0_load 22 = .ok (.iload_n 1, 1) := by decide +kernel
theorem dX0_load_23 : decode cX0_load 23 = .ok (.invokevirtual 117, 3) := by decide +kernel
theorem dX0_load_26 : decode cX0_load 26 = .ok (.iload_n 1, 1) := by decide +kernel
theorem dX0_load_27 : decode cX0_load 27 = .ok (.invokestatic 120, 3) := by decide +kernel
theorem dX0_load_30 : decode cX0_load 30 = .ok (.iadd, 1) := by decide +kernel
theorem dX0_load_31 : decode cX0_load 31 = .ok (.istore_n 3, 1) := by decide +kernel
theorem dX0_load_32 : decode cX0_load 32 = .ok (.iload_n 3, 1) := by decide +kernel
theorem dX0_load_33 : decode cX0_load 33 = .ok (.iconst 1, 1) := by decide +kernel
theorem dX0_load_34 : decode cX0_load 34 = .ok (.iload_n 2, 1) := by decide +kernel
theorem dX0_load_35 : decode cX0_load 35 = .ok (.iconst 3, 1) := by decide +kernel
theorem dX0_load_36 : decode cX0_load 36 = .ok (.iand, 1) := by decide +kernel
theorem dX0_load_37 : decode cX0_load 37 = .ok (.ishl, 1) := by decide +kernel
theorem dX0_load_38 : decode cX0_load 38 = .ok (.invokestatic 62, 3) := by decide +kernel
theorem dX0_load_41 : decode cX0_load 41 = .ok (.ifCond .eq 10, 3) := by decide +kernel
theorem dX0_load_44 : decode cX0_load 44 = .ok (.aload_n 0, 1) := by decide +kernel
theorem dX0_load_45 : decode cX0_load 45 = .ok (.iconst 4, 1) := by decide +kernel
theorem dX0_load_46 : decode cX0_load 46 = .ok (.iload_n 3, 1) := by decide +kernel
theorem dX0_load_47 : decode cX0_load 47 = .ok (.invokevirtual 66, 3) := by decide +kernel
theorem dX0_load_50 : decode cX0_load 50 = .ok (.ireturn, 1) := by decide +kernel
theorem dX0_load_51 : decode cX0_load 51 = .ok (.aload_n 0, 1) := by decide +kernel
theorem dX0_load_52 : decode cX0_load 52 = .ok (.iload_n 3, 1) := by decide +kernel
theorem dX0_load_53 : decode cX0_load 53 = .ok (.iconst 1, 1) := by decide +kernel
theorem dX0_load_54 : decode cX0_load 54 = .ok (.invokevirtual 69, 3) := by decide +kernel
theorem dX0_load_57 : decode cX0_load 57 = .ok (.ifCond .ne 11, 3) := by decide +kernel
theorem dX0_load_60 : decode cX0_load 60 = .ok (.aload_n 0, 1) := by decide +kernel
theorem dX0_load_61 : decode cX0_load 61 = .ok (.bipush 13, 2) := by decide +kernel
theorem dX0_load_63 : decode cX0_load 63 = .ok (.iload_n 3, 1) := by decide +kernel
theorem dX0_load_64 : decode cX0_load 64 = .ok (.invokevirtual 66, 3) := by decide +kernel
theorem dX0_load_67 : decode cX0_load 67 = .ok (.ireturn, 1) := by decide +kernel
theorem dX0_load_68 : decode cX0_load 68 = .ok (.aload_n 0, 1) := by decide +kernel
theorem dX0_load_69 : decode cX0_load 69 = .ok (.iload_n 1, 1) := by decide +kernel
theorem dX0_load_70 : decode cX0_load 70 = .ok (.iload_n 2, 1) := by decide +kernel
theorem dX0_load_71 : decode cX0_load 71 = .ok (.aload_n 0, 1) := by decide +kernel
theorem dX0_load_72 : decode cX0_load 72 = .ok (.iload_n 3, 1) := by decide +kernel
theorem dX0_load_73 : decode cX0_load 73 = .ok (.invokevirtual 40, 3) := by decide +kernel
theorem dX0_load_76 : decode cX0_load 76 = .ok (.invokestatic 133, 3) := by decide +kernel
theorem dX0_load_79 : decode cX0_load 79 = .ok (.invokevirtual 78, 3) := by decide +kernel
theorem dX0_load_82 : decode cX0_load 82 = .ok (.ireturn, 1) := by decide +kernel
theorem dX0_store_0 : decode cX0_store 0 = .ok (.iload_n 1, 1) := by decide +kernel
theorem dX0_store_1 : decode cX0_store 1 = .ok (.invokestatic 114, 3) := by decide +kernel
theorem dX0_store_4 : decode cX0_store 4 = .ok (.istore_n 2, 1) := by decide +kernel
theorem dX0_store_5 : decode cX0_store 5 = .ok (.iload_n 2, 1) := by decide +kernel
theorem dX0_store_6 : decode cX0_store 6 = .ok (.iconst 2, 1) := by decide +kernel
theorem dX0_store_7 : decode cX0_store 7 = .ok (.if_icmp .le 9, 3) := by decide +kernel
theorem dX0_store_10 : decode cX0_store 10 = .ok (.aload_n 0, 1) := by decide +kernel
theorem dX0_store_11 : decode cX0_store 11 = .ok (.iload_n 1, 1) := by decide +kernel
theorem dX0_store_12 : decode cX0_store 12 = .ok (.invokevirtual 111, 3) := by decide +kernel
theorem dX0_store_15 : decode cX0_store 15 = .ok (.ireturn, 1) := by decide +kernel
theorem dX0_store_16 : decode cX0_store 16 = .ok (.aload_n 0, 1) := by decide +kernel
theorem dX0_store_17 : decode cX0_store 17 = .ok (.iload_n 1, 1) := by decide +kernel
theorem dX0_store_18 : decode cX0_store 18 = .ok (.invokevirtual 117, 3) := by decide +kernel
theorem dX0_store_21 : decode cX0_store 21 = .ok (.iload_n 1, 1) := by decide +kernel
theorem dX0_store_22 : decode cX0_store 22 = .ok (.invokestatic 137, 3) := by decide +kernel
theorem dX0_store_25 : decode cX0_store 25 = .ok (.iadd, 1) := by decide +kernel
theorem dX0_store_26 : decode cX0_store 26 = .ok (.istore_n 3, 1) := by decide +kernel
theorem dX0_store_27 : decode cX0_store 27 = .ok (.iconst 1, 1) := by decide +kernel
theorem dX0_store_28 : decode cX0_store 28 = .ok (.iload_n 2, 1) := by decide +kernel
theorem dX0_store_29 : decode cX0_store 29 = .ok (.ishl, 1) := by decide +kernel
theorem dX0_store_30 : decode cX0_store 30 = .ok (.istore 4, 2) := by decide +kernel
theorem dX0_store_32 : decode cX0_store 32 = .ok (.iload_n 3, 1) := by decide +kernel
theorem dX0_store_33 : decode cX0_store 33 = .ok (.iload 4, 2) := by decide +kernel
theorem dX0_store_35 : decode cX0_store 35 = .ok (.invokestatic 62, 3) := by decide +kernel
theorem dX0_store_38 : decode cX0_store 38 = .ok (.ifCond .eq 11, 3) := by decide +kernel
theorem dX0_store_41 : decode cX0_store 41 = .ok (.aload_n 0, 1) := by decide +kernel
theorem dX0_store_42 : decode cX0_store 42 = .ok (.bipush 6, 2) := by decide +kernel
theorem dX0_store_44 : decode cX0_store 44 = .ok (.iload_n 3, 1) := by decide +kernel
theorem dX0_store_45 : decode cX0_store 45 = .ok (.invokevirtual 66, 3) := by decide +kernel
theorem dX0_store_48 : decode cX0_store 48 = .ok (.ireturn, 1) := by decide +kernel
theorem dX0_store_49 : decode cX0_store 49 = .ok (.aload_n 0, 1) := by decide +kernel
theorem dX0_store_50 : decode cX0_store 50 = .ok (.iload_n 3, 1) := by decide +kernel
theorem dX0_store_51 : decode cX0_store 51 = .ok (.iconst 2, 1) := by decide +kernel
theorem dX0_store_52 : decode cX0_store 52 = .ok (.invokevirtual 69, 3) := by decide +kernel
theorem dX0_store_55 : decode cX0_store 55 = .ok (.ifCond .ne 11, 3) := by decide +kernel
theorem dX0_store_58 : decode cX0_store 58 = .ok (.aload_n 0, 1) := by decide +kernel
theorem dX0_store_59 : decode cX0_store 59 = .ok (.bipush 15, 2) := by decide +kernel
theorem dX0_store_61 : decode cX0_store 61 = .ok (.iload_n 3, 1) := by decide +kernel
theorem dX0_store_62 : decode cX0_store 62 = .ok (.invokevirtual 66, 3) := by decide +kernel
theorem dX0_store_65 : decode cX0_store 65 = .ok (.ireturn, 1) := by decide +kernel
theorem dX0_store_66 : decode cX0_store 66 = .ok (.aload_n 0, 1) := by decide +kernel
theorem dX0_store_67 : decode cX0_store 67 = .ok (.iload_n 3, 1) := by decide +kernel
theorem dX0_store_68 : decode cX0_store 68 = .ok (.iload 4, 2) := by decide +kernel
theorem dX0_store_70 : decode cX0_store 70 = .ok (.aload_n 0, 1) := by decide +kernel
theorem dX0_store_71 : decode cX0_store 71 = .ok (.iload_n 1, 1) := by decide +kernel
theorem dX0_store_72 : decode cX0_store 72 = .ok (.invokevirtual 123, 3) := by decide +kernel
theorem dX0_store_75 : decode cX0_store 75 = .ok (.i2l, 1) := by decide +kernel
theorem dX0_store_76 : decode cX0_store 76 = .ok (.invokevirtual 32, 3) := by decide +kernel
theorem dX0_store_79 : decode cX0_store 79 = .ok (.aload_n 0, 1) := by decide +kernel
theorem dX0_store_80 : decode cX0_store 80 = .ok (.dup, 1) := by decide +kernel
theorem dX0_store_81 : decode cX0_store 81 = .ok (.getfield 19, 3) := by decide +kernel
theorem dX0_store_84 : decode cX0_store 84 = .ok (.iconst 4, 1) := by decide +kernel
theorem dX0_store_85 : decode cX0_store 85 = .ok (.iadd, 1) := by decide +kernel
theorem dX0_store_86 : decode cX0_store 86 = .ok (.putfield 19, 3) := by decide +kernel
theorem dX0_store_89 : decode cX0_store 89 = .ok (.iconst 1, 1) := by decide +kernel
theorem dX0_store_90 : decode cX0_store 90 = .ok (.ireturn, 1) := by decide +kernel
theorem dX0_computeWithImmediate_0 : decode cX0_computeWithImmediate 0 = .ok (.iload_n 1, 1) := by decide +kernel
theorem dX0_computeWithImmediate_1 : decode cX0_computeWithImmediate 1 = .ok (.invokestatic 114, 3) := by decide +kernel
theorem dX0_computeWithImmediate_4 : decode cX0_computeWithImmediate 4 = .ok (.istore_n 2, 1) := by decide +kernel
theorem dX0_computeWithImmediate_5 : decode cX0_computeWithImmediate 5 = .ok (.iload_n 1, 1) := by decide +kernel
theorem dX0_computeWithImmediate_6 : decode cX0_computeWithImmediate 6 = .ok (.invokestatic 140, 3) := by decide +kernel
theorem dX0_computeWithImmediate_9 : decode cX0_computeWithImmediate 9 = .ok (.istore_n 3, 1) := by decide +kernel
theorem dX0_computeWithImmediate_10 : decode cX0_computeWithImmediate 10 = .ok (.iload_n 2, 1) := by decide +kernel
theorem dX0_computeWithImmediate_11 : decode cX0_computeWithImmediate 11 = .ok (.iconst 5, 1) := by decide +kernel
theorem dX0_computeWithImmediate_12 : decode cX0_computeWithImmediate 12 = .ok (.if_icmp .ne 25, 3) := by decide +kernel
theorem dX0_computeWithImmediate_15 : decode cX0_computeWithImmediate 15 = .ok (.iload_n 3, 1) := by decide +kernel
theorem dX0_computeWithImmediate_16 : decode cX0_computeWithImmediate 16 = .ok (.bipush 32, 2) := by decide +kernel
theorem dX0_computeWithImmediate_18 : decode cX0_computeWithImmediate 18 = .ok (.if_icmp .ne 19, 3) := by decide +kernel
theorem dX0_computeWithImmediate_21 : decode cX0_computeWithImmediate 21 = .ok (.aload_n 0, 1) := by decide +kernel
theorem dX0_computeWithImmediate_22 : decode cX0_computeWithImmediate 22 = .ok (.iload_n 1, 1) := by decide +kernel
theorem dX0_computeWithImmediate_23 : decode cX0_computeWithImmediate 23 = .ok (.aload_n 0, 1) := by decide +kernel
theorem dX0_computeWithImmediate_24 : decode cX0_computeWithImmediate 24 = .ok (.iload_n 1, 1) := by decide +kernel
theorem dX0_computeWithImmediate_25 : decode cX0_computeWithImmediate 25 = .ok (.invokevirtual 117, 3) := by decide +kernel
theorem dX0_computeWithImmediate_28 : decode cX0_computeWithImmediate 28 = .ok (.iload_n 1, 1) := by decide +kernel
theorem dX0_computeWithImmediate_29 : decode cX0_computeWithImmediate 29 = .ok (.invokestatic 143, 3) := by decide +kernel
theorem dX0_computeWithImmediate_32 : decode cX0_computeWithImmediate 32 = .ok (.ishr, 1) := by decide +kernel
theorem dX0_computeWithImmediate_33 : decode cX0_computeWithImmediate 33 = .ok (.invokevirtual 78, 3) := by decide +kernel
theorem dX0_computeWithImmediate_36 : decode cX0_computeWithImmediate 36 = .ok (.ireturn, 1) := by decide +kernel
theorem dX0_computeWithImmediate_37 : decode cX0_computeWithImmediate 37 = .ok (.iload_n 2, 1) := by decide +kernel
theorem dX0_computeWithImmediate_38 : decode cX0_computeWithImmediate 38 = .ok (.iconst 1, 1) := by decide +kernel
theorem dX0_computeWithImmediate_39 : decode cX0_computeWithImmediate 39 = .ok (.if_icmp .eq 8, 3) := by decide +kernel
theorem dX0_computeWithImmediate_42 : decode cX0_computeWithImmediate 42 = .ok (.iload_n 2, 1) := by decide +kernel
theorem dX0_computeWithImmediate_43 : decode cX0_computeWithImmediate 43 = .ok (.iconst 5, 1) := by decide +kernel
theorem dX0_computeWithImmediate_44 : decode cX0_computeWithImmediate 44 = .ok (.if_icmp .ne 13, 3) := by decide +kernel
theorem dX0_computeWithImmediate_47 : decode cX0_computeWithImmediate 47 = .ok (.iload_n 3, 1) := by decide +kernel
theorem dX0_computeWithImmediate_48 : decode cX0_computeWithImmediate 48 = .ok (.ifCond .eq 9, 3) := by decide +kernel
theorem dX0_computeWithImmediate_51 : decode cX0_computeWithImmediate 51 = .ok (.aload_n 0, 1) := by decide +kernel
theorem dX0_computeWithImmediate_52 : decode cX0_computeWithImmediate 52 = .ok (.iload_n 1, 1) := by decide +kernel
theorem dX0_computeWithImmediate_53 : decode cX0_computeWithImmediate 53 = .ok (.invokevirtual 111, 3) := by decide +kernel
theorem dX0_computeWithImmediate_56 : decode cX0_computeWithImmediate 56 = .ok (.ireturn, 1) := by decide +kernel
theorem dX0_computeWithImmediate_57 : decode cX0_computeWithImmediate 57 = .ok (.aload_n 0, 1) := by decide +kernel
theorem dX0_computeWithImmediate_58 : decode cX0_computeWithImmediate 58 = .ok (.iload_n 1, 1) := by decide +kernel
theorem dX0_computeWithImmediate_59 : decode cX0_computeWithImmediate 59 = .ok (.iload_n 2, 1) := by decide +kernel
theorem dX0_computeWithImmediate_60 : decode cX0_computeWithImmediate 60 = .ok (.aload_n 0, 1) := by decide +kernel
theorem dX0_computeWithImmediate_61 : decode cX0_computeWithImmediate 61 = .ok (.iload_n 1, 1) := by decide +kernel
theorem dX0_computeWithImmediate_62 : decode cX0_computeWithImmediate 62 = .ok (.invokevirtual 117, 3) := by decide +kernel
theorem dX0_computeWithImmediate_65 : decode cX0_computeWithImmediate 65 = .ok (.iload_n 1, 1) := by decide +kernel
theorem dX0_computeWithImmediate_66 : decode cX0_computeWithImmediate 66 = .ok (.invokestatic 120, 3) := by decide +kernel
theorem dX0_computeWithImmediate_69 : decode cX0_computeWithImmediate 69 = .ok (.invokestatic 146, 3) := by decide +kernel
theorem dX0_computeWithImmediate_72 : decode cX0_computeWithImmediate 72 = .ok (.invokevirtual 78, 3) := by decide +kernel
theorem dX0_computeWithImmediate_75 : decode cX0_computeWithImmediate 75 = .ok (.ireturn, 1) := by decide +kernel
theorem dX0_computeWithRegisters_0 : decode cX0_computeWithRegisters 0 = .ok (.iload_n 1, 1) := by decide +kernel
theorem dX0_computeWithRegisters_1 : decode cX0_computeWithRegisters 1 = .ok (.invokestatic 114, 3) := by decide +kernel
theorem dX0_computeWithRegisters_4 : decode cX0_computeWithRegisters 4 = .ok (.istore_n 2, 1) := by decide +kernel
theorem dX0_computeWithRegisters_5 : decode cX0_computeWithRegisters 5 = .ok (.aload_n 0, 1) := by decide +kernel
theorem dX0_computeWithRegisters_6 : decode cX0_computeWithRegisters 6 = .ok (.iload_n 1, 1) := by decide +kernel
theorem dX0_computeWithRegisters_7 : decode cX0_computeWithRegisters 7 = .ok (.invokevirtual 117, 3) := by decide +kernel
theorem dX0_computeWithRegisters_10 : decode cX0_computeWithRegisters 10 = .ok (.istore_n 3, 1) := by decide +kernel
theorem dX0_computeWithRegisters_11 : decode cX0_computeWithRegisters 11 = .ok (.aload_n 0, 1) := by decide +kernel
theorem dX0_computeWithRegisters_12 : decode cX0_computeWithRegisters 12 = .ok (.iload_n 1, 1) := by decide +kernel
theorem dX0_computeWithRegisters_13 : decode cX0_computeWithRegisters 13 = .ok (.invokevirtual 123, 3) := by decide +kernel
theorem dX0_computeWithRegisters_16 : decode cX0_computeWithRegisters 16 = .ok (.istore 4, 2) := by decide +kernel
theorem dX0_computeWithRegisters_18 : decode cX0_computeWithRegisters 18 = .ok (.iload_n 1, 1) := by decide +kernel
theorem dX0_computeWithRegisters_19 : decode cX0_computeWithRegisters 19 = .ok (.invokestatic 140, 3) := by decide +kernel
theorem dX0_computeWithRegisters_22 : decode cX0_computeWithRegisters 22 = .ok (.lookupswitch 100 #[(0, 34), (1, 47), (32, 60)], 34) := by decide +kernel
theorem dX0_computeWithRegisters_56 : decode cX0_computeWithRegisters 56 = .ok (.aload_n 0, 1) := by decide +kernel
theorem dX0_computeWithRegisters_57 : decode cX0_computeWithRegisters 57 = .ok (.iload_n 1, 1) := by decide +kernel
theorem dX0_computeWithRegisters_58 : decode cX0_computeWithRegisters 58 = .ok (.iload_n 2, 1) := by decide +kernel
theorem dX0_computeWithRegisters_59 : decode cX0_computeWithRegisters 59 = .ok (.iload_n 3, 1) := by decide +kernel
theorem dX0_computeWithRegisters_60 : decode cX0_computeWithRegisters 60 = .ok (.iload 4, 2) := by decide +kernel
theorem dX0_computeWithRegisters_62 : decode cX0_computeWithRegisters 62 = .ok (.invokestatic 146, 3) := by decide +kernel
theorem dX0_computeWithRegisters_65 : decode cX0_computeWithRegisters 65 = .ok (.invokevirtual 78, 3) := by decide +kernel
theorem dX0_computeWithRegisters_68 : decode cX0_computeWithRegisters 68 = .ok (.ireturn, 1) := by decide +kernel
theorem dX0_computeWithRegisters_69 : decode cX0_computeWithRegisters 69 = .ok (.aload_n 0, 1) := by decide +kernel
theorem dX0_computeWithRegisters_70 : decode cX0_computeWithRegisters 70 = .ok (.iload_n 1, 1) := by decide +kernel
theorem dX0_computeWithRegisters_71 : decode cX0_computeWithRegisters 71 = .ok (.iload_n 2, 1) := by decide +kernel
theorem dX0_computeWithRegisters_72 : decode cX0_computeWithRegisters 72 = .ok (.iload_n 3, 1) := by decide +kernel
theorem dX0_computeWithRegisters_73 : decode cX0_computeWithRegisters 73 = .ok (.iload 4, 2) := by decide +kernel
theorem dX0_computeWithRegisters_75 : decode cX0_computeWithRegisters 75 = .ok (.invokestatic 150, 3) := by decide +kernel
theorem dX0_computeWithRegisters_78 : decode cX0_computeWithRegisters 78 = .ok (.invokevirtual 78, 3) := by decide +kernel
theorem dX0_computeWithRegisters_81 : decode cX0_computeWithRegisters 81 = .ok (.ireturn, 1) := by decide +kernel
theorem dX0_computeWithRegisters_82 : decode cX0_computeWithRegisters 82 = .ok (.iload_n 2, 1) := by decide +kernel
theorem dX0_computeWithRegisters_83 : decode cX0_computeWithRegisters 83 = .ok (.ifCond .ne 13, 3) := by decide +kernel
theorem dX0_computeWithRegisters_86 : decode cX0_computeWithRegisters 86 = .ok (.aload_n 0, 1) := by decide +kernel
theorem dX0_computeWithRegisters_87 : decode cX0_computeWithRegisters 87 = .ok (.iload_n 1, 1) := by decide +kernel
theorem dX0_computeWithRegisters_88 : decode cX0_computeWithRegisters 88 = .ok (.iload_n 3, 1) := by decide +kernel
theorem dX0_computeWithRegisters_89 : decode cX0_computeWithRegisters 89 = .ok (.iload 4, 2) := by decide +kernel
theorem dX0_computeWithRegisters_91 : decode cX0_computeWithRegisters 91 = .ok (.isub, 1) := by decide +kernel
theorem dX0_computeWithRegisters_92 : decode cX0_computeWithRegisters 92 = .ok (.invokevirtual 78, 3) := by decide +kernel
theorem dX0_computeWithRegisters_95 : decode cX0_computeWithRegisters 95 = .ok (.ireturn, 1) := by decide +kernel
theorem dX0_computeWithRegisters_96 : decode cX0_computeWithRegisters 96 = .ok (.iload_n 2, 1) := by decide +kernel
theorem dX0_computeWithRegisters_97 : decode cX0_computeWithRegisters 97 = .ok (.iconst 5, 1) := by decide +kernel
theorem dX0_computeWithRegisters_98 : decode cX0_computeWithRegisters 98 = .ok (.if_icmp .ne 18, 3) := by decide +kernel
theorem dX0_computeWithRegisters_101 : decode cX0_computeWithRegisters 101 = .ok (.aload_n 0, 1) := by decide +kernel
theorem dX0_computeWithRegisters_102 : decode cX0_computeWithRegisters 102 = .ok (.iload_n 1, 1) := by decide +kernel
theorem dX0_computeWithRegisters_103 : decode cX0_computeWithRegisters 103 = .ok (.iload_n 3, 1) := by decide +kernel
theorem dX0_computeWithRegisters_104 : decode cX0_computeWithRegisters 104 = .ok (.iload 4, 2) := by decide +kernel
theorem dX0_computeWithRegisters_106 : decode cX0_computeWithRegisters 106 = .ok (.bipush 31, 2) := by decide +kernel
theorem dX0_computeWithRegisters_108 : decode cX0_computeWithRegisters 108 = .ok (.iand, 1) := by decide +kernel
theorem dX0_computeWithRegisters_109 : decode cX0_computeWithRegisters 109 = .ok (.ishr, 1) := by decide +kernel
theorem dX0_computeWithRegisters_110 : decode cX0_computeWithRegisters 110 = .ok (.invokevirtual 78, 3) := by decide +kernel
theorem dX0_computeWithRegisters_113 : decode cX0_computeWithRegisters 113 = .ok (.goto 8, 3) := by decide +kernel
theorem dX0_computeWithRegisters_116 : decode cX0_computeWithRegisters 116 = .ok (.aload_n 0, 1) := by decide +kernel
theorem dX0_computeWithRegisters_117 : decode cX0_computeWithRegisters 117 = .ok (.iload_n 1, 1) := by decide +kernel
theorem dX0_computeWithRegisters_118 : decode cX0_computeWithRegisters 118 = .ok (.invokevirtual 111, 3) := by decide +kernel
theorem dX0_computeWithRegisters_121 : decode cX0_computeWithRegisters 121 = .ok (.ireturn, 1) := by decide +kernel
theorem dX0_computeWithRegisters_122 : decode cX0_computeWithRegisters 122 = .ok (.aload_n 0, 1) := by decide +kernel
theorem dX0_computeWithRegisters_123 : decode cX0_computeWithRegisters 123 = .ok (.iload_n 1, 1) := by decide +kernel
theorem dX0_computeWithRegisters_124 : decode cX0_computeWithRegisters 124 = .ok (.invokevirtual 111, 3) := by decide +kernel
theorem dX0_computeWithRegisters_127 : decode cX0_computeWithRegisters 127 = .ok (.ireturn, 1) := by decide +kernel
theorem dX0_fence_0 : decode cX0_fence 0 = .ok (.iload_n 1, 1) := by decide +kernel
theorem dX0_fence_1 : decode cX0_fence 1 = .ok (.invokestatic 114, 3) := by decide +kernel
theorem dX0_fence_4 : decode cX0_fence 4 = .ok (.ifCond .eq 9, 3) := by decide +kernel
theorem dX0_fence_7 : decode cX0_fence 7 = .ok (.aload_n 0, 1) := by decide +kernel
theorem dX0_fence_8 : decode cX0_fence 8 = .ok (.iload_n 1, 1) := by decide +kernel
theorem dX0_fence_9 : decode cX0_fence 9 = .ok (.invokevirtual 111, 3) := by decide +kernel
theorem dX0_fence_12 : decode cX0_fence 12 = .ok (.ireturn, 1) := by decide +kernel
theorem dX0_fence_13 : decode cX0_fence 13 = .ok (.aload_n 0, 1) := by decide +kernel
theorem dX0_fence_14 : decode cX0_fence 14 = .ok (.dup, 1) := by decide +kernel
theorem dX0_fence_15 : decode cX0_fence 15 = .ok (.getfield 19, 3) := by decide +kernel
theorem dX0_fence_18 : decode cX0_fence 18 = .ok (.iconst 4, 1) := by decide +kernel
theorem dX0_fence_19 : decode cX0_fence 19 = .ok (.iadd, 1) := by decide +kernel
theorem dX0_fence_20 : decode cX0_fence 20 = .ok (.putfield 19, 3) := by decide +kernel
theorem dX0_fence_23 : decode cX0_fence 23 = .ok (.iconst 1, 1) := by decide +kernel
theorem dX0_fence_24 : decode cX0_fence 24 = .ok (.ireturn, 1) := by decide +kernel
theorem dX0_callOrBreak_0 : decode cX0_callOrBreak 0 = .ok (.iload_n 1, 1) := by decide +kernel
theorem dX0_callOrBreak_1 : decode cX0_callOrBreak 1 = .ok (.bipush 115, 2) := by decide +kernel
theorem dX0_callOrBreak_3 : decode cX0_callOrBreak 3 = .ok (.if_icmp .ne 11, 3) := by decide +kernel
theorem dX0_callOrBreak_6 : decode cX0_callOrBreak 6 = .ok (.aload_n 0, 1) := by decide +kernel
theorem dX0_callOrBreak_7 : decode cX0_callOrBreak 7 = .ok (.bipush 8, 2) := by decide +kernel
theorem dX0_callOrBreak_9 : decode cX0_callOrBreak 9 = .ok (.iconst 0, 1) := by decide +kernel
theorem dX0_callOrBreak_10 : decode cX0_callOrBreak 10 = .ok (.invokevirtual 66, 3) := by decide +kernel
theorem dX0_callOrBreak_13 : decode cX0_callOrBreak 13 = .ok (.ireturn, 1) := by decide +kernel
theorem dX0_callOrBreak_14 : decode cX0_callOrBreak 14 = .ok (.iload_n 1, 1) := by decide +kernel
theorem dX0_callOrBreak_15 : decode cX0_callOrBreak 15 = .ok (.ldc 153, 2) := by decide +kernel
theorem dX0_callOrBreak_17 : decode cX0_callOrBreak 17 = .ok (.if_icmp .ne 12, 3) := by decide +kernel
theorem dX0_callOrBreak_20 : decode cX0_callOrBreak 20 = .ok (.aload_n 0, 1) := by decide +kernel
theorem dX0_callOrBreak_21 : decode cX0_callOrBreak 21 = .ok (.iconst 3, 1) := by decide +kernel
theorem dX0_callOrBreak_22 : decode cX0_callOrBreak 22 = .ok (.iconst 0, 1) := by decide +kernel
theorem dX0_callOrBreak_23 : decode cX0_callOrBreak 23 = .ok (.invokevirtual 66, 3) := by decide +kernel
theorem dX0_callOrBreak_26 : decode cX0_callOrBreak 26 = .ok (.goto 8, 3) := by decide +kernel
theorem dX0_callOrBreak_29 : decode cX0_callOrBreak 29 = .ok (.aload_n 0, 1) := by decide +kernel
theorem dX0_callOrBreak_30 : decode cX0_callOrBreak 30 = .ok (.iload_n 1, 1) := by decide +kernel
theorem dX0_callOrBreak_31 : decode cX0_callOrBreak 31 = .ok (.invokevirtual 111, 3) := by decide +kernel
theorem dX0_callOrBreak_34 : decode cX0_callOrBreak 34 = .ok (.ireturn, 1) := by decide +kernel
theorem dX0_finish_0 : decode cX0_finish 0 = .ok (.aload_n 0, 1) := by decide +kernel
theorem dX0_finish_1 : decode cX0_finish 1 = .ok (.iload_n 1, 1) := by decide +kernel
theorem dX0_finish_2 : decode cX0_finish 2 = .ok (.invokestatic 154, 3) := by decide +kernel
theorem dX0_finish_5 : decode cX0_finish 5 = .ok (.iload_n 2, 1) := by decide +kernel
theorem dX0_finish_6 : decode cX0_finish 6 = .ok (.invokevirtual 47, 3) := by decide +kernel
theorem dX0_finish_9 : decode cX0_finish 9 = .ok (.aload_n 0, 1) := by decide +kernel
theorem dX0_finish_10 : decode cX0_finish 10 = .ok (.dup, 1) := by decide +kernel
theorem dX0_finish_11 : decode cX0_finish 11 = .ok (.getfield 19, 3) := by decide +kernel
theorem dX0_finish_14 : decode cX0_finish 14 = .ok (.iconst 4, 1) := by decide +kernel
theorem dX0_finish_15 : decode cX0_finish 15 = .ok (.iadd, 1) := by decide +kernel
theorem dX0_finish_16 : decode cX0_finish 16 = .ok (.putfield 19, 3) := by decide +kernel
theorem dX0_finish_19 : decode cX0_finish 19 = .ok (.iconst 1, 1) := by decide +kernel
theorem dX0_finish_20 : decode cX0_finish 20 = .ok (.ireturn, 1) := by decide +kernel
theorem dX0_linkAndGo_0 : decode cX0_linkAndGo 0 = .ok (.iload_n 2, 1) := by decide +kernel
theorem dX0_linkAndGo_1 : decode cX0_linkAndGo 1 = .ok (.iconst 4, 1) := by decide +kernel
theorem dX0_linkAndGo_2 : decode cX0_linkAndGo 2 = .ok (.invokestatic 62, 3) := by decide +kernel
theorem dX0_linkAndGo_5 : decode cX0_linkAndGo 5 = .ok (.ifCond .eq 10, 3) := by decide +kernel
theorem dX0_linkAndGo_8 : decode cX0_linkAndGo 8 = .ok (.aload_n 0, 1) := by decide +kernel
theorem dX0_linkAndGo_9 : decode cX0_linkAndGo 9 = .ok (.iconst 0, 1) := by decide +kernel
theorem dX0_linkAndGo_10 : decode cX0_linkAndGo 10 = .ok (.iload_n 2, 1) := by decide +kernel
theorem dX0_linkAndGo_11 : decode cX0_linkAndGo 11 = .ok (.invokevirtual 66, 3) := by decide +kernel
theorem dX0_linkAndGo_14 : decode cX0_linkAndGo 14 = .ok (.ireturn, 1) := by decide +kernel
theorem dX0_linkAndGo_15 : decode cX0_linkAndGo 15 = .ok (.aload_n 0, 1) := by decide +kernel
theorem dX0_linkAndGo_16 : decode cX0_linkAndGo 16 = .ok (.iload_n 1, 1) := by decide +kernel
theorem dX0_linkAndGo_17 : decode cX0_linkAndGo 17 = .ok (.invokestatic 154, 3) := by decide +kernel
theorem dX0_linkAndGo_20 : decode cX0_linkAndGo 20 = .ok (.aload_n 0, 1) := by decide +kernel
theorem dX0_linkAndGo_21 : decode cX0_linkAndGo 21 = .ok (.getfield 19, 3) := by decide +kernel
theorem dX0_linkAndGo_24 : decode cX0_linkAndGo 24 = .ok (.iconst 4, 1) := by decide +kernel
theorem dX0_linkAndGo_25 : decode cX0_linkAndGo 25 = .ok (.iadd, 1) := by decide +kernel
theorem dX0_linkAndGo_26 : decode cX0_linkAndGo 26 = .ok (.invokevirtual 47, 3) := by decide +kernel
theorem dX0_linkAndGo_29 : decode cX0_linkAndGo 29 = .ok (.aload_n 0, 1) := by decide +kernel
theorem dX0_linkAndGo_30 : decode cX0_linkAndGo 30 = .ok (.iload_n 2, 1) := by decide +kernel
theorem dX0_linkAndGo_31 : decode cX0_linkAndGo 31 = .ok (.putfield 19, 3) := by decide +kernel
theorem dX0_linkAndGo_34 : decode cX0_linkAndGo 34 = .ok (.iconst 1, 1) := by decide +kernel
theorem dX0_linkAndGo_35 : decode cX0_linkAndGo 35 = .ok (.ireturn, 1) := by decide +kernel
theorem dX0_refuse_0 : decode cX0_refuse 0 = .ok (.aload_n 0, 1) := by decide +kernel
theorem dX0_refuse_1 : decode cX0_refuse 1 = .ok (.iconst 2, 1) := by decide +kernel
theorem dX0_refuse_2 : decode cX0_refuse 2 = .ok (.iload_n 1, 1) := by decide +kernel
theorem dX0_refuse_3 : decode cX0_refuse 3 = .ok (.invokevirtual 66, 3) := by decide +kernel
theorem dX0_refuse_6 : decode cX0_refuse 6 = .ok (.ireturn, 1) := by decide +kernel
theorem dX0_trapWith_0 : decode cX0_trapWith 0 = .ok (.aload_n 0, 1) := by decide +kernel
theorem dX0_trapWith_1 : decode cX0_trapWith 1 = .ok (.iload_n 1, 1) := by decide +kernel
theorem dX0_trapWith_2 : decode cX0_trapWith 2 = .ok (.putfield 23, 3) := by decide +kernel
theorem dX0_trapWith_5 : decode cX0_trapWith 5 = .ok (.aload_n 0, 1) := by decide +kernel
theorem dX0_trapWith_6 : decode cX0_trapWith 6 = .ok (.iload_n 2, 1) := by decide +kernel
theorem dX0_trapWith_7 : decode cX0_trapWith 7 = .ok (.putfield 26, 3) := by decide +kernel
theorem dX0_trapWith_10 : decode cX0_trapWith 10 = .ok (.iconst 0, 1) := by decide +kernel
theorem dX0_trapWith_11 : decode cX0_trapWith 11 = .ok (.ireturn, 1) := by decide +kernel
theorem dX0_isRegister_0 : decode cX0_isRegister 0 = .ok (.iload_n 0, 1) := by decide +kernel
theorem dX0_isRegister_1 : decode cX0_isRegister 1 = .ok (.ifCond .lt 13, 3) := by decide +kernel
theorem dX0_isRegister_4 : decode cX0_isRegister 4 = .ok (.iload_n 0, 1) := by decide +kernel
theorem dX0_isRegister_5 : decode cX0_isRegister 5 = .ok (.bipush 32, 2) := by decide +kernel
theorem dX0_isRegister_7 : decode cX0_isRegister 7 = .ok (.if_icmp .ge 7, 3) := by decide +kernel
theorem dX0_isRegister_10 : decode cX0_isRegister 10 = .ok (.iconst 1, 1) := by decide +kernel
theorem dX0_isRegister_11 : decode cX0_isRegister 11 = .ok (.goto 4, 3) := by decide +kernel
theorem dX0_isRegister_14 : decode cX0_isRegister 14 = .ok (.iconst 0, 1) := by decide +kernel
theorem dX0_isRegister_15 : decode cX0_isRegister 15 = .ok (.ireturn, 1) := by decide +kernel
theorem dX0_putRegister_0 : decode cX0_putRegister 0 = .ok (.iload_n 1, 1) := by decide +kernel
theorem dX0_putRegister_1 : decode cX0_putRegister 1 = .ok (.ifCond .le 16, 3) := by decide +kernel
theorem dX0_putRegister_4 : decode cX0_putRegister 4 = .ok (.iload_n 1, 1) := by decide +kernel
theorem dX0_putRegister_5 : decode cX0_putRegister 5 = .ok (.bipush 32, 2) := by decide +kernel
theorem dX0_putRegister_7 : decode cX0_putRegister 7 = .ok (.if_icmp .ge 10, 3) := by decide +kernel
theorem dX0_putRegister_10 : decode cX0_putRegister 10 = .ok (.aload_n 0, 1) := by decide +kernel
theorem dX0_putRegister_11 : decode cX0_putRegister 11 = .ok (.getfield 16, 3) := by decide +kernel
theorem dX0_putRegister_14 : decode cX0_putRegister 14 = .ok (.iload_n 1, 1) := by decide +kernel
theorem dX0_putRegister_15 : decode cX0_putRegister 15 = .ok (.iload_n 2, 1) := by decide +kernel
theorem dX0_putRegister_16 : decode cX0_putRegister 16 = .ok (.iastore, 1) := by decide +kernel
theorem dX0_putRegister_17 : decode cX0_putRegister 17 = .ok (.return_, 1) := by decide +kernel
theorem dX0_registerA_0 : decode cX0_registerA 0 = .ok (.aload_n 0, 1) := by decide +kernel
theorem dX0_registerA_1 : decode cX0_registerA 1 = .ok (.getfield 16, 3) := by decide +kernel
theorem dX0_registerA_4 : decode cX0_registerA 4 = .ok (.iload_n 1, 1) := by decide +kernel
theorem dX0_registerA_5 : decode cX0_registerA 5 = .ok (.bipush 15, 2) := by decide +kernel
theorem dX0_registerA_7 : decode cX0_registerA 7 = .ok (.iushr, 1) := by decide +kernel
theorem dX0_registerA_8 : decode cX0_registerA 8 = .ok (.bipush 31, 2) := by decide +kernel
theorem dX0_registerA_10 : decode cX0_registerA 10 = .ok (.iand, 1) := by decide +kernel
theorem dX0_registerA_11 : decode cX0_registerA 11 = .ok (.iaload, 1) := by decide +kernel
theorem dX0_registerA_12 : decode cX0_registerA 12 = .ok (.ireturn, 1) := by decide +kernel
theorem dX0_registerB_0 : decode cX0_registerB 0 = .ok (.aload_n 0, 1) := by decide +kernel
theorem dX0_registerB_1 : decode cX0_registerB 1 = .ok (.getfield 16, 3) := by decide +kernel
theorem dX0_registerB_4 : decode cX0_registerB 4 = .ok (.iload_n 1, 1) := by decide +kernel
theorem dX0_registerB_5 : decode cX0_registerB 5 = .ok (.invokestatic 143, 3) := by decide +kernel
theorem dX0_registerB_8 : decode cX0_registerB 8 = .ok (.iaload, 1) := by decide +kernel
theorem dX0_registerB_9 : decode cX0_registerB 9 = .ok (.ireturn, 1) := by decide +kernel
theorem dX0_isInPages_0 : decode cX0_isInPages 0 = .ok (.iload_n 0, 1) := by decide +kernel
theorem dX0_isInPages_1 : decode cX0_isInPages 1 = .ok (.ifCond .lt 14, 3) := by decide +kernel
theorem dX0_isInPages_4 : decode cX0_isInPages 4 = .ok (.iload_n 0, 1) := by decide +kernel
theorem dX0_isInPages_5 : decode cX0_isInPages 5 = .ok (.sipush 16384, 3) := by decide +kernel
theorem dX0_isInPages_8 : decode cX0_isInPages 8 = .ok (.if_icmp .ge 7, 3) := by decide +kernel
theorem dX0_isInPages_11 : decode cX0_isInPages 11 = .ok (.iconst 1, 1) := by decide +kernel
theorem dX0_isInPages_12 : decode cX0_isInPages 12 = .ok (.goto 4, 3) := by decide +kernel
theorem dX0_isInPages_15 : decode cX0_isInPages 15 = .ok (.iconst 0, 1) := by decide +kernel
theorem dX0_isInPages_16 : decode cX0_isInPages 16 = .ok (.ireturn, 1) := by decide +kernel
theorem dX0_isCrooked_0 : decode cX0_isCrooked 0 = .ok (.iload_n 0, 1) := by decide +kernel
theorem dX0_isCrooked_1 : decode cX0_isCrooked 1 = .ok (.iload_n 1, 1) := by decide +kernel
theorem dX0_isCrooked_2 : decode cX0_isCrooked 2 = .ok (.iconst 1, 1) := by decide +kernel
theorem dX0_isCrooked_3 : decode cX0_isCrooked 3 = .ok (.isub, 1) := by decide +kernel
theorem dX0_isCrooked_4 : decode cX0_isCrooked 4 = .ok (.iand, 1) := by decide +kernel
theorem dX0_isCrooked_5 : decode cX0_isCrooked 5 = .ok (.ifCond .eq 7, 3) := by decide +kernel
theorem dX0_isCrooked_8 : decode cX0_isCrooked 8 = .ok (.iconst 1, 1) := by decide +kernel
theorem dX0_isCrooked_9 : decode cX0_isCrooked 9 = .ok (.goto 4, 3) := by decide +kernel
theorem dX0_isCrooked_12 : decode cX0_isCrooked 12 = .ok (.iconst 0, 1) := by decide +kernel
theorem dX0_isCrooked_13 : decode cX0_isCrooked 13 = .ok (.ireturn, 1) := by decide +kernel
theorem dX0_hasRight_0 : decode cX0_hasRight 0 = .ok (.iload_n 1, 1) := by decide +kernel
theorem dX0_hasRight_1 : decode cX0_hasRight 1 = .ok (.invokestatic 36, 3) := by decide +kernel
theorem dX0_hasRight_4 : decode cX0_hasRight 4 = .ok (.ifCond .eq 21, 3) := by decide +kernel
theorem dX0_hasRight_7 : decode cX0_hasRight 7 = .ok (.aload_n 0, 1) := by decide +kernel
theorem dX0_hasRight_8 : decode cX0_hasRight 8 = .ok (.getfield 13, 3) := by decide +kernel
theorem dX0_hasRight_11 : decode cX0_hasRight 11 = .ok (.iload_n 1, 1) := by decide +kernel
theorem dX0_hasRight_12 : decode cX0_hasRight 12 = .ok (.bipush 12, 2) := by decide +kernel
theorem dX0_hasRight_14 : decode cX0_hasRight 14 = .ok (.iushr, 1) := by decide +kernel
theorem dX0_hasRight_15 : decode cX0_hasRight 15 = .ok (.iaload, 1) := by decide +kernel
theorem dX0_hasRight_16 : decode cX0_hasRight 16 = .ok (.iload_n 2, 1) := by decide +kernel
theorem dX0_hasRight_17 : decode cX0_hasRight 17 = .ok (.iand, 1) := by decide +kernel
theorem dX0_hasRight_18 : decode cX0_hasRight 18 = .ok (.ifCond .eq 7, 3) := by decide +kernel
theorem dX0_hasRight_21 : decode cX0_hasRight 21 = .ok (.iconst 1, 1) := by decide +kernel
theorem dX0_hasRight_22 : decode cX0_hasRight 22 = .ok (.goto 4, 3) := by decide +kernel
theorem dX0_hasRight_25 : decode cX0_hasRight 25 = .ok (.iconst 0, 1) := by decide +kernel
theorem dX0_hasRight_26 : decode cX0_hasRight 26 = .ok (.ireturn, 1) := by decide +kernel
theorem dX0_bytesFrom_0 : decode cX0_bytesFrom 0 = .ok (.aload_n 0, 1) := by decide +kernel
theorem dX0_bytesFrom_1 : decode cX0_bytesFrom 1 = .ok (.getfield 9, 3) := by decide +kernel
theorem dX0_bytesFrom_4 : decode cX0_bytesFrom 4 = .ok (.iload_n 1, 1) := by decide +kernel
theorem dX0_bytesFrom_5 : decode cX0_bytesFrom 5 = .ok (.iconst 2, 1) := by decide +kernel
theorem dX0_bytesFrom_6 : decode cX0_bytesFrom 6 = .ok (.iushr, 1) := by decide +kernel
theorem dX0_bytesFrom_7 : decode cX0_bytesFrom 7 = .ok (.iaload, 1) := by decide +kernel
theorem dX0_bytesFrom_8 : decode cX0_bytesFrom 8 = .ok (.iload_n 1, 1) := by decide +kernel
theorem dX0_bytesFrom_9 : decode cX0_bytesFrom 9 = .ok (.iconst 3, 1) := by decide +kernel
theorem dX0_bytesFrom_10 : decode cX0_bytesFrom 10 = .ok (.iand, 1) := by decide +kernel
theorem dX0_bytesFrom_11 : decode cX0_bytesFrom 11 = .ok (.bipush 8, 2) := by decide +kernel
theorem dX0_bytesFrom_13 : decode cX0_bytesFrom 13 = .ok (.imul, 1) := by decide +kernel
theorem dX0_bytesFrom_14 : decode cX0_bytesFrom 14 = .ok (.iushr, 1) := by decide +kernel
theorem dX0_bytesFrom_15 : decode cX0_bytesFrom 15 = .ok (.ireturn, 1) := by decide +kernel
theorem dX0_putBytes_0 : decode cX0_putBytes 0 = .ok (.iconst 0, 1) := by decide +kernel
theorem dX0_putBytes_1 : decode cX0_putBytes 1 = .ok (.istore 5, 2) := by decide +kernel
theorem dX0_putBytes_3 : decode cX0_putBytes 3 = .ok (.iload 5, 2) := by decide +kernel
theorem dX0_putBytes_5 : decode cX0_putBytes 5 = .ok (.iload_n 2, 1) := by decide +kernel
theorem dX0_putBytes_6 : decode cX0_putBytes 6 = .ok (.if_icmp .ge 71, 3) := by decide +kernel
theorem dX0_putBytes_9 : decode cX0_putBytes 9 = .ok (.iload_n 1, 1) := by decide +kernel
theorem dX0_putBytes_10 : decode cX0_putBytes 10 = .ok (.iload 5, 2) := by decide +kernel
theorem dX0_putBytes_12 : decode cX0_putBytes 12 = .ok (.iadd, 1) := by decide +kernel
theorem dX0_putBytes_13 : decode cX0_putBytes 13 = .ok (.istore 6, 2) := by decide +kernel
theorem dX0_putBytes_15 : decode cX0_putBytes 15 = .ok (.iload 6, 2) := by decide +kernel
theorem dX0_putBytes_17 : decode cX0_putBytes 17 = .ok (.iconst 3, 1) := by decide +kernel
theorem dX0_putBytes_18 : decode cX0_putBytes 18 = .ok (.iand, 1) := by decide +kernel
theorem dX0_putBytes_19 : decode cX0_putBytes 19 = .ok (.bipush 8, 2) := by decide +kernel
theorem dX0_putBytes_21 : decode cX0_putBytes 21 = .ok (.imul, 1) := by decide +kernel
theorem dX0_putBytes_22 : decode cX0_putBytes 22 = .ok (.istore 7, 2) := by decide +kernel
theorem dX0_putBytes_24 : decode cX0_putBytes 24 = .ok (.lload_n 3, 1) := by decide +kernel
theorem dX0_putBytes_25 : decode cX0_putBytes 25 = .ok (.bipush 8, 2) := by decide +kernel
theorem dX0_putBytes_27 : decode cX0_putBytes 27 = .ok (.iload 5, 2) := by decide +kernel
theorem dX0_putBytes_29 : decode cX0_putBytes 29 = .ok (.imul, 1) := by decide +kernel
theorem dX0_putBytes_30 : decode cX0_putBytes 30 = .ok (.lushr, 1) := by decide +kernel
theorem dX0_putBytes_31 : decode cX0_putBytes 31 = .ok (.l2i, 1) := by decide +kernel
theorem dX0_putBytes_32 : decode cX0_putBytes 32 = .ok (.sipush 255, 3) := by decide +kernel
theorem dX0_putBytes_35 : decode cX0_putBytes 35 = .ok (.iand, 1) := by decide +kernel
theorem dX0_putBytes_36 : decode cX0_putBytes 36 = .ok (.istore 8, 2) := by decide +kernel
theorem dX0_putBytes_38 : decode cX0_putBytes 38 = .ok (.aload_n 0, 1) := by decide +kernel
theorem dX0_putBytes_39 : decode cX0_putBytes 39 = .ok (.getfield 9, 3) := by decide +kernel
theorem dX0_putBytes_42 : decode cX0_putBytes 42 = .ok (.iload 6, 2) := by decide +kernel
theorem dX0_putBytes_44 : decode cX0_putBytes 44 = .ok (.iconst 2, 1) := by decide +kernel
theorem dX0_putBytes_45 : decode cX0_putBytes 45 = .ok (.iushr, 1) := by decide +kernel
theorem dX0_putBytes_46 : decode cX0_putBytes 46 = .ok (.aload_n 0, 1) := by decide +kernel
theorem dX0_putBytes_47 : decode cX0_putBytes 47 = .ok (.getfield 9, 3) := by decide +kernel
theorem dX0_putBytes_50 : decode cX0_putBytes 50 = .ok (.iload 6, 2) := by decide +kernel
theorem dX0_putBytes_52 : decode cX0_putBytes 52 = .ok (.iconst 2, 1) := by decide +kernel
theorem dX0_putBytes_53 : decode cX0_putBytes 53 = .ok (.iushr, 1) := by decide +kernel
theorem dX0_putBytes_54 : decode cX0_putBytes 54 = .ok (.iaload, 1) := by decide +kernel
theorem dX0_putBytes_55 : decode cX0_putBytes 55 = .ok (.sipush 255, 3) := by decide +kernel
theorem dX0_putBytes_58 : decode cX0_putBytes 58 = .ok (.iload 7, 2) := by decide +kernel
theorem dX0_putBytes_60 : decode cX0_putBytes 60 = .ok (.ishl, 1) := by decide +kernel
theorem dX0_putBytes_61 : decode cX0_putBytes 61 = .ok (.iconst (-1), 1) := by decide +kernel
theorem dX0_putBytes_62 : decode cX0_putBytes 62 = .ok (.ixor, 1) := by decide +kernel
theorem dX0_putBytes_63 : decode cX0_putBytes 63 = .ok (.iand, 1) := by decide +kernel
theorem dX0_putBytes_64 : decode cX0_putBytes 64 = .ok (.iload 8, 2) := by decide +kernel
theorem dX0_putBytes_66 : decode cX0_putBytes 66 = .ok (.iload 7, 2) := by decide +kernel
theorem dX0_putBytes_68 : decode cX0_putBytes 68 = .ok (.ishl, 1) := by decide +kernel
theorem dX0_putBytes_69 : decode cX0_putBytes 69 = .ok (.ior, 1) := by decide +kernel
theorem dX0_putBytes_70 : decode cX0_putBytes 70 = .ok (.iastore, 1) := by decide +kernel
theorem dX0_putBytes_71 : decode cX0_putBytes 71 = .ok (.iinc 5 1, 3) := by decide +kernel
theorem dX0_putBytes_74 : decode cX0_putBytes 74 = .ok (.goto (-71), 3) := by decide +kernel
theorem dX0_putBytes_77 : decode cX0_putBytes 77 = .ok (.return_, 1) := by decide +kernel
theorem dX0_unsigned_0 : decode cX0_unsigned 0 = .ok (.iload_n 0, 1) := by decide +kernel
theorem dX0_unsigned_1 : decode cX0_unsigned 1 = .ok (.i2l, 1) := by decide +kernel
theorem dX0_unsigned_2 : decode cX0_unsigned 2 = .ok (.ldc2_w 157, 3) := by decide +kernel
theorem dX0_unsigned_5 : decode cX0_unsigned 5 = .ok (.land, 1) := by decide +kernel
theorem dX0_unsigned_6 : decode cX0_unsigned 6 = .ok (.lreturn, 1) := by decide +kernel
theorem dX0_compare_0 : decode cX0_compare 0 = .ok (.iload_n 0, 1) := by decide +kernel
theorem dX0_compare_1 : decode cX0_compare 1 = .ok (.lookupswitch 49 #[(0, 27), (4, 38)], 27) := by decide +kernel
theorem dX0_compare_28 : decode cX0_compare 28 = .ok (.iload_n 1, 1) := by decide +kernel
theorem dX0_compare_29 : decode cX0_compare 29 = .ok (.iload_n 2, 1) := by decide +kernel
theorem dX0_compare_30 : decode cX0_compare 30 = .ok (.if_icmp .ne 7, 3) := by decide +kernel
theorem dX0_compare_33 : decode cX0_compare 33 = .ok (.iconst 1, 1) := by decide +kernel
theorem dX0_compare_34 : decode cX0_compare 34 = .ok (.goto 4, 3) := by decide +kernel
theorem dX0_compare_37 : decode cX0_compare 37 = .ok (.iconst 0, 1) := by decide +kernel
theorem dX0_compare_38 : decode cX0_compare 38 = .ok (.ireturn, 1) := by decide +kernel
theorem dX0_compare_39 : decode cX0_compare 39 = .ok (.iload_n 1, 1) := by decide +kernel
theorem dX0_compare_40 : decode cX0_compare 40 = .ok (.iload_n 2, 1) := by decide +kernel
theorem dX0_compare_41 : decode cX0_compare 41 = .ok (.if_icmp .ge 7, 3) := by decide +kernel
theorem dX0_compare_44 : decode cX0_compare 44 = .ok (.iconst 1, 1) := by decide +kernel
theorem dX0_compare_45 : decode cX0_compare 45 = .ok (.goto 4, 3) := by decide +kernel
theorem dX0_compare_48 : decode cX0_compare 48 = .ok (.iconst 0, 1) := by decide +kernel
theorem dX0_compare_49 : decode cX0_compare 49 = .ok (.ireturn, 1) := by decide +kernel
theorem dX0_compare_50 : decode cX0_compare 50 = .ok (.iload_n 1, 1) := by decide +kernel
theorem dX0_compare_51 : decode cX0_compare 51 = .ok (.invokestatic 159, 3) := by decide +kernel
theorem dX0_compare_54 : decode cX0_compare 54 = .ok (.iload_n 2, 1) := by decide +kernel
theorem dX0_compare_55 : decode cX0_compare 55 = .ok (.invokestatic 159, 3) := by decide +kernel
theorem dX0_compare_58 : decode cX0_compare 58 = .ok (.lcmp, 1) := by decide +kernel
theorem dX0_compare_59 : decode cX0_compare 59 = .ok (.ifCond .ge 7, 3) := by decide +kernel
theorem dX0_compare_62 : decode cX0_compare 62 = .ok (.iconst 1, 1) := by decide +kernel
theorem dX0_compare_63 : decode cX0_compare 63 = .ok (.goto 4, 3) := by decide +kernel
theorem dX0_compare_66 : decode cX0_compare 66 = .ok (.iconst 0, 1) := by decide +kernel
theorem dX0_compare_67 : decode cX0_compare 67 = .ok (.ireturn, 1) := by decide +kernel
theorem dX0_narrow_0 : decode cX0_narrow 0 = .ok (.iload_n 0, 1) := by decide +kernel
theorem dX0_narrow_1 : decode cX0_narrow 1 = .ok (.tableswitch 56 0 5 #[39, 42, 56, 56, 45, 51], 39) := by decide +kernel
theorem dX0_narrow_40 : decode cX0_narrow 40 = .ok (.iload_n 1, 1) := by decide +kernel
theorem dX0_narrow_41 : decode cX0_narrow 41 = .ok (.i2b, 1) := by decide +kernel
theorem dX0_narrow_42 : decode cX0_narrow 42 = .ok (.ireturn, 1) := by decide +kernel
theorem dX0_narrow_43 : decode cX0_narrow 43 = .ok (.iload_n 1, 1) := by decide +kernel
theorem dX0_narrow_44 : decode cX0_narrow 44 = .ok (.i2s, 1) := by decide +kernel
theorem dX0_narrow_45 : decode cX0_narrow 45 = .ok (.ireturn, 1) := by decide +kernel
theorem dX0_narrow_46 : decode cX0_narrow 46 = .ok (.iload_n 1, 1) := by decide +kernel
theorem dX0_narrow_47 : decode cX0_narrow 47 = .ok (.sipush 255, 3) := by decide +kernel
theorem dX0_narrow_50 : decode cX0_narrow 50 = .ok (.iand, 1) := by decide +kernel
theorem dX0_narrow_51 : decode cX0_narrow 51 = .ok (.ireturn, 1) := by decide +kernel
theorem dX0_narrow_52 : decode cX0_narrow 52 = .ok (.iload_n 1, 1) := by decide +kernel
theorem dX0_narrow_53 : decode cX0_narrow 53 = .ok (.ldc 163, 2) := by decide +kernel
theorem dX0_narrow_55 : decode cX0_narrow 55 = .ok (.iand, 1) := by decide +kernel
theorem dX0_narrow_56 : decode cX0_narrow 56 = .ok (.ireturn, 1) := by decide +kernel
theorem dX0_narrow_57 : decode cX0_narrow 57 = .ok (.iload_n 1, 1) := by decide +kernel
theorem dX0_narrow_58 : decode cX0_narrow 58 = .ok (.ireturn, 1) := by decide +kernel
theorem dX0_compute_0 : decode cX0_compute 0 = .ok (.iload_n 0, 1) := by decide +kernel
theorem dX0_compute_1 : decode cX0_compute 1 = .ok (.tableswitch 98 0 6 #[43, 47, 54, 65, 83, 87, 94], 43) := by decide +kernel
theorem dX0_compute_44 : decode cX0_compute 44 = .ok (.iload_n 1, 1) := by decide +kernel
theorem dX0_compute_45 : decode cX0_compute 45 = .ok (.iload_n 2, 1) := by decide +kernel
theorem dX0_compute_46 : decode cX0_compute 46 = .ok (.iadd, 1) := by decide +kernel
theorem dX0_compute_47 : decode cX0_compute 47 = .ok (.ireturn, 1) := by decide +kernel
theorem dX0_compute_48 : decode cX0_compute 48 = .ok (.iload_n 1, 1) := by decide +kernel
theorem dX0_compute_49 : decode cX0_compute 49 = .ok (.iload_n 2, 1) := by decide +kernel
theorem dX0_compute_50 : decode cX0_compute 50 = .ok (.bipush 31, 2) := by decide +kernel
theorem dX0_compute_52 : decode cX0_compute 52 = .ok (.iand, 1) := by decide +kernel
theorem dX0_compute_53 : decode cX0_compute 53 = .ok (.ishl, 1) := by decide +kernel
theorem dX0_compute_54 : decode cX0_compute 54 = .ok (.ireturn, 1) := by decide +kernel
theorem dX0_compute_55 : decode cX0_compute 55 = .ok (.iload_n 1, 1) := by decide +kernel
theorem dX0_compute_56 : decode cX0_compute 56 = .ok (.iload_n 2, 1) := by decide +kernel
theorem dX0_compute_57 : decode cX0_compute 57 = .ok (.if_icmp .ge 7, 3) := by decide +kernel
theorem dX0_compute_60 : decode cX0_compute 60 = .ok (.iconst 1, 1) := by decide +kernel
theorem dX0_compute_61 : decode cX0_compute 61 = .ok (.goto 4, 3) := by decide +kernel
theorem dX0_compute_64 : decode cX0_compute 64 = .ok (.iconst 0, 1) := by decide +kernel
theorem dX0_compute_65 : decode cX0_compute 65 = .ok (.ireturn, 1) := by decide +kernel
theorem dX0_compute_66 : decode cX0_compute 66 = .ok (.iload_n 1, 1) := by decide +kernel
theorem dX0_compute_67 : decode cX0_compute 67 = .ok (.invokestatic 159, 3) := by decide +kernel
theorem dX0_compute_70 : decode cX0_compute 70 = .ok (.iload_n 2, 1) := by decide +kernel
theorem dX0_compute_71 : decode cX0_compute 71 = .ok (.invokestatic 159, 3) := by decide +kernel
theorem dX0_compute_74 : decode cX0_compute 74 = .ok (.lcmp, 1) := by decide +kernel
theorem dX0_compute_75 : decode cX0_compute 75 = .ok (.ifCond .ge 7, 3) := by decide +kernel
theorem dX0_compute_78 : decode cX0_compute 78 = .ok (.iconst 1, 1) := by decide +kernel
theorem dX0_compute_79 : decode cX0_compute 79 = .ok (.goto 4, 3) := by decide +kernel
theorem dX0_compute_82 : decode cX0_compute 82 = .ok (.iconst 0, 1) := by decide +kernel
theorem dX0_compute_83 : decode cX0_compute 83 = .ok (.ireturn, 1) := by decide +kernel
theorem dX0_compute_84 : decode cX0_compute 84 = .ok (.iload_n 1, 1) := by decide +kernel
theorem dX0_compute_85 : decode cX0_compute 85 = .ok (.iload_n 2, 1) := by decide +kernel
theorem dX0_compute_86 : decode cX0_compute 86 = .ok (.ixor, 1) := by decide +kernel
theorem dX0_compute_87 : decode cX0_compute 87 = .ok (.ireturn, 1) := by decide +kernel
theorem dX0_compute_88 : decode cX0_compute 88 = .ok (.iload_n 1, 1) := by decide +kernel
theorem dX0_compute_89 : decode cX0_compute 89 = .ok (.iload_n 2, 1) := by decide +kernel
theorem dX0_compute_90 : decode cX0_compute 90 = .ok (.bipush 31, 2) := by decide +kernel
theorem dX0_compute_92 : decode cX0_compute 92 = .ok (.iand, 1) := by decide +kernel
theorem dX0_compute_93 : decode cX0_compute 93 = .ok (.iushr, 1) := by decide +kernel
theorem dX0_compute_94 : decode cX0_compute 94 = .ok (.ireturn, 1) := by decide +kernel
theorem dX0_compute_95 : decode cX0_compute 95 = .ok (.iload_n 1, 1) := by decide +kernel
theorem dX0_compute_96 : decode cX0_compute 96 = .ok (.iload_n 2, 1) := by decide +kernel
theorem dX0_compute_97 : decode cX0_compute 97 = .ok (.ior, 1) := by decide +kernel
theorem dX0_compute_98 : decode cX0_compute 98 = .ok (.ireturn, 1) := by decide +kernel
theorem dX0_compute_99 : decode cX0_compute 99 = .ok (.iload_n 1, 1) := by decide +kernel
theorem dX0_compute_100 : decode cX0_compute 100 = .ok (.iload_n 2, 1) := by decide +kernel
theorem dX0_compute_101 : decode cX0_compute 101 = .ok (.iand, 1) := by decide +kernel
theorem dX0_compute_102 : decode cX0_compute 102 = .ok (.ireturn, 1) := by decide +kernel
theorem dX0_multiplyOrDivide_0 : decode cX0_multiplyOrDivide 0 = .ok (.iload_n 0, 1) := by decide +kernel
theorem dX0_multiplyOrDivide_1 : decode cX0_multiplyOrDivide 1 = .ok (.tableswitch 68 0 3 #[31, 35, 44, 55], 31) := by decide +kernel
theorem dX0_multiplyOrDivide_32 : decode cX0_multiplyOrDivide 32 = .ok (.iload_n 1, 1) := by decide +kernel
theorem dX0_multiplyOrDivide_33 : decode cX0_multiplyOrDivide 33 = .ok (.iload_n 2, 1) := by decide +kernel
theorem dX0_multiplyOrDivide_34 : decode cX0_multiplyOrDivide 34 = .ok (.imul, 1) := by decide +kernel
theorem dX0_multiplyOrDivide_35 : decode cX0_multiplyOrDivide 35 = .ok (.ireturn, 1) := by decide +kernel
theorem dX0_multiplyOrDivide_36 : decode cX0_multiplyOrDivide 36 = .ok (.iload_n 1, 1) := by decide +kernel
theorem dX0_multiplyOrDivide_37 : decode cX0_multiplyOrDivide 37 = .ok (.i2l, 1) := by decide +kernel
theorem dX0_multiplyOrDivide_38 : decode cX0_multiplyOrDivide 38 = .ok (.iload_n 2, 1) := by decide +kernel
theorem dX0_multiplyOrDivide_39 : decode cX0_multiplyOrDivide 39 = .ok (.i2l, 1) := by decide +kernel
theorem dX0_multiplyOrDivide_40 : decode cX0_multiplyOrDivide 40 = .ok (.lmul, 1) := by decide +kernel
theorem dX0_multiplyOrDivide_41 : decode cX0_multiplyOrDivide 41 = .ok (.invokestatic 164, 3) := by decide +kernel
theorem dX0_multiplyOrDivide_44 : decode cX0_multiplyOrDivide 44 = .ok (.ireturn, 1) := by decide +kernel
theorem dX0_multiplyOrDivide_45 : decode cX0_multiplyOrDivide 45 = .ok (.iload_n 1, 1) := by decide +kernel
theorem dX0_multiplyOrDivide_46 : decode cX0_multiplyOrDivide 46 = .ok (.i2l, 1) := by decide +kernel
theorem dX0_multiplyOrDivide_47 : decode cX0_multiplyOrDivide 47 = .ok (.iload_n 2, 1) := by decide +kernel
theorem dX0_multiplyOrDivide_48 : decode cX0_multiplyOrDivide 48 = .ok (.invokestatic 159, 3) := by decide +kernel
theorem dX0_multiplyOrDivide_51 : decode cX0_multiplyOrDivide 51 = .ok (.lmul, 1) := by decide +kernel
theorem dX0_multiplyOrDivide_52 : decode cX0_multiplyOrDivide 52 = .ok (.invokestatic 164, 3) := by decide +kernel
theorem dX0_multiplyOrDivide_55 : decode cX0_multiplyOrDivide 55 = .ok (.ireturn, 1) := by decide +kernel
theorem dX0_multiplyOrDivide_56 : decode cX0_multiplyOrDivide 56 = .ok (.iload_n 1, 1) := by decide +kernel
theorem dX0_multiplyOrDivide_57 : decode cX0_multiplyOrDivide 57 = .ok (.invokestatic 159, 3) := by decide +kernel
theorem dX0_multiplyOrDivide_60 : decode cX0_multiplyOrDivide 60 = .ok (.iload_n 2, 1) := by decide +kernel
theorem dX0_multiplyOrDivide_61 : decode cX0_multiplyOrDivide 61 = .ok (.invokestatic 159, 3) := by decide +kernel
theorem dX0_multiplyOrDivide_64 : decode cX0_multiplyOrDivide 64 = .ok (.lmul, 1) := by decide +kernel
theorem dX0_multiplyOrDivide_65 : decode cX0_multiplyOrDivide 65 = .ok (.invokestatic 164, 3) := by decide +kernel
theorem dX0_multiplyOrDivide_68 : decode cX0_multiplyOrDivide 68 = .ok (.ireturn, 1) := by decide +kernel
theorem dX0_multiplyOrDivide_69 : decode cX0_multiplyOrDivide 69 = .ok (.iload_n 0, 1) := by decide +kernel
theorem dX0_multiplyOrDivide_70 : decode cX0_multiplyOrDivide 70 = .ok (.iload_n 1, 1) := by decide +kernel
theorem dX0_multiplyOrDivide_71 : decode cX0_multiplyOrDivide 71 = .ok (.iload_n 2, 1) := by decide +kernel
theorem dX0_multiplyOrDivide_72 : decode cX0_multiplyOrDivide 72 = .ok (.invokestatic 168, 3) := by decide +kernel
theorem dX0_multiplyOrDivide_75 : decode cX0_multiplyOrDivide 75 = .ok (.ireturn, 1) := by decide +kernel
theorem dX0_upperHalf_0 : decode cX0_upperHalf 0 = .ok (.lload_n 0, 1) := by decide +kernel
theorem dX0_upperHalf_1 : decode cX0_upperHalf 1 = .ok (.bipush 32, 2) := by decide +kernel
theorem dX0_upperHalf_3 : decode cX0_upperHalf 3 = .ok (.lushr, 1) := by decide +kernel
theorem dX0_upperHalf_4 : decode cX0_upperHalf 4 = .ok (.l2i, 1) := by decide +kernel
theorem dX0_upperHalf_5 : decode cX0_upperHalf 5 = .ok (.ireturn, 1) := by decide +kernel
theorem dX0_divide_0 : decode cX0_divide 0 = .ok (.iload_n 2, 1) := by decide +kernel
theorem dX0_divide_1 : decode cX0_divide 1 = .ok (.ifCond .ne 15, 3) := by decide +kernel
theorem dX0_divide_4 : decode cX0_divide 4 = .ok (.iload_n 0, 1) := by decide +kernel
theorem dX0_divide_5 : decode cX0_divide 5 = .ok (.bipush 6, 2) := by decide +kernel
theorem dX0_divide_7 : decode cX0_divide 7 = .ok (.if_icmp .ge 7, 3) := by decide +kernel
theorem dX0_divide_10 : decode cX0_divide 10 = .ok (.iconst (-1), 1) := by decide +kernel
theorem dX0_divide_11 : decode cX0_divide 11 = .ok (.goto 4, 3) := by decide +kernel
theorem dX0_divide_14 : decode cX0_divide 14 = .ok (.iload_n 1, 1) := by decide +kernel
theorem dX0_divide_15 : decode cX0_divide 15 = .ok (.ireturn, 1) := by decide +kernel
theorem dX0_divide_16 : decode cX0_divide 16 = .ok (.iload_n 0, 1) := by decide +kernel
theorem dX0_divide_17 : decode cX0_divide 17 = .ok (.tableswitch 46 4 6 #[27, 31, 42], 27) := by decide +kernel
theorem dX0_divide_44 : decode cX0_divide 44 = .ok (.iload_n 1, 1) := by decide +kernel
theorem dX0_divide_45 : decode cX0_divide 45 = .ok (.iload_n 2, 1) := by decide +kernel
theorem dX0_divide_46 : decode cX0_divide 46 = .ok (.idiv, 1) := by decide +kernel
theorem dX0_divide_47 : decode cX0_divide 47 = .ok (.ireturn, 1) := by decide +kernel
theorem dX0_divide_48 : decode cX0_divide 48 = .ok (.iload_n 1, 1) := by decide +kernel
theorem dX0_divide_49 : decode cX0_divide 49 = .ok (.invokestatic 159, 3) := by decide +kernel
theorem dX0_divide_52 : decode cX0_divide 52 = .ok (.iload_n 2, 1) := by decide +kernel
theorem dX0_divide_53 : decode cX0_divide 53 = .ok (.invokestatic 159, 3) := by decide +kernel
theorem dX0_divide_56 : decode cX0_divide 56 = .ok (.ldiv, 1) := by decide +kernel
theorem dX0_divide_57 : decode cX0_divide 57 = .ok (.l2i, 1) := by decide +kernel
theorem dX0_divide_58 : decode cX0_divide 58 = .ok (.ireturn, 1) := by decide +kernel
theorem dX0_divide_59 : decode cX0_divide 59 = .ok (.iload_n 1, 1) := by decide +kernel
theorem dX0_divide_60 : decode cX0_divide 60 = .ok (.iload_n 2, 1) := by decide +kernel
theorem dX0_divide_61 : decode cX0_divide 61 = .ok (.irem, 1) := by decide +kernel
theorem dX0_divide_62 : decode cX0_divide 62 = .ok (.ireturn, 1) := by decide +kernel
theorem dX0_divide_63 : decode cX0_divide 63 = .ok (.iload_n 1, 1) := by decide +kernel
theorem dX0_divide_64 : decode cX0_divide 64 = .ok (.invokestatic 159, 3) := by decide +kernel
theorem dX0_divide_67 : decode cX0_divide 67 = .ok (.iload_n 2, 1) := by decide +kernel
theorem dX0_divide_68 : decode cX0_divide 68 = .ok (.invokestatic 159, 3) := by decide +kernel
theorem dX0_divide_71 : decode cX0_divide 71 = .ok (.lrem, 1) := by decide +kernel
theorem dX0_divide_72 : decode cX0_divide 72 = .ok (.l2i, 1) := by decide +kernel
theorem dX0_divide_73 : decode cX0_divide 73 = .ok (.ireturn, 1) := by decide +kernel
theorem dX0_partD_0 : decode cX0_partD 0 = .ok (.iload_n 0, 1) := by decide +kernel
theorem dX0_partD_1 : decode cX0_partD 1 = .ok (.bipush 7, 2) := by decide +kernel
theorem dX0_partD_3 : decode cX0_partD 3 = .ok (.iushr, 1) := by decide +kernel
theorem dX0_partD_4 : decode cX0_partD 4 = .ok (.bipush 31, 2) := by decide +kernel
theorem dX0_partD_6 : decode cX0_partD 6 = .ok (.iand, 1) := by decide +kernel
theorem dX0_partD_7 : decode cX0_partD 7 = .ok (.ireturn, 1) := by decide +kernel
theorem dX0_partF_0 : decode cX0_partF 0 = .ok (.iload_n 0, 1) := by decide +kernel
theorem dX0_partF_1 : decode cX0_partF 1 = .ok (.bipush 12, 2) := by decide +kernel
theorem dX0_partF_3 : decode cX0_partF 3 = .ok (.iushr, 1) := by decide +kernel
theorem dX0_partF_4 : decode cX0_partF 4 = .ok (.bipush 7, 2) := by decide +kernel
theorem dX0_partF_6 : decode cX0_partF 6 = .ok (.iand, 1) := by decide +kernel
theorem dX0_partF_7 : decode cX0_partF 7 = .ok (.ireturn, 1) := by decide +kernel
theorem dX0_partB_0 : decode cX0_partB 0 = .ok (.iload_n 0, 1) := by decide +kernel
theorem dX0_partB_1 : decode cX0_partB 1 = .ok (.bipush 20, 2) := by decide +kernel
theorem dX0_partB_3 : decode cX0_partB 3 = .ok (.iushr, 1) := by decide +kernel
theorem dX0_partB_4 : decode cX0_partB 4 = .ok (.bipush 31, 2) := by decide +kernel
theorem dX0_partB_6 : decode cX0_partB 6 = .ok (.iand, 1) := by decide +kernel
theorem dX0_partB_7 : decode cX0_partB 7 = .ok (.ireturn, 1) := by decide +kernel
theorem dX0_partG_0 : decode cX0_partG 0 = .ok (.iload_n 0, 1) := by decide +kernel
theorem dX0_partG_1 : decode cX0_partG 1 = .ok (.bipush 25, 2) := by decide +kernel
theorem dX0_partG_3 : decode cX0_partG 3 = .ok (.iushr, 1) := by decide +kernel
theorem dX0_partG_4 : decode cX0_partG 4 = .ok (.ireturn, 1) := by decide +kernel
theorem dX0_lowImmediate_0 : decode cX0_lowImmediate 0 = .ok (.iload_n 0, 1) := by decide +kernel
theorem dX0_lowImmediate_1 : decode cX0_lowImmediate 1 = .ok (.bipush 20, 2) := by decide +kernel
theorem dX0_lowImmediate_3 : decode cX0_lowImmediate 3 = .ok (.ishr, 1) := by decide +kernel
theorem dX0_lowImmediate_4 : decode cX0_lowImmediate 4 = .ok (.ireturn, 1) := by decide +kernel
theorem dX0_storeImmediate_0 : decode cX0_storeImmediate 0 = .ok (.iload_n 0, 1) := by decide +kernel
theorem dX0_storeImmediate_1 : decode cX0_storeImmediate 1 = .ok (.bipush 25, 2) := by decide +kernel
theorem dX0_storeImmediate_3 : decode cX0_storeImmediate 3 = .ok (.ishr, 1) := by decide +kernel
theorem dX0_storeImmediate_4 : decode cX0_storeImmediate 4 = .ok (.iconst 5, 1) := by decide +kernel
theorem dX0_storeImmediate_5 : decode cX0_storeImmediate 5 = .ok (.ishl, 1) := by decide +kernel
theorem dX0_storeImmediate_6 : decode cX0_storeImmediate 6 = .ok (.iload_n 0, 1) := by decide +kernel
theorem dX0_storeImmediate_7 : decode cX0_storeImmediate 7 = .ok (.invokestatic 154, 3) := by decide +kernel
theorem dX0_storeImmediate_10 : decode cX0_storeImmediate 10 = .ok (.ior, 1) := by decide +kernel
theorem dX0_storeImmediate_11 : decode cX0_storeImmediate 11 = .ok (.ireturn, 1) := by decide +kernel
theorem dX0_branchImmediate_0 : decode cX0_branchImmediate 0 = .ok (.iload_n 0, 1) := by decide +kernel
theorem dX0_branchImmediate_1 : decode cX0_branchImmediate 1 = .ok (.bipush 31, 2) := by decide +kernel
theorem dX0_branchImmediate_3 : decode cX0_branchImmediate 3 = .ok (.ishr, 1) := by decide +kernel
theorem dX0_branchImmediate_4 : decode cX0_branchImmediate 4 = .ok (.bipush 12, 2) := by decide +kernel
theorem dX0_branchImmediate_6 : decode cX0_branchImmediate 6 = .ok (.ishl, 1) := by decide +kernel
theorem dX0_branchImmediate_7 : decode cX0_branchImmediate 7 = .ok (.iload_n 0, 1) := by decide +kernel
theorem dX0_branchImmediate_8 : decode cX0_branchImmediate 8 = .ok (.bipush 7, 2) := by decide +kernel
theorem dX0_branchImmediate_10 : decode cX0_branchImmediate 10 = .ok (.iushr, 1) := by decide +kernel
theorem dX0_branchImmediate_11 : decode cX0_branchImmediate 11 = .ok (.iconst 1, 1) := by decide +kernel
theorem dX0_branchImmediate_12 : decode cX0_branchImmediate 12 = .ok (.iand, 1) := by decide +kernel
theorem dX0_branchImmediate_13 : decode cX0_branchImmediate 13 = .ok (.bipush 11, 2) := by decide +kernel
theorem dX0_branchImmediate_15 : decode cX0_branchImmediate 15 = .ok (.ishl, 1) := by decide +kernel
theorem dX0_branchImmediate_16 : decode cX0_branchImmediate 16 = .ok (.ior, 1) := by decide +kernel
theorem dX0_branchImmediate_17 : decode cX0_branchImmediate 17 = .ok (.iload_n 0, 1) := by decide +kernel
theorem dX0_branchImmediate_18 : decode cX0_branchImmediate 18 = .ok (.bipush 25, 2) := by decide +kernel
theorem dX0_branchImmediate_20 : decode cX0_branchImmediate 20 = .ok (.iushr, 1) := by decide +kernel
theorem dX0_branchImmediate_21 : decode cX0_branchImmediate 21 = .ok (.bipush 63, 2) := by decide +kernel
theorem dX0_branchImmediate_23 : decode cX0_branchImmediate 23 = .ok (.iand, 1) := by decide +kernel
theorem dX0_branchImmediate_24 : decode cX0_branchImmediate 24 = .ok (.iconst 5, 1) := by decide +kernel
theorem dX0_branchImmediate_25 : decode cX0_branchImmediate 25 = .ok (.ishl, 1) := by decide +kernel
theorem dX0_branchImmediate_26 : decode cX0_branchImmediate 26 = .ok (.ior, 1) := by decide +kernel
theorem dX0_branchImmediate_27 : decode cX0_branchImmediate 27 = .ok (.iload_n 0, 1) := by decide +kernel
theorem dX0_branchImmediate_28 : decode cX0_branchImmediate 28 = .ok (.bipush 8, 2) := by decide +kernel
theorem dX0_branchImmediate_30 : decode cX0_branchImmediate 30 = .ok (.iushr, 1) := by decide +kernel
theorem dX0_branchImmediate_31 : decode cX0_branchImmediate 31 = .ok (.bipush 15, 2) := by decide +kernel
theorem dX0_branchImmediate_33 : decode cX0_branchImmediate 33 = .ok (.iand, 1) := by decide +kernel
theorem dX0_branchImmediate_34 : decode cX0_branchImmediate 34 = .ok (.iconst 1, 1) := by decide +kernel
theorem dX0_branchImmediate_35 : decode cX0_branchImmediate 35 = .ok (.ishl, 1) := by decide +kernel
theorem dX0_branchImmediate_36 : decode cX0_branchImmediate 36 = .ok (.ior, 1) := by decide +kernel
theorem dX0_branchImmediate_37 : decode cX0_branchImmediate 37 = .ok (.ireturn, 1) := by decide +kernel
theorem dX0_upperImmediate_0 : decode cX0_upperImmediate 0 = .ok (.iload_n 0, 1) := by decide +kernel
theorem dX0_upperImmediate_1 : decode cX0_upperImmediate 1 = .ok (.bipush 12, 2) := by decide +kernel
theorem dX0_upperImmediate_3 : decode cX0_upperImmediate 3 = .ok (.iushr, 1) := by decide +kernel
theorem dX0_upperImmediate_4 : decode cX0_upperImmediate 4 = .ok (.bipush 12, 2) := by decide +kernel
theorem dX0_upperImmediate_6 : decode cX0_upperImmediate 6 = .ok (.ishl, 1) := by decide +kernel
theorem dX0_upperImmediate_7 : decode cX0_upperImmediate 7 = .ok (.ireturn, 1) := by decide +kernel
theorem dX0_jumpImmediate_0 : decode cX0_jumpImmediate 0 = .ok (.iload_n 0, 1) := by decide +kernel
theorem dX0_jumpImmediate_1 : decode cX0_jumpImmediate 1 = .ok (.bipush 31, 2) := by decide +kernel
theorem dX0_jumpImmediate_3 : decode cX0_jumpImmediate 3 = .ok (.ishr, 1) := by decide +kernel
theorem dX0_jumpImmediate_4 : decode cX0_jumpImmediate 4 = .ok (.bipush 20, 2) := by decide +kernel
theorem dX0_jumpImmediate_6 : decode cX0_jumpImmediate 6 = .ok (.ishl, 1) := by decide +kernel
theorem dX0_jumpImmediate_7 : decode cX0_jumpImmediate 7 = .ok (.iload_n 0, 1) := by decide +kernel
theorem dX0_jumpImmediate_8 : decode cX0_jumpImmediate 8 = .ok (.bipush 12, 2) := by decide +kernel
theorem dX0_jumpImmediate_10 : decode cX0_jumpImmediate 10 = .ok (.iushr, 1) := by decide +kernel
theorem dX0_jumpImmediate_11 : decode cX0_jumpImmediate 11 = .ok (.sipush 255, 3) := by decide +kernel
theorem dX0_jumpImmediate_14 : decode cX0_jumpImmediate 14 = .ok (.iand, 1) := by decide +kernel
theorem dX0_jumpImmediate_15 : decode cX0_jumpImmediate 15 = .ok (.bipush 12, 2) := by decide +kernel
theorem dX0_jumpImmediate_17 : decode cX0_jumpImmediate 17 = .ok (.ishl, 1) := by decide +kernel
theorem dX0_jumpImmediate_18 : decode cX0_jumpImmediate 18 = .ok (.ior, 1) := by decide +kernel
theorem dX0_jumpImmediate_19 : decode cX0_jumpImmediate 19 = .ok (.iload_n 0, 1) := by decide +kernel
theorem dX0_jumpImmediate_20 : decode cX0_jumpImmediate 20 = .ok (.bipush 20, 2) := by decide +kernel
theorem dX0_jumpImmediate_22 : decode cX0_jumpImmediate 22 = .ok (.iushr, 1) := by decide +kernel
theorem dX0_jumpImmediate_23 : decode cX0_jumpImmediate 23 = .ok (.iconst 1, 1) := by decide +kernel
theorem dX0_jumpImmediate_24 : decode cX0_jumpImmediate 24 = .ok (.iand, 1) := by decide +kernel
theorem dX0_jumpImmediate_25 : decode cX0_jumpImmediate 25 = .ok (.bipush 11, 2) := by decide +kernel
theorem dX0_jumpImmediate_27 : decode cX0_jumpImmediate 27 = .ok (.ishl, 1) := by decide +kernel
theorem dX0_jumpImmediate_28 : decode cX0_jumpImmediate 28 = .ok (.ior, 1) := by decide +kernel
theorem dX0_jumpImmediate_29 : decode cX0_jumpImmediate 29 = .ok (.iload_n 0, 1) := by decide +kernel
theorem dX0_jumpImmediate_30 : decode cX0_jumpImmediate 30 = .ok (.bipush 21, 2) := by decide +kernel
theorem dX0_jumpImmediate_32 : decode cX0_jumpImmediate 32 = .ok (.iushr, 1) := by decide +kernel
theorem dX0_jumpImmediate_33 : decode cX0_jumpImmediate 33 = .ok (.sipush 1023, 3) := by decide +kernel
theorem dX0_jumpImmediate_36 : decode cX0_jumpImmediate 36 = .ok (.iand, 1) := by decide +kernel
theorem dX0_jumpImmediate_37 : decode cX0_jumpImmediate 37 = .ok (.iconst 1, 1) := by decide +kernel
theorem dX0_jumpImmediate_38 : decode cX0_jumpImmediate 38 = .ok (.ishl, 1) := by decide +kernel
theorem dX0_jumpImmediate_39 : decode cX0_jumpImmediate 39 = .ok (.ior, 1) := by decide +kernel
theorem dX0_jumpImmediate_40 : decode cX0_jumpImmediate 40 = .ok (.ireturn, 1) := by decide +kernel
end
section
theorem dX1_init_0 : decode cX1_init 0 = .ok (.aload_n 0, 1) := by decide +kernel
theorem dX1_init_1 : decode cX1_init 1 = .ok (.invokespecial 1, 3) := by decide +kernel
theorem dX1_init_4 : decode cX1_init 4 = .ok (.aload_n 0, 1) := by decide +kernel
theorem dX1_init_5 : decode cX1_init 5 = .ok (.sipush 16384, 3) := by decide +kernel
theorem dX1_init_8 : decode cX1_init 8 = .ok (.newarray .byte, 2) := by decide +kernel
theorem dX1_init_10 : decode cX1_init 10 = .ok (.putfield 7, 3) := by decide +kernel
theorem dX1_init_13 : decode cX1_init 13 = .ok (.aload_n 0, 1) := by decide +kernel
theorem dX1_init_14 : decode cX1_init 14 = .ok (.iconst 4, 1) := by decide +kernel
theorem dX1_init_15 : decode cX1_init 15 = .ok (.newarray .int, 2) := by decide +kernel
theorem dX1_init_17 : decode cX1_init 17 = .ok (.dup, 1) := by decide +kernel
theorem dX1_init_18 : decode cX1_init 18 = .ok (.iconst 0, 1) := by decide +kernel
theorem dX1_init_19 : decode cX1_init 19 = .ok (.bipush 7, 2) := by decide +kernel
theorem dX1_init_21 : decode cX1_init 21 = .ok (.iastore, 1) := by decide +kernel
theorem dX1_init_22 : decode cX1_init 22 = .ok (.dup, 1) := by decide +kernel
theorem dX1_init_23 : decode cX1_init 23 = .ok (.iconst 1, 1) := by decide +kernel
theorem dX1_init_24 : decode cX1_init 24 = .ok (.bipush 7, 2) := by decide +kernel
theorem dX1_init_26 : decode cX1_init 26 = .ok (.iastore, 1) := by decide +kernel
theorem dX1_init_27 : decode cX1_init 27 = .ok (.dup, 1) := by decide +kernel
theorem dX1_init_28 : decode cX1_init 28 = .ok (.iconst 2, 1) := by decide +kernel
theorem dX1_init_29 : decode cX1_init 29 = .ok (.bipush 7, 2) := by decide +kernel
theorem dX1_init_31 : decode cX1_init 31 = .ok (.iastore, 1) := by decide +kernel
theorem dX1_init_32 : decode cX1_init 32 = .ok (.dup, 1) := by decide +kernel
theorem dX1_init_33 : decode cX1_init 33 = .ok (.iconst 3, 1) := by decide +kernel
theorem dX1_init_34 : decode cX1_init 34 = .ok (.bipush 7, 2) := by decide +kernel
theorem dX1_init_36 : decode cX1_init 36 = .ok (.iastore, 1) := by decide +kernel
theorem dX1_init_37 : decode cX1_init 37 = .ok (.putfield 13, 3) := by decide +kernel
theorem dX1_init_40 : decode cX1_init 40 = .ok (.aload_n 0, 1) := by decide +kernel
theorem dX1_init_41 : decode cX1_init 41 = .ok (.bipush 32, 2) := by decide +kernel
theorem dX1_init_43 : decode cX1_init 43 = .ok (.newarray .int, 2) := by decide +kernel
theorem dX1_init_45 : decode cX1_init 45 = .ok (.putfield 17, 3) := by decide +kernel
theorem dX1_init_48 : decode cX1_init 48 = .ok (.aload_n 0, 1) := by decide +kernel
theorem dX1_init_49 : decode cX1_init 49 = .ok (.iconst (-1), 1) := by decide +kernel
theorem dX1_init_50 : decode cX1_init 50 = .ok (.putfield 20, 3) := by decide +kernel
theorem dX1_init_53 : decode cX1_init 53 = .ok (.return_, 1) := by decide +kernel
theorem dX1_thrown_0 : decode cX1_thrown 0 = .ok (.aload_n 0, 1) := by decide +kernel
theorem dX1_thrown_1 : decode cX1_thrown 1 = .ok (.getfield 24, 3) := by decide +kernel
theorem dX1_thrown_4 : decode cX1_thrown 4 = .ok (.ireturn, 1) := by decide +kernel
theorem dX1_poke_0 : decode cX1_poke 0 = .ok (.aload_n 0, 1) := by decide +kernel
theorem dX1_poke_1 : decode cX1_poke 1 = .ok (.iconst 0, 1) := by decide +kernel
theorem dX1_poke_2 : decode cX1_poke 2 = .ok (.putfield 24, 3) := by decide +kernel
theorem dX1_poke_5 : decode cX1_poke 5 = .ok (.iload_n 2, 1) := by decide +kernel
theorem dX1_poke_6 : decode cX1_poke 6 = .ok (.iconst 1, 1) := by decide +kernel
theorem dX1_poke_7 : decode cX1_poke 7 = .ok (.if_icmp .lt 22, 3) := by decide +kernel
theorem dX1_poke_10 : decode cX1_poke 10 = .ok (.iload_n 2, 1) := by decide +kernel
theorem dX1_poke_11 : decode cX1_poke 11 = .ok (.bipush 8, 2) := by decide +kernel
theorem dX1_poke_13 : decode cX1_poke 13 = .ok (.if_icmp .gt 16, 3) := by decide +kernel
theorem dX1_poke_16 : decode cX1_poke 16 = .ok (.iload_n 1, 1) := by decide +kernel
theorem dX1_poke_17 : decode cX1_poke 17 = .ok (.ifCond .lt 12, 3) := by decide +kernel
theorem dX1_poke_20 : decode cX1_poke 20 = .ok (.iload_n 1, 1) := by decide +kernel
theorem dX1_poke_21 : decode cX1_poke 21 = .ok (.sipush 16384, 3) := by decide +kernel
theorem dX1_poke_24 : decode cX1_poke 24 = .ok (.iload_n 2, 1) := by decide +kernel
theorem dX1_poke_25 : decode cX1_poke 25 = .ok (.isub, 1) := by decide +kernel
theorem dX1_poke_26 : decode cX1_poke 26 = .ok (.if_icmp .le 5, 3) := by decide +kernel
theorem dX1_poke_29 : decode cX1_poke 29 = .ok (.iconst 0, 1) := by decide +kernel
theorem dX1_poke_30 : decode cX1_poke 30 = .ok (.ireturn, 1) := by decide +kernel
theorem dX1_poke_31 : decode cX1_poke 31 = .ok (.iconst 0, 1) := by decide +kernel
theorem dX1_poke_32 : decode cX1_poke 32 = .ok (.istore 5, 2) := by decide +kernel
theorem dX1_poke_34 : decode cX1_poke 34 = .ok (.iload 5, 2) := by decide +kernel
theorem dX1_poke_36 : decode cX1_poke 36 = .ok (.iload_n 2, 1) := by decide +kernel
theorem dX1_poke_37 : decode cX1_poke 37 = .ok (.if_icmp .ge 27, 3) := by decide +kernel
theorem dX1_poke_40 : decode cX1_poke 40 = .ok (.aload_n 0, 1) := by decide +kernel
theorem dX1_poke_41 : decode cX1_poke 41 = .ok (.getfield 7, 3) := by decide +kernel
theorem dX1_poke_44 : decode cX1_poke 44 = .ok (.iload_n 1, 1) := by decide +kernel
theorem dX1_poke_45 : decode cX1_poke 45 = .ok (.iload 5, 2) := by decide +kernel
theorem dX1_poke_47 : decode cX1_poke 47 = .ok (.iadd, 1) := by decide +kernel
theorem dX1_poke_48 : decode cX1_poke 48 = .ok (.lload_n 3, 1) := by decide +kernel
theorem dX1_poke_49 : decode cX1_poke 49 = .ok (.bipush 8, 2) := by decide +kernel
theorem dX1_poke_51 : decode cX1_poke 51 = .ok (.iload 5, 2) := by decide +kernel
theorem dX1_poke_53 : decode cX1_poke 53 = .ok (.imul, 1) := by decide +kernel
theorem dX1_poke_54 : decode cX1_poke 54 = .ok (.lshr, 1) := by decide +kernel
theorem dX1_poke_55 : decode cX1_poke 55 = .ok (.l2i, 1) := by decide +kernel
theorem dX1_poke_56 : decode cX1_poke 56 = .ok (.i2b, 1) := by decide +kernel
theorem dX1_poke_57 : decode cX1_poke 57 = .ok (.bastore, 1) := by decide +kernel
theorem dX1_poke_58 : decode cX1_poke 58 = .ok (.iinc 5 1, 3) := by decide +kernel
theorem dX1_poke_61 : decode cX1_poke 61 = .ok (.goto (-27), 3) := by decide +kernel
theorem dX1_poke_64 : decode cX1_poke 64 = .ok (.iconst 1, 1) := by decide +kernel
theorem dX1_poke_65 : decode cX1_poke 65 = .ok (.ireturn, 1) := by decide +kernel
theorem dX1_peek_0 : decode cX1_peek 0 = .ok (.aload_n 0, 1) := by decide +kernel
theorem dX1_peek_1 : decode cX1_peek 1 = .ok (.iconst 0, 1) := by decide +kernel
theorem dX1_peek_2 : decode cX1_peek 2 = .ok (.putfield 24, 3) := by decide +kernel
theorem dX1_peek_5 : decode cX1_peek 5 = .ok (.iload_n 1, 1) := by decide +kernel
theorem dX1_peek_6 : decode cX1_peek 6 = .ok (.ifCond .lt 23, 3) := by decide +kernel
theorem dX1_peek_9 : decode cX1_peek 9 = .ok (.iload_n 1, 1) := by decide +kernel
theorem dX1_peek_10 : decode cX1_peek 10 = .ok (.sipush 16384, 3) := by decide +kernel
theorem dX1_peek_13 : decode cX1_peek 13 = .ok (.if_icmp .ge 16, 3) := by decide +kernel
theorem dX1_peek_16 : decode cX1_peek 16 = .ok (.aload_n 0, 1) := by decide +kernel
theorem dX1_peek_17 : decode cX1_peek 17 = .ok (.getfield 7, 3) := by decide +kernel
theorem dX1_peek_20 : decode cX1_peek 20 = .ok (.iload_n 1, 1) := by decide +kernel
theorem dX1_peek_21 : decode cX1_peek 21 = .ok (.baload, 1) := by decide +kernel
theorem dX1_peek_22 : decode cX1_peek 22 = .ok (.sipush 255, 3) := by decide +kernel
theorem dX1_peek_25 : decode cX1_peek 25 = .ok (.iand, 1) := by decide +kernel
theorem dX1_peek_26 : decode cX1_peek 26 = .ok (.goto 4, 3) := by decide +kernel
theorem dX1_peek_29 : decode cX1_peek 29 = .ok (.iconst (-1), 1) := by decide +kernel
theorem dX1_peek_30 : decode cX1_peek 30 = .ok (.ireturn, 1) := by decide +kernel
theorem dX1_protect_0 : decode cX1_protect 0 = .ok (.aload_n 0, 1) := by decide +kernel
theorem dX1_protect_1 : decode cX1_protect 1 = .ok (.iconst 0, 1) := by decide +kernel
theorem dX1_protect_2 : decode cX1_protect 2 = .ok (.putfield 24, 3) := by decide +kernel
theorem dX1_protect_5 : decode cX1_protect 5 = .ok (.iload_n 1, 1) := by decide +kernel
theorem dX1_protect_6 : decode cX1_protect 6 = .ok (.ifCond .lt 18, 3) := by decide +kernel
theorem dX1_protect_9 : decode cX1_protect 9 = .ok (.iload_n 1, 1) := by decide +kernel
theorem dX1_protect_10 : decode cX1_protect 10 = .ok (.iconst 3, 1) := by decide +kernel
theorem dX1_protect_11 : decode cX1_protect 11 = .ok (.if_icmp .gt 13, 3) := by decide +kernel
theorem dX1_protect_14 : decode cX1_protect 14 = .ok (.iload_n 2, 1) := by decide +kernel
theorem dX1_protect_15 : decode cX1_protect 15 = .ok (.ifCond .lt 9, 3) := by decide +kernel
theorem dX1_protect_18 : decode cX1_protect 18 = .ok (.iload_n 2, 1) := by decide +kernel
theorem dX1_protect_19 : decode cX1_protect 19 = .ok (.bipush 7, 2) := by decide +kernel
theorem dX1_protect_21 : decode cX1_protect 21 = .ok (.if_icmp .le 5, 3) := by decide +kernel
theorem dX1_protect_24 : decode cX1_protect 24 = .ok (.iconst 0, 1) := by decide +kernel
theorem dX1_protect_25 : decode cX1_protect 25 = .ok (.ireturn, 1) := by decide +kernel
theorem dX1_protect_26 : decode cX1_protect 26 = .ok (.aload_n 0, 1) := by decide +kernel
theorem dX1_protect_27 : decode cX1_protect 27 = .ok (.getfield 13, 3) := by decide +kernel
theorem dX1_protect_30 : decode cX1_protect 30 = .ok (.iload_n 1, 1) := by decide +kernel
theorem dX1_protect_31 : decode cX1_protect 31 = .ok (.iload_n 2, 1) := by decide +kernel
theorem dX1_protect_32 : decode cX1_protect 32 = .ok (.iastore, 1) := by decide +kernel
theorem dX1_protect_33 : decode cX1_protect 33 = .ok (.iconst 1, 1) := by decide +kernel
theorem dX1_protect_34 : decode cX1_protect 34 = .ok (.ireturn, 1) := by decide +kernel
theorem dX1_may_0 : decode cX1_may 0 = .ok (.iload_n 1, 1) := by decide +kernel
theorem dX1_may_1 : decode cX1_may 1 = .ok (.ifCond .lt 14, 3) := by decide +kernel
theorem dX1_may_4 : decode cX1_may 4 = .ok (.iload_n 1, 1) := by decide +kernel
theorem dX1_may_5 : decode cX1_may 5 = .ok (.sipush 16384, 3) := by decide +kernel
theorem dX1_may_8 : decode cX1_may 8 = .ok (.if_icmp .ge 7, 3) := by decide +kernel
theorem dX1_may_11 : decode cX1_may 11 = .ok (.iconst 1, 1) := by decide +kernel
theorem dX1_may_12 : decode cX1_may 12 = .ok (.goto 4, 3) := by decide +kernel
theorem dX1_may_15 : decode cX1_may 15 = .ok (.iconst 0, 1) := by decide +kernel
theorem dX1_may_16 : decode cX1_may 16 = .ok (.istore_n 3, 1) := by decide +kernel
theorem dX1_may_17 : decode cX1_may 17 = .ok (.iload_n 3, 1) := by decide +kernel
theorem dX1_may_18 : decode cX1_may 18 = .ok (.ifCond .eq 25, 3) := by decide +kernel
theorem dX1_may_21 : decode cX1_may 21 = .ok (.aload_n 0, 1) := by decide +kernel
theorem dX1_may_22 : decode cX1_may 22 = .ok (.getfield 13, 3) := by decide +kernel
theorem dX1_may_25 : decode cX1_may 25 = .ok (.iload_n 1, 1) := by decide +kernel
theorem dX1_may_26 : decode cX1_may 26 = .ok (.sipush 4096, 3) := by decide +kernel
theorem dX1_may_29 : decode cX1_may 29 = .ok (.idiv, 1) := by decide +kernel
theorem dX1_may_30 : decode cX1_may 30 = .ok (.iaload, 1) := by decide +kernel
theorem dX1_may_31 : decode cX1_may 31 = .ok (.iload_n 2, 1) := by decide +kernel
theorem dX1_may_32 : decode cX1_may 32 = .ok (.idiv, 1) := by decide +kernel
theorem dX1_may_33 : decode cX1_may 33 = .ok (.iconst 2, 1) := by decide +kernel
theorem dX1_may_34 : decode cX1_may 34 = .ok (.irem, 1) := by decide +kernel
theorem dX1_may_35 : decode cX1_may 35 = .ok (.iconst 1, 1) := by decide +kernel
theorem dX1_may_36 : decode cX1_may 36 = .ok (.if_icmp .ne 7, 3) := by decide +kernel
theorem dX1_may_39 : decode cX1_may 39 = .ok (.iconst 1, 1) := by decide +kernel
theorem dX1_may_40 : decode cX1_may 40 = .ok (.goto 4, 3) := by decide +kernel
theorem dX1_may_43 : decode cX1_may 43 = .ok (.iconst 0, 1) := by decide +kernel
theorem dX1_may_44 : decode cX1_may 44 = .ok (.ireturn, 1) := by decide +kernel
theorem dX1_bytes_0 : decode cX1_bytes 0 = .ok (.iconst 0, 1) := by decide +kernel
theorem dX1_bytes_1 : decode cX1_bytes 1 = .ok (.istore_n 3, 1) := by decide +kernel
theorem dX1_bytes_2 : decode cX1_bytes 2 = .ok (.iconst 0, 1) := by decide +kernel
theorem dX1_bytes_3 : decode cX1_bytes 3 = .ok (.istore 4, 2) := by decide +kernel
theorem dX1_bytes_5 : decode cX1_bytes 5 = .ok (.iload 4, 2) := by decide +kernel
theorem dX1_bytes_7 : decode cX1_bytes 7 = .ok (.iload_n 2, 1) := by decide +kernel
theorem dX1_bytes_8 : decode cX1_bytes 8 = .ok (.if_icmp .ge 31, 3) := by decide +kernel
theorem dX1_bytes_11 : decode cX1_bytes 11 = .ok (.iload_n 3, 1) := by decide +kernel
theorem dX1_bytes_12 : decode cX1_bytes 12 = .ok (.aload_n 0, 1) := by decide +kernel
theorem dX1_bytes_13 : decode cX1_bytes 13 = .ok (.getfield 7, 3) := by decide +kernel
theorem dX1_bytes_16 : decode cX1_bytes 16 = .ok (.iload_n 1, 1) := by decide +kernel
theorem dX1_bytes_17 : decode cX1_bytes 17 = .ok (.iload 4, 2) := by decide +kernel
theorem dX1_bytes_19 : decode cX1_bytes 19 = .ok (.iadd, 1) := by decide +kernel
theorem dX1_bytes_20 : decode cX1_bytes 20 = .ok (.baload, 1) := by decide +kernel
theorem dX1_bytes_21 : decode cX1_bytes 21 = .ok (.sipush 255, 3) := by decide +kernel
theorem dX1_bytes_24 : decode cX1_bytes 24 = .ok (.iand, 1) := by decide +kernel
theorem dX1_bytes_25 : decode cX1_bytes 25 = .ok (.bipush 8, 2) := by decide +kernel
theorem dX1_bytes_27 : decode cX1_bytes 27 = .ok (.iload 4, 2) := by decide +kernel
theorem dX1_bytes_29 : decode cX1_bytes 29 = .ok (.imul, 1) := by decide +kernel
theorem dX1_bytes_30 : decode cX1_bytes 30 = .ok (.ishl, 1) := by decide +kernel
theorem dX1_bytes_31 : decode cX1_bytes 31 = .ok (.ior, 1) := by decide +kernel
theorem dX1_bytes_32 : decode cX1_bytes 32 = .ok (.istore_n 3, 1) := by decide +kernel
theorem dX1_bytes_33 : decode cX1_bytes 33 = .ok (.iinc 4 1, 3) := by decide +kernel
theorem dX1_bytes_36 : decode cX1_bytes 36 = .ok (.goto (-31), 3) := by decide +kernel
theorem dX1_bytes_39 : decode cX1_bytes 39 = .ok (.iload_n 3, 1) := by decide +kernel
theorem dX1_bytes_40 : decode cX1_bytes 40 = .ok (.ireturn, 1) := by decide +kernel
theorem dX1_set_0 : decode cX1_set 0 = .ok (.aload_n 0, 1) := by decide +kernel
theorem dX1_set_1 : decode cX1_set 1 = .ok (.iconst 0, 1) := by decide +kernel
theorem dX1_set_2 : decode cX1_set 2 = .ok (.putfield 24, 3) := by decide +kernel
theorem dX1_set_5 : decode cX1_set 5 = .ok (.iload_n 1, 1) := by decide +kernel
theorem dX1_set_6 : decode cX1_set 6 = .ok (.ifCond .lt 9, 3) := by decide +kernel
theorem dX1_set_9 : decode cX1_set 9 = .ok (.iload_n 1, 1) := by decide +kernel
theorem dX1_set_10 : decode cX1_set 10 = .ok (.bipush 31, 2) := by decide +kernel
theorem dX1_set_12 : decode cX1_set 12 = .ok (.if_icmp .le 5, 3) := by decide +kernel
theorem dX1_set_15 : decode cX1_set 15 = .ok (.iconst 0, 1) := by decide +kernel
theorem dX1_set_16 : decode cX1_set 16 = .ok (.ireturn, 1) := by decide +kernel
theorem dX1_set_17 : decode cX1_set 17 = .ok (.aload_n 0, 1) := by decide +kernel
theorem dX1_set_18 : decode cX1_set 18 = .ok (.getfield 17, 3) := by decide +kernel
theorem dX1_set_21 : decode cX1_set 21 = .ok (.iload_n 1, 1) := by decide +kernel
theorem dX1_set_22 : decode cX1_set 22 = .ok (.iload_n 1, 1) := by decide +kernel
theorem dX1_set_23 : decode cX1_set 23 = .ok (.ifCond .ne 7, 3) := by decide +kernel
theorem dX1_set_26 : decode cX1_set 26 = .ok (.iconst 0, 1) := by decide +kernel
theorem dX1_set_27 : decode cX1_set 27 = .ok (.goto 4, 3) := by decide +kernel
theorem dX1_set_30 : decode cX1_set 30 = .ok (.iload_n 2, 1) := by decide +kernel
theorem dX1_set_31 : decode cX1_set 31 = .ok (.iastore, 1) := by decide +kernel
theorem dX1_set_32 : decode cX1_set 32 = .ok (.iconst 1, 1) := by decide +kernel
theorem dX1_set_33 : decode cX1_set 33 = .ok (.ireturn, 1) := by decide +kernel
theorem dX1_register_0 : decode cX1_register 0 = .ok (.aload_n 0, 1) := by decide +kernel
theorem dX1_register_1 : decode cX1_register 1 = .ok (.iconst 0, 1) := by decide +kernel
theorem dX1_register_2 : decode cX1_register 2 = .ok (.putfield 24, 3) := by decide +kernel
theorem dX1_register_5 : decode cX1_register 5 = .ok (.iload_n 1, 1) := by decide +kernel
theorem dX1_register_6 : decode cX1_register 6 = .ok (.ifCond .lt 18, 3) := by decide +kernel
theorem dX1_register_9 : decode cX1_register 9 = .ok (.iload_n 1, 1) := by decide +kernel
theorem dX1_register_10 : decode cX1_register 10 = .ok (.bipush 32, 2) := by decide +kernel
theorem dX1_register_12 : decode cX1_register 12 = .ok (.if_icmp .ge 12, 3) := by decide +kernel
theorem dX1_register_15 : decode cX1_register 15 = .ok (.aload_n 0, 1) := by decide +kernel
theorem dX1_register_16 : decode cX1_register 16 = .ok (.getfield 17, 3) := by decide +kernel
theorem dX1_register_19 : decode cX1_register 19 = .ok (.iload_n 1, 1) := by decide +kernel
theorem dX1_register_20 : decode cX1_register 20 = .ok (.iaload, 1) := by decide +kernel
theorem dX1_register_21 : decode cX1_register 21 = .ok (.goto 4, 3) := by decide +kernel
theorem dX1_register_24 : decode cX1_register 24 = .ok (.iconst 0, 1) := by decide +kernel
theorem dX1_register_25 : decode cX1_register 25 = .ok (.ireturn, 1) := by decide +kernel
theorem dX1_jump_0 : decode cX1_jump 0 = .ok (.aload_n 0, 1) := by decide +kernel
theorem dX1_jump_1 : decode cX1_jump 1 = .ok (.iconst 0, 1) := by decide +kernel
theorem dX1_jump_2 : decode cX1_jump 2 = .ok (.putfield 24, 3) := by decide +kernel
theorem dX1_jump_5 : decode cX1_jump 5 = .ok (.aload_n 0, 1) := by decide +kernel
theorem dX1_jump_6 : decode cX1_jump 6 = .ok (.iload_n 1, 1) := by decide +kernel
theorem dX1_jump_7 : decode cX1_jump 7 = .ok (.putfield 27, 3) := by decide +kernel
theorem dX1_jump_10 : decode cX1_jump 10 = .ok (.return_, 1) := by decide +kernel
theorem dX1_pc_0 : decode cX1_pc 0 = .ok (.aload_n 0, 1) := by decide +kernel
theorem dX1_pc_1 : decode cX1_pc 1 = .ok (.iconst 0, 1) := by decide +kernel
theorem dX1_pc_2 : decode cX1_pc 2 = .ok (.putfield 24, 3) := by decide +kernel
theorem dX1_pc_5 : decode cX1_pc 5 = .ok (.aload_n 0, 1) := by decide +kernel
theorem dX1_pc_6 : decode cX1_pc 6 = .ok (.getfield 27, 3) := by decide +kernel
theorem dX1_pc_9 : decode cX1_pc 9 = .ok (.ireturn, 1) := by decide +kernel
theorem dX1_part_0 : decode cX1_part 0 = .ok (.iconst 0, 1) := by decide +kernel
theorem dX1_part_1 : decode cX1_part 1 = .ok (.istore_n 3, 1) := by decide +kernel
theorem dX1_part_2 : decode cX1_part 2 = .ok (.iconst 0, 1) := by decide +kernel
theorem dX1_part_3 : decode cX1_part 3 = .ok (.istore 4, 2) := by decide +kernel
theorem dX1_part_5 : decode cX1_part 5 = .ok (.iload 4, 2) := by decide +kernel
theorem dX1_part_7 : decode cX1_part 7 = .ok (.iload_n 2, 1) := by decide +kernel
theorem dX1_part_8 : decode cX1_part 8 = .ok (.if_icmp .ge 26, 3) := by decide +kernel
theorem dX1_part_11 : decode cX1_part 11 = .ok (.iload_n 3, 1) := by decide +kernel
theorem dX1_part_12 : decode cX1_part 12 = .ok (.aload_n 0, 1) := by decide +kernel
theorem dX1_part_13 : decode cX1_part 13 = .ok (.getfield 30, 3) := by decide +kernel
theorem dX1_part_16 : decode cX1_part 16 = .ok (.iload_n 1, 1) := by decide +kernel
theorem dX1_part_17 : decode cX1_part 17 = .ok (.iload 4, 2) := by decide +kernel
theorem dX1_part_19 : decode cX1_part 19 = .ok (.iadd, 1) := by decide +kernel
theorem dX1_part_20 : decode cX1_part 20 = .ok (.ishr, 1) := by decide +kernel
theorem dX1_part_21 : decode cX1_part 21 = .ok (.iconst 1, 1) := by decide +kernel
theorem dX1_part_22 : decode cX1_part 22 = .ok (.iand, 1) := by decide +kernel
theorem dX1_part_23 : decode cX1_part 23 = .ok (.iload 4, 2) := by decide +kernel
theorem dX1_part_25 : decode cX1_part 25 = .ok (.ishl, 1) := by decide +kernel
theorem dX1_part_26 : decode cX1_part 26 = .ok (.ior, 1) := by decide +kernel
theorem dX1_part_27 : decode cX1_part 27 = .ok (.istore_n 3, 1) := by decide +kernel
theorem dX1_part_28 : decode cX1_part 28 = .ok (.iinc 4 1, 3) := by decide +kernel
theorem dX1_part_31 : decode cX1_part 31 = .ok (.goto (-26), 3) := by decide +kernel
theorem dX1_part_34 : decode cX1_part 34 = .ok (.iload_n 3, 1) := by decide +kernel
theorem dX1_part_35 : decode cX1_part 35 = .ok (.ireturn, 1) := by decide +kernel
theorem dX1_signed_0 : decode cX1_signed 0 = .ok (.iload_n 0, 1) := by decide +kernel
theorem dX1_signed_1 : decode cX1_signed 1 = .ok (.iload_n 1, 1) := by decide +kernel
theorem dX1_signed_2 : decode cX1_signed 2 = .ok (.iconst 1, 1) := by decide +kernel
theorem dX1_signed_3 : decode cX1_signed 3 = .ok (.isub, 1) := by decide +kernel
theorem dX1_signed_4 : decode cX1_signed 4 = .ok (.ishr, 1) := by decide +kernel
theorem dX1_signed_5 : decode cX1_signed 5 = .ok (.iconst 1, 1) := by decide +kernel
theorem dX1_signed_6 : decode cX1_signed 6 = .ok (.iand, 1) := by decide +kernel
theorem dX1_signed_7 : decode cX1_signed 7 = .ok (.iconst 1, 1) := by decide +kernel
theorem dX1_signed_8 : decode cX1_signed 8 = .ok (.if_icmp .ne 11, 3) := by decide +kernel
theorem dX1_signed_11 : decode cX1_signed 11 = .ok (.iload_n 0, 1) := by decide +kernel
theorem dX1_signed_12 : decode cX1_signed 12 = .ok (.iconst 1, 1) := by decide +kernel
theorem dX1_signed_13 : decode cX1_signed 13 = .ok (.iload_n 1, 1) := by decide +kernel
theorem dX1_signed_14 : decode cX1_signed 14 = .ok (.ishl, 1) := by decide +kernel
theorem dX1_signed_15 : decode cX1_signed 15 = .ok (.isub, 1) := by decide +kernel
theorem dX1_signed_16 : decode cX1_signed 16 = .ok (.goto 4, 3) := by decide +kernel
theorem dX1_signed_19 : decode cX1_signed 19 = .ok (.iload_n 0, 1) := by decide +kernel
theorem dX1_signed_20 : decode cX1_signed 20 = .ok (.ireturn, 1) := by decide +kernel
theorem dX1_i_0 : decode cX1_i 0 = .ok (.aload_n 0, 1) := by decide +kernel
theorem dX1_i_1 : decode cX1_i 1 = .ok (.bipush 20, 2) := by decide +kernel
theorem dX1_i_3 : decode cX1_i 3 = .ok (.bipush 12, 2) := by decide +kernel
theorem dX1_i_5 : decode cX1_i 5 = .ok (.invokevirtual 33, 3) := by decide +kernel
theorem dX1_i_8 : decode cX1_i 8 = .ok (.bipush 12, 2) := by decide +kernel
theorem dX1_i_10 : decode cX1_i 10 = .ok (.invokestatic 37, 3) := by decide +kernel
theorem dX1_i_13 : decode cX1_i 13 = .ok (.ireturn, 1) := by decide +kernel
theorem dX1_s_0 : decode cX1_s 0 = .ok (.aload_n 0, 1) := by decide +kernel
theorem dX1_s_1 : decode cX1_s 1 = .ok (.bipush 25, 2) := by decide +kernel
theorem dX1_s_3 : decode cX1_s 3 = .ok (.bipush 7, 2) := by decide +kernel
theorem dX1_s_5 : decode cX1_s 5 = .ok (.invokevirtual 33, 3) := by decide +kernel
theorem dX1_s_8 : decode cX1_s 8 = .ok (.iconst 5, 1) := by decide +kernel
theorem dX1_s_9 : decode cX1_s 9 = .ok (.ishl, 1) := by decide +kernel
theorem dX1_s_10 : decode cX1_s 10 = .ok (.aload_n 0, 1) := by decide +kernel
theorem dX1_s_11 : decode cX1_s 11 = .ok (.bipush 7, 2) := by decide +kernel
theorem dX1_s_13 : decode cX1_s 13 = .ok (.iconst 5, 1) := by decide +kernel
theorem dX1_s_14 : decode cX1_s 14 = .ok (.invokevirtual 33, 3) := by decide +kernel
theorem dX1_s_17 : decode cX1_s 17 = .ok (.ior, 1) := by decide +kernel
theorem dX1_s_18 : decode cX1_s 18 = .ok (.bipush 12, 2) := by decide +kernel
theorem dX1_s_20 : decode cX1_s 20 = .ok (.invokestatic 37, 3) := by decide +kernel
theorem dX1_s_23 : decode cX1_s 23 = .ok (.ireturn, 1) := by decide +kernel
theorem dX1_b_0 : decode cX1_b 0 = .ok (.aload_n 0, 1) := by decide +kernel
theorem dX1_b_1 : decode cX1_b 1 = .ok (.bipush 31, 2) := by decide +kernel
theorem dX1_b_3 : decode cX1_b 3 = .ok (.iconst 1, 1) := by decide +kernel
theorem dX1_b_4 : decode cX1_b 4 = .ok (.invokevirtual 33, 3) := by decide +kernel
theorem dX1_b_7 : decode cX1_b 7 = .ok (.bipush 12, 2) := by decide +kernel
theorem dX1_b_9 : decode cX1_b 9 = .ok (.ishl, 1) := by decide +kernel
theorem dX1_b_10 : decode cX1_b 10 = .ok (.aload_n 0, 1) := by decide +kernel
theorem dX1_b_11 : decode cX1_b 11 = .ok (.bipush 7, 2) := by decide +kernel
theorem dX1_b_13 : decode cX1_b 13 = .ok (.iconst 1, 1) := by decide +kernel
theorem dX1_b_14 : decode cX1_b 14 = .ok (.invokevirtual 33, 3) := by decide +kernel
theorem dX1_b_17 : decode cX1_b 17 = .ok (.bipush 11, 2) := by decide +kernel
theorem dX1_b_19 : decode cX1_b 19 = .ok (.ishl, 1) := by decide +kernel
theorem dX1_b_20 : decode cX1_b 20 = .ok (.ior, 1) := by decide +kernel
theorem dX1_b_21 : decode cX1_b 21 = .ok (.aload_n 0, 1) := by decide +kernel
theorem dX1_b_22 : decode cX1_b 22 = .ok (.bipush 25, 2) := by decide +kernel
theorem dX1_b_24 : decode cX1_b 24 = .ok (.bipush 6, 2) := by decide +kernel
theorem dX1_b_26 : decode cX1_b 26 = .ok (.invokevirtual 33, 3) := by decide +kernel
theorem dX1_b_29 : decode cX1_b 29 = .ok (.iconst 5, 1) := by decide +kernel
theorem dX1_b_30 : decode cX1_b 30 = .ok (.ishl, 1) := by decide +kernel
theorem dX1_b_31 : decode cX1_b 31 = .ok (.ior, 1) := by decide +kernel
theorem dX1_b_32 : decode cX1_b 32 = .ok (.aload_n 0, 1) := by decide +kernel
theorem dX1_b_33 : decode cX1_b 33 = .ok (.bipush 8, 2) := by decide +kernel
theorem dX1_b_35 : decode cX1_b 35 = .ok (.iconst 4, 1) := by decide +kernel
theorem dX1_b_36 : decode cX1_b 36 = .ok (.invokevirtual 33, 3) := by decide +kernel
theorem dX1_b_39 : decode cX1_b 39 = .ok (.iconst 1, 1) := by decide +kernel
theorem dX1_b_40 : decode cX1_b 40 = .ok (.ishl, 1) := by decide +kernel
theorem dX1_b_41 : decode cX1_b 41 = .ok (.ior, 1) := by decide +kernel
theorem dX1_b_42 : decode cX1_b 42 = .ok (.bipush 13, 2) := by decide +kernel
theorem dX1_b_44 : decode cX1_b 44 = .ok (.invokestatic 37, 3) := by decide +kernel
theorem dX1_b_47 : decode cX1_b 47 = .ok (.ireturn, 1) := by decide +kernel
theorem dX1_u_0 : decode cX1_u 0 = .ok (.aload_n 0, 1) := by decide +kernel
theorem dX1_u_1 : decode cX1_u 1 = .ok (.bipush 12, 2) := by decide +kernel
theorem dX1_u_3 : decode cX1_u 3 = .ok (.bipush 20, 2) := by decide +kernel
theorem dX1_u_5 : decode cX1_u 5 = .ok (.invokevirtual 33, 3) := by decide +kernel
theorem dX1_u_8 : decode cX1_u 8 = .ok (.bipush 12, 2) := by decide +kernel
theorem dX1_u_10 : decode cX1_u 10 = .ok (.ishl, 1) := by decide +kernel
theorem dX1_u_11 : decode cX1_u 11 = .ok (.ireturn, 1) := by decide +kernel
theorem dX1_j_0 : decode cX1_j 0 = .ok (.aload_n 0, 1) := by decide +kernel
theorem dX1_j_1 : decode cX1_j 1 = .ok (.bipush 31, 2) := by decide +kernel
theorem dX1_j_3 : decode cX1_j 3 = .ok (.iconst 1, 1) := by decide +kernel
theorem dX1_j_4 : decode cX1_j 4 = .ok (.invokevirtual 33, 3) := by decide +kernel
theorem dX1_j_7 : decode cX1_j 7 = .ok (.bipush 20, 2) := by decide +kernel
theorem dX1_j_9 : decode cX1_j 9 = .ok (.ishl, 1) := by decide +kernel
theorem dX1_j_10 : decode cX1_j 10 = .ok (.aload_n 0, 1) := by decide +kernel
theorem dX1_j_11 : decode cX1_j 11 = .ok (.bipush 12, 2) := by decide +kernel
theorem dX1_j_13 : decode cX1_j 13 = .ok (.bipush 8, 2) := by decide +kernel
theorem dX1_j_15 : decode cX1_j 15 = .ok (.invokevirtual 33, 3) := by decide +kernel
theorem dX1_j_18 : decode cX1_j 18 = .ok (.bipush 12, 2) := by decide +kernel
theorem dX1_j_20 : decode cX1_j 20 = .ok (.ishl, 1) := by decide +kernel
theorem dX1_j_21 : decode cX1_j 21 = .ok (.ior, 1) := by decide +kernel
theorem dX1_j_22 : decode cX1_j 22 = .ok (.aload_n 0, 1) := by decide +kernel
theorem dX1_j_23 : decode cX1_j 23 = .ok (.bipush 20, 2) := by decide +kernel
theorem dX1_j_25 : decode cX1_j 25 = .ok (.iconst 1, 1) := by decide +kernel
theorem dX1_j_26 : decode cX1_j 26 = .ok (.invokevirtual 33, 3) := by decide +kernel
theorem dX1_j_29 : decode cX1_j 29 = .ok (.bipush 11, 2) := by decide +kernel
theorem dX1_j_31 : decode cX1_j 31 = .ok (.ishl, 1) := by decide +kernel
theorem dX1_j_32 : decode cX1_j 32 = .ok (.ior, 1) := by decide +kernel
theorem dX1_j_33 : decode cX1_j 33 = .ok (.aload_n 0, 1) := by decide +kernel
theorem dX1_j_34 : decode cX1_j 34 = .ok (.bipush 21, 2) := by decide +kernel
theorem dX1_j_36 : decode cX1_j 36 = .ok (.bipush 10, 2) := by decide +kernel
theorem dX1_j_38 : decode cX1_j 38 = .ok (.invokevirtual 33, 3) := by decide +kernel
theorem dX1_j_41 : decode cX1_j 41 = .ok (.iconst 1, 1) := by decide +kernel
theorem dX1_j_42 : decode cX1_j 42 = .ok (.ishl, 1) := by decide +kernel
theorem dX1_j_43 : decode cX1_j 43 = .ok (.ior, 1) := by decide +kernel
theorem dX1_j_44 : decode cX1_j 44 = .ok (.bipush 21, 2) := by decide +kernel
theorem dX1_j_46 : decode cX1_j 46 = .ok (.invokestatic 37, 3) := by decide +kernel
theorem dX1_j_49 : decode cX1_j 49 = .ok (.ireturn, 1) := by decide +kernel
theorem dX1_under_0 : decode cX1_under 0 = .ok (.iconst 0, 1) := by decide +kernel
theorem dX1_under_1 : decode cX1_under 1 = .ok (.istore_n 2, 1) := by decide +kernel
theorem dX1_under_2 : decode cX1_under 2 = .ok (.iconst 0, 1) := by decide +kernel
theorem dX1_under_3 : decode cX1_under 3 = .ok (.istore_n 3, 1) := by decide +kernel
theorem dX1_under_4 : decode cX1_under 4 = .ok (.iload_n 3, 1) := by decide +kernel
theorem dX1_under_5 : decode cX1_under 5 = .ok (.bipush 32, 2) := by decide +kernel
theorem dX1_under_7 : decode cX1_under 7 = .ok (.if_icmp .ge 47, 3) := by decide +kernel
theorem dX1_under_10 : decode cX1_under 10 = .ok (.iload_n 0, 1) := by decide +kernel
theorem dX1_under_11 : decode cX1_under 11 = .ok (.iload_n 3, 1) := by decide +kernel
theorem dX1_under_12 : decode cX1_under 12 = .ok (.ishr, 1) := by decide +kernel
theorem dX1_under_13 : decode cX1_under 13 = .ok (.iconst 1, 1) := by decide +kernel
theorem dX1_under_14 : decode cX1_under 14 = .ok (.iand, 1) := by decide +kernel
theorem dX1_under_15 : decode cX1_under 15 = .ok (.istore 4, 2) := by decide +kernel
theorem dX1_under_17 : decode cX1_under 17 = .ok (.iload_n 1, 1) := by decide +kernel
theorem dX1_under_18 : decode cX1_under 18 = .ok (.iload_n 3, 1) := by decide +kernel
theorem dX1_under_19 : decode cX1_under 19 = .ok (.ishr, 1) := by decide +kernel
theorem dX1_under_20 : decode cX1_under 20 = .ok (.iconst 1, 1) := by decide +kernel
theorem dX1_under_21 : decode cX1_under 21 = .ok (.iand, 1) := by decide +kernel
theorem dX1_under_22 : decode cX1_under 22 = .ok (.istore 5, 2) := by decide +kernel
theorem dX1_under_24 : decode cX1_under 24 = .ok (.iload 4, 2) := by decide +kernel
theorem dX1_under_26 : decode cX1_under 26 = .ok (.iload 5, 2) := by decide +kernel
theorem dX1_under_28 : decode cX1_under 28 = .ok (.if_icmp .ne 7, 3) := by decide +kernel
theorem dX1_under_31 : decode cX1_under 31 = .ok (.iload_n 2, 1) := by decide +kernel
theorem dX1_under_32 : decode cX1_under 32 = .ok (.goto 15, 3) := by decide +kernel
theorem dX1_under_35 : decode cX1_under 35 = .ok (.iload 4, 2) := by decide +kernel
theorem dX1_under_37 : decode cX1_under 37 = .ok (.iload 5, 2) := by decide +kernel
theorem dX1_under_39 : decode cX1_under 39 = .ok (.if_icmp .ge 7, 3) := by decide +kernel
theorem dX1_under_42 : decode cX1_under 42 = .ok (.iconst 1, 1) := by decide +kernel
theorem dX1_under_43 : decode cX1_under 43 = .ok (.goto 4, 3) := by decide +kernel
theorem dX1_under_46 : decode cX1_under 46 = .ok (.iconst 0, 1) := by decide +kernel
theorem dX1_under_47 : decode cX1_under 47 = .ok (.istore_n 2, 1) := by decide +kernel
theorem dX1_under_48 : decode cX1_under 48 = .ok (.iinc 3 1, 3) := by decide +kernel
theorem dX1_under_51 : decode cX1_under 51 = .ok (.goto (-47), 3) := by decide +kernel
theorem dX1_under_54 : decode cX1_under 54 = .ok (.iload_n 2, 1) := by decide +kernel
theorem dX1_under_55 : decode cX1_under 55 = .ok (.ireturn, 1) := by decide +kernel
theorem dX1_upper_0 : decode cX1_upper 0 = .ok (.iconst 0, 1) := by decide +kernel
theorem dX1_upper_1 : decode cX1_upper 1 = .ok (.istore_n 2, 1) := by decide +kernel
theorem dX1_upper_2 : decode cX1_upper 2 = .ok (.iconst 0, 1) := by decide +kernel
theorem dX1_upper_3 : decode cX1_upper 3 = .ok (.istore_n 3, 1) := by decide +kernel
theorem dX1_upper_4 : decode cX1_upper 4 = .ok (.bipush 31, 2) := by decide +kernel
theorem dX1_upper_6 : decode cX1_upper 6 = .ok (.istore 4, 2) := by decide +kernel
theorem dX1_upper_8 : decode cX1_upper 8 = .ok (.iload 4, 2) := by decide +kernel
theorem dX1_upper_10 : decode cX1_upper 10 = .ok (.ifCond .lt 57, 3) := by decide +kernel
theorem dX1_upper_13 : decode cX1_upper 13 = .ok (.iload_n 2, 1) := by decide +kernel
theorem dX1_upper_14 : decode cX1_upper 14 = .ok (.iconst 1, 1) := by decide +kernel
theorem dX1_upper_15 : decode cX1_upper 15 = .ok (.ishl, 1) := by decide +kernel
theorem dX1_upper_16 : decode cX1_upper 16 = .ok (.iload_n 3, 1) := by decide +kernel
theorem dX1_upper_17 : decode cX1_upper 17 = .ok (.bipush 31, 2) := by decide +kernel
theorem dX1_upper_19 : decode cX1_upper 19 = .ok (.iushr, 1) := by decide +kernel
theorem dX1_upper_20 : decode cX1_upper 20 = .ok (.ior, 1) := by decide +kernel
theorem dX1_upper_21 : decode cX1_upper 21 = .ok (.istore_n 2, 1) := by decide +kernel
theorem dX1_upper_22 : decode cX1_upper 22 = .ok (.iload_n 3, 1) := by decide +kernel
theorem dX1_upper_23 : decode cX1_upper 23 = .ok (.iconst 1, 1) := by decide +kernel
theorem dX1_upper_24 : decode cX1_upper 24 = .ok (.ishl, 1) := by decide +kernel
theorem dX1_upper_25 : decode cX1_upper 25 = .ok (.istore_n 3, 1) := by decide +kernel
theorem dX1_upper_26 : decode cX1_upper 26 = .ok (.iload_n 1, 1) := by decide +kernel
theorem dX1_upper_27 : decode cX1_upper 27 = .ok (.iload 4, 2) := by decide +kernel
theorem dX1_upper_29 : decode cX1_upper 29 = .ok (.ishr, 1) := by decide +kernel
theorem dX1_upper_30 : decode cX1_upper 30 = .ok (.iconst 1, 1) := by decide +kernel
theorem dX1_upper_31 : decode cX1_upper 31 = .ok (.iand, 1) := by decide +kernel
theorem dX1_upper_32 : decode cX1_upper 32 = .ok (.iconst 1, 1) := by decide +kernel
theorem dX1_upper_33 : decode cX1_upper 33 = .ok (.if_icmp .ne 28, 3) := by decide +kernel
theorem dX1_upper_36 : decode cX1_upper 36 = .ok (.iload_n 3, 1) := by decide +kernel
theorem dX1_upper_37 : decode cX1_upper 37 = .ok (.iload_n 0, 1) := by decide +kernel
theorem dX1_upper_38 : decode cX1_upper 38 = .ok (.iadd, 1) := by decide +kernel
theorem dX1_upper_39 : decode cX1_upper 39 = .ok (.istore 5, 2) := by decide +kernel
theorem dX1_upper_41 : decode cX1_upper 41 = .ok (.iload 5, 2) := by decide +kernel
theorem dX1_upper_43 : decode cX1_upper 43 = .ok (.iload_n 0, 1) := by decide +kernel
theorem dX1_upper_44 : decode cX1_upper 44 = .ok (.invokestatic 40, 3) := by decide +kernel
theorem dX1_upper_47 : decode cX1_upper 47 = .ok (.ifCond .eq 9, 3) := by decide +kernel
theorem dX1_upper_50 : decode cX1_upper 50 = .ok (.iload_n 2, 1) := by decide +kernel
theorem dX1_upper_51 : decode cX1_upper 51 = .ok (.iconst 1, 1) := by decide +kernel
theorem dX1_upper_52 : decode cX1_upper 52 = .ok (.iadd, 1) := by decide +kernel
theorem dX1_upper_53 : decode cX1_upper 53 = .ok (.goto 4, 3) := by decide +kernel
theorem dX1_upper_56 : decode cX1_upper 56 = .ok (.iload_n 2, 1) := by decide +kernel
theorem dX1_upper_57 : decode cX1_upper 57 = .ok (.istore_n 2, 1) := by decide +kernel
theorem dX1_upper_58 : decode cX1_upper 58 = .ok (.iload 5, 2) := by decide +kernel
theorem dX1_upper_60 : decode cX1_upper 60 = .ok (.istore_n 3, 1) := by decide +kernel
theorem dX1_upper_61 : decode cX1_upper 61 = .ok (.iinc 4 (-1), 3) := by decide +kernel
theorem dX1_upper_64 : decode cX1_upper 64 = .ok (.goto (-56), 3) := by decide +kernel
theorem dX1_upper_67 : decode cX1_upper 67 = .ok (.iload_n 2, 1) := by decide +kernel
theorem dX1_upper_68 : decode cX1_upper 68 = .ok (.ireturn, 1) := by decide +kernel
theorem dX1_divided_0 : decode cX1_divided 0 = .ok (.iconst 0, 1) := by decide +kernel
theorem dX1_divided_1 : decode cX1_divided 1 = .ok (.istore_n 3, 1) := by decide +kernel
theorem dX1_divided_2 : decode cX1_divided 2 = .ok (.iconst 0, 1) := by decide +kernel
theorem dX1_divided_3 : decode cX1_divided 3 = .ok (.istore 4, 2) := by decide +kernel
theorem dX1_divided_5 : decode cX1_divided 5 = .ok (.bipush 31, 2) := by decide +kernel
theorem dX1_divided_7 : decode cX1_divided 7 = .ok (.istore 5, 2) := by decide +kernel
theorem dX1_divided_9 : decode cX1_divided 9 = .ok (.iload 5, 2) := by decide +kernel
theorem dX1_divided_11 : decode cX1_divided 11 = .ok (.ifCond .lt 86, 3) := by decide +kernel
theorem dX1_divided_14 : decode cX1_divided 14 = .ok (.iload 4, 2) := by decide +kernel
theorem dX1_divided_16 : decode cX1_divided 16 = .ok (.ifCond .ge 7, 3) := by decide +kernel
theorem dX1_divided_19 : decode cX1_divided 19 = .ok (.iconst 1, 1) := by decide +kernel
theorem dX1_divided_20 : decode cX1_divided 20 = .ok (.goto 4, 3) := by decide +kernel
theorem dX1_divided_23 : decode cX1_divided 23 = .ok (.iconst 0, 1) := by decide +kernel
theorem dX1_divided_24 : decode cX1_divided 24 = .ok (.istore 6, 2) := by decide +kernel
theorem dX1_divided_26 : decode cX1_divided 26 = .ok (.iload 4, 2) := by decide +kernel
theorem dX1_divided_28 : decode cX1_divided 28 = .ok (.iconst 1, 1) := by decide +kernel
theorem dX1_divided_29 : decode cX1_divided 29 = .ok (.ishl, 1) := by decide +kernel
theorem dX1_divided_30 : decode cX1_divided 30 = .ok (.iload_n 0, 1) := by decide +kernel
theorem dX1_divided_31 : decode cX1_divided 31 = .ok (.iload 5, 2) := by decide +kernel
theorem dX1_divided_33 : decode cX1_divided 33 = .ok (.ishr, 1) := by decide +kernel
theorem dX1_divided_34 : decode cX1_divided 34 = .ok (.iconst 1, 1) := by decide +kernel
theorem dX1_divided_35 : decode cX1_divided 35 = .ok (.iand, 1) := by decide +kernel
theorem dX1_divided_36 : decode cX1_divided 36 = .ok (.ior, 1) := by decide +kernel
theorem dX1_divided_37 : decode cX1_divided 37 = .ok (.istore 4, 2) := by decide +kernel
theorem dX1_divided_39 : decode cX1_divided 39 = .ok (.iload 6, 2) := by decide +kernel
theorem dX1_divided_41 : decode cX1_divided 41 = .ok (.ifCond .ne 12, 3) := by decide +kernel
theorem dX1_divided_44 : decode cX1_divided 44 = .ok (.iload 4, 2) := by decide +kernel
theorem dX1_divided_46 : decode cX1_divided 46 = .ok (.iload_n 1, 1) := by decide +kernel
theorem dX1_divided_47 : decode cX1_divided 47 = .ok (.invokestatic 40, 3) := by decide +kernel
theorem dX1_divided_50 : decode cX1_divided 50 = .ok (.ifCond .ne 7, 3) := by decide +kernel
theorem dX1_divided_53 : decode cX1_divided 53 = .ok (.iconst 1, 1) := by decide +kernel
theorem dX1_divided_54 : decode cX1_divided 54 = .ok (.goto 4, 3) := by decide +kernel
theorem dX1_divided_57 : decode cX1_divided 57 = .ok (.iconst 0, 1) := by decide +kernel
theorem dX1_divided_58 : decode cX1_divided 58 = .ok (.istore 7, 2) := by decide +kernel
theorem dX1_divided_60 : decode cX1_divided 60 = .ok (.iload 7, 2) := by decide +kernel
theorem dX1_divided_62 : decode cX1_divided 62 = .ok (.ifCond .eq 10, 3) := by decide +kernel
theorem dX1_divided_65 : decode cX1_divided 65 = .ok (.iload 4, 2) := by decide +kernel
theorem dX1_divided_67 : decode cX1_divided 67 = .ok (.iload_n 1, 1) := by decide +kernel
theorem dX1_divided_68 : decode cX1_divided 68 = .ok (.isub, 1) := by decide +kernel
theorem dX1_divided_69 : decode cX1_divided 69 = .ok (.goto 5, 3) := by decide +kernel
theorem dX1_divided_72 : decode cX1_divided 72 = .ok (.iload 4, 2) := by decide +kernel
theorem dX1_divided_74 : decode cX1_divided 74 = .ok (.istore 4, 2) := by decide +kernel
theorem dX1_divided_76 : decode cX1_divided 76 = .ok (.iload_n 3, 1) := by decide +kernel
theorem dX1_divided_77 : decode cX1_divided 77 = .ok (.iconst 1, 1) := by decide +kernel
theorem dX1_divided_78 : decode cX1_divided 78 = .ok (.ishl, 1) := by decide +kernel
theorem dX1_divided_79 : decode cX1_divided 79 = .ok (.iload 7, 2) := by decide +kernel
theorem dX1_divided_81 : decode cX1_divided 81 = .ok (.ifCond .eq 7, 3) := by decide +kernel
theorem dX1_divided_84 : decode cX1_divided 84 = .ok (.iconst 1, 1) := by decide +kernel
theorem dX1_divided_85 : decode cX1_divided 85 = .ok (.goto 4, 3) := by decide +kernel
theorem dX1_divided_88 : decode cX1_divided 88 = .ok (.iconst 0, 1) := by decide +kernel
theorem dX1_divided_89 : decode cX1_divided 89 = .ok (.ior, 1) := by decide +kernel
theorem dX1_divided_90 : decode cX1_divided 90 = .ok (.istore_n 3, 1) := by decide +kernel
theorem dX1_divided_91 : decode cX1_divided 91 = .ok (.iinc 5 (-1), 3) := by decide +kernel
theorem dX1_divided_94 : decode cX1_divided 94 = .ok (.goto (-85), 3) := by decide +kernel
theorem dX1_divided_97 : decode cX1_divided 97 = .ok (.iload_n 2, 1) := by decide +kernel
theorem dX1_divided_98 : decode cX1_divided 98 = .ok (.ifCond .eq 8, 3) := by decide +kernel
theorem dX1_divided_101 : decode cX1_divided 101 = .ok (.iload 4, 2) := by decide +kernel
theorem dX1_divided_103 : decode cX1_divided 103 = .ok (.goto 4, 3) := by decide +kernel
theorem dX1_divided_106 : decode cX1_divided 106 = .ok (.iload_n 3, 1) := by decide +kernel
theorem dX1_divided_107 : decode cX1_divided 107 = .ok (.ireturn, 1) := by decide +kernel
theorem dX1_quotient_0 : decode cX1_quotient 0 = .ok (.iload_n 1, 1) := by decide +kernel
theorem dX1_quotient_1 : decode cX1_quotient 1 = .ok (.ifCond .ne 13, 3) := by decide +kernel
theorem dX1_quotient_4 : decode cX1_quotient 4 = .ok (.iload_n 2, 1) := by decide +kernel
theorem dX1_quotient_5 : decode cX1_quotient 5 = .ok (.ifCond .eq 7, 3) := by decide +kernel
theorem dX1_quotient_8 : decode cX1_quotient 8 = .ok (.iload_n 0, 1) := by decide +kernel
theorem dX1_quotient_9 : decode cX1_quotient 9 = .ok (.goto 4, 3) := by decide +kernel
theorem dX1_quotient_12 : decode cX1_quotient 12 = .ok (.iconst (-1), 1) := by decide +kernel
theorem dX1_quotient_13 : decode cX1_quotient 13 = .ok (.ireturn, 1) := by decide +kernel
theorem dX1_quotient_14 : decode cX1_quotient 14 = .ok (.iload_n 0, 1) := by decide +kernel
theorem dX1_quotient_15 : decode cX1_quotient 15 = .ok (.ifCond .ge 8, 3) := by decide +kernel
theorem dX1_quotient_18 : decode cX1_quotient 18 = .ok (.iload_n 0, 1) := by decide +kernel
theorem dX1_quotient_19 : decode cX1_quotient 19 = .ok (.ineg, 1) := by decide +kernel
theorem dX1_quotient_20 : decode cX1_quotient 20 = .ok (.goto 4, 3) := by decide +kernel
theorem dX1_quotient_23 : decode cX1_quotient 23 = .ok (.iload_n 0, 1) := by decide +kernel
theorem dX1_quotient_24 : decode cX1_quotient 24 = .ok (.iload_n 1, 1) := by decide +kernel
theorem dX1_quotient_25 : decode cX1_quotient 25 = .ok (.ifCond .ge 8, 3) := by decide +kernel
theorem dX1_quotient_28 : decode cX1_quotient 28 = .ok (.iload_n 1, 1) := by decide +kernel
theorem dX1_quotient_29 : decode cX1_quotient 29 = .ok (.ineg, 1) := by decide +kernel
theorem dX1_quotient_30 : decode cX1_quotient 30 = .ok (.goto 4, 3) := by decide +kernel
theorem dX1_quotient_33 : decode cX1_quotient 33 = .ok (.iload_n 1, 1) := by decide +kernel
theorem dX1_quotient_34 : decode cX1_quotient 34 = .ok (.iload_n 2, 1) := by decide +kernel
theorem dX1_quotient_35 : decode cX1_quotient 35 = .ok (.invokestatic 44, 3) := by decide +kernel
theorem dX1_quotient_38 : decode cX1_quotient 38 = .ok (.istore_n 3, 1) := by decide +kernel
theorem dX1_quotient_39 : decode cX1_quotient 39 = .ok (.iload_n 2, 1) := by decide +kernel
theorem dX1_quotient_40 : decode cX1_quotient 40 = .ok (.ifCond .eq 15, 3) := by decide +kernel
theorem dX1_quotient_43 : decode cX1_quotient 43 = .ok (.iload_n 0, 1) := by decide +kernel
theorem dX1_quotient_44 : decode cX1_quotient 44 = .ok (.ifCond .ge 7, 3) := by decide +kernel
theorem dX1_quotient_47 : decode cX1_quotient 47 = .ok (.iconst 1, 1) := by decide +kernel
theorem dX1_quotient_48 : decode cX1_quotient 48 = .ok (.goto 33, 3) := by decide +kernel
theorem dX1_quotient_51 : decode cX1_quotient 51 = .ok (.iconst 0, 1) := by decide +kernel
theorem dX1_quotient_52 : decode cX1_quotient 52 = .ok (.goto 29, 3) := by decide +kernel
theorem dX1_quotient_55 : decode cX1_quotient 55 = .ok (.iload_n 0, 1) := by decide +kernel
theorem dX1_quotient_56 : decode cX1_quotient 56 = .ok (.ifCond .ge 7, 3) := by decide +kernel
theorem dX1_quotient_59 : decode cX1_quotient 59 = .ok (.iconst 1, 1) := by decide +kernel
theorem dX1_quotient_60 : decode cX1_quotient 60 = .ok (.goto 4, 3) := by decide +kernel
theorem dX1_quotient_63 : decode cX1_quotient 63 = .ok (.iconst 0, 1) := by decide +kernel
theorem dX1_quotient_64 : decode cX1_quotient 64 = .ok (.iload_n 1, 1) := by decide +kernel
theorem dX1_quotient_65 : decode cX1_quotient 65 = .ok (.ifCond .ge 7, 3) := by decide +kernel
theorem dX1_quotient_68 : decode cX1_quotient 68 = .ok (.iconst 1, 1) := by decide +kernel
theorem dX1_quotient_69 : decode cX1_quotient 69 = .ok (.goto 4, 3) := by decide +kernel
theorem dX1_quotient_72 : decode cX1_quotient 72 = .ok (.iconst 0, 1) := by decide +kernel
theorem dX1_quotient_73 : decode cX1_quotient 73 = .ok (.if_icmp .eq 7, 3) := by decide +kernel
theorem dX1_quotient_76 : decode cX1_quotient 76 = .ok (.iconst 1, 1) := by decide +kernel
theorem dX1_quotient_77 : decode cX1_quotient 77 = .ok (.goto 4, 3) := by decide +kernel
theorem dX1_quotient_80 : decode cX1_quotient 80 = .ok (.iconst 0, 1) := by decide +kernel
theorem dX1_quotient_81 : decode cX1_quotient 81 = .ok (.istore 4, 2) := by decide +kernel
theorem dX1_quotient_83 : decode cX1_quotient 83 = .ok (.iload 4, 2) := by decide +kernel
theorem dX1_quotient_85 : decode cX1_quotient 85 = .ok (.ifCond .eq 8, 3) := by decide +kernel
theorem dX1_quotient_88 : decode cX1_quotient 88 = .ok (.iload_n 3, 1) := by decide +kernel
theorem dX1_quotient_89 : decode cX1_quotient 89 = .ok (.ineg, 1) := by decide +kernel
theorem dX1_quotient_90 : decode cX1_quotient 90 = .ok (.goto 4, 3) := by decide +kernel
theorem dX1_quotient_93 : decode cX1_quotient 93 = .ok (.iload_n 3, 1) := by decide +kernel
theorem dX1_quotient_94 : decode cX1_quotient 94 = .ok (.ireturn, 1) := by decide +kernel
theorem dX1_moved_0 : decode cX1_moved 0 = .ok (.iload_n 0, 1) := by decide +kernel
theorem dX1_moved_1 : decode cX1_moved 1 = .ok (.istore 4, 2) := by decide +kernel
theorem dX1_moved_3 : decode cX1_moved 3 = .ok (.iconst 0, 1) := by decide +kernel
theorem dX1_moved_4 : decode cX1_moved 4 = .ok (.istore 5, 2) := by decide +kernel
theorem dX1_moved_6 : decode cX1_moved 6 = .ok (.iload 5, 2) := by decide +kernel
theorem dX1_moved_8 : decode cX1_moved 8 = .ok (.iload_n 1, 1) := by decide +kernel
theorem dX1_moved_9 : decode cX1_moved 9 = .ok (.if_icmp .ge 38, 3) := by decide +kernel
theorem dX1_moved_12 : decode cX1_moved 12 = .ok (.iload_n 2, 1) := by decide +kernel
theorem dX1_moved_13 : decode cX1_moved 13 = .ok (.ifCond .eq 11, 3) := by decide +kernel
theorem dX1_moved_16 : decode cX1_moved 16 = .ok (.iload 4, 2) := by decide +kernel
theorem dX1_moved_18 : decode cX1_moved 18 = .ok (.iload 4, 2) := by decide +kernel
theorem dX1_moved_20 : decode cX1_moved 20 = .ok (.iadd, 1) := by decide +kernel
theorem dX1_moved_21 : decode cX1_moved 21 = .ok (.goto 18, 3) := by decide +kernel
theorem dX1_moved_24 : decode cX1_moved 24 = .ok (.iload_n 3, 1) := by decide +kernel
theorem dX1_moved_25 : decode cX1_moved 25 = .ok (.ifCond .eq 10, 3) := by decide +kernel
theorem dX1_moved_28 : decode cX1_moved 28 = .ok (.iload 4, 2) := by decide +kernel
theorem dX1_moved_30 : decode cX1_moved 30 = .ok (.iconst 1, 1) := by decide +kernel
theorem dX1_moved_31 : decode cX1_moved 31 = .ok (.ishr, 1) := by decide +kernel
theorem dX1_moved_32 : decode cX1_moved 32 = .ok (.goto 7, 3) := by decide +kernel
theorem dX1_moved_35 : decode cX1_moved 35 = .ok (.iload 4, 2) := by decide +kernel
theorem dX1_moved_37 : decode cX1_moved 37 = .ok (.iconst 1, 1) := by decide +kernel
theorem dX1_moved_38 : decode cX1_moved 38 = .ok (.iushr, 1) := by decide +kernel
theorem dX1_moved_39 : decode cX1_moved 39 = .ok (.istore 4, 2) := by decide +kernel
theorem dX1_moved_41 : decode cX1_moved 41 = .ok (.iinc 5 1, 3) := by decide +kernel
theorem dX1_moved_44 : decode cX1_moved 44 = .ok (.goto (-38), 3) := by decide +kernel
theorem dX1_moved_47 : decode cX1_moved 47 = .ok (.iload 4, 2) := by decide +kernel
theorem dX1_moved_49 : decode cX1_moved 49 = .ok (.ireturn, 1) := by decide +kernel
theorem dX1_multiplied_0 : decode cX1_multiplied 0 = .ok (.iload_n 1, 1) := by decide +kernel
theorem dX1_multiplied_1 : decode cX1_multiplied 1 = .ok (.iload_n 2, 1) := by decide +kernel
theorem dX1_multiplied_2 : decode cX1_multiplied 2 = .ok (.invokestatic 48, 3) := by decide +kernel
theorem dX1_multiplied_5 : decode cX1_multiplied 5 = .ok (.istore_n 3, 1) := by decide +kernel
theorem dX1_multiplied_6 : decode cX1_multiplied 6 = .ok (.iload_n 0, 1) := by decide +kernel
theorem dX1_multiplied_7 : decode cX1_multiplied 7 = .ok (.tableswitch 110 0 6 #[41, 45, 67, 79, 81, 88, 103], 41) := by decide +kernel
theorem dX1_multiplied_48 : decode cX1_multiplied 48 = .ok (.iload_n 1, 1) := by decide +kernel
theorem dX1_multiplied_49 : decode cX1_multiplied 49 = .ok (.iload_n 2, 1) := by decide +kernel
theorem dX1_multiplied_50 : decode cX1_multiplied 50 = .ok (.imul, 1) := by decide +kernel
theorem dX1_multiplied_51 : decode cX1_multiplied 51 = .ok (.ireturn, 1) := by decide +kernel
theorem dX1_multiplied_52 : decode cX1_multiplied 52 = .ok (.iload_n 3, 1) := by decide +kernel
theorem dX1_multiplied_53 : decode cX1_multiplied 53 = .ok (.iload_n 1, 1) := by decide +kernel
theorem dX1_multiplied_54 : decode cX1_multiplied 54 = .ok (.ifCond .ge 7, 3) := by decide +kernel
theorem dX1_multiplied_57 : decode cX1_multiplied 57 = .ok (.iload_n 2, 1) := by decide +kernel
theorem dX1_multiplied_58 : decode cX1_multiplied 58 = .ok (.goto 4, 3) := by decide +kernel
theorem dX1_multiplied_61 : decode cX1_multiplied 61 = .ok (.iconst 0, 1) := by decide +kernel
theorem dX1_multiplied_62 : decode cX1_multiplied 62 = .ok (.isub, 1) := by decide +kernel
theorem dX1_multiplied_63 : decode cX1_multiplied 63 = .ok (.iload_n 2, 1) := by decide +kernel
theorem dX1_multiplied_64 : decode cX1_multiplied 64 = .ok (.ifCond .ge 7, 3) := by decide +kernel
theorem dX1_multiplied_67 : decode cX1_multiplied 67 = .ok (.iload_n 1, 1) := by decide +kernel
theorem dX1_multiplied_68 : decode cX1_multiplied 68 = .ok (.goto 4, 3) := by decide +kernel
theorem dX1_multiplied_71 : decode cX1_multiplied 71 = .ok (.iconst 0, 1) := by decide +kernel
theorem dX1_multiplied_72 : decode cX1_multiplied 72 = .ok (.isub, 1) := by decide +kernel
theorem dX1_multiplied_73 : decode cX1_multiplied 73 = .ok (.ireturn, 1) := by decide +kernel
theorem dX1_multiplied_74 : decode cX1_multiplied 74 = .ok (.iload_n 3, 1) := by decide +kernel
theorem dX1_multiplied_75 : decode cX1_multiplied 75 = .ok (.iload_n 1, 1) := by decide +kernel
theorem dX1_multiplied_76 : decode cX1_multiplied 76 = .ok (.ifCond .ge 7, 3) := by decide +kernel
theorem dX1_multiplied_79 : decode cX1_multiplied 79 = .ok (.iload_n 2, 1) := by decide +kernel
theorem dX1_multiplied_80 : decode cX1_multiplied 80 = .ok (.goto 4, 3) := by decide +kernel
theorem dX1_multiplied_83 : decode cX1_multiplied 83 = .ok (.iconst 0, 1) := by decide +kernel
theorem dX1_multiplied_84 : decode cX1_multiplied 84 = .ok (.isub, 1) := by decide +kernel
theorem dX1_multiplied_85 : decode cX1_multiplied 85 = .ok (.ireturn, 1) := by decide +kernel
theorem dX1_multiplied_86 : decode cX1_multiplied 86 = .ok (.iload_n 3, 1) := by decide +kernel
theorem dX1_multiplied_87 : decode cX1_multiplied 87 = .ok (.ireturn, 1) := by decide +kernel
theorem dX1_multiplied_88 : decode cX1_multiplied 88 = .ok (.iload_n 1, 1) := by decide +kernel
theorem dX1_multiplied_89 : decode cX1_multiplied 89 = .ok (.iload_n 2, 1) := by decide +kernel
theorem dX1_multiplied_90 : decode cX1_multiplied 90 = .ok (.iconst 0, 1) := by decide +kernel
theorem dX1_multiplied_91 : decode cX1_multiplied 91 = .ok (.invokestatic 51, 3) := by decide +kernel
theorem dX1_multiplied_94 : decode cX1_multiplied 94 = .ok (.ireturn, 1) := by decide +kernel
theorem dX1_multiplied_95 : decode cX1_multiplied 95 = .ok (.iload_n 2, 1) := by decide +kernel
theorem dX1_multiplied_96 : decode cX1_multiplied 96 = .ok (.ifCond .ne 7, 3) := by decide +kernel
theorem dX1_multiplied_99 : decode cX1_multiplied 99 = .ok (.iconst (-1), 1) := by decide +kernel
theorem dX1_multiplied_100 : decode cX1_multiplied 100 = .ok (.goto 9, 3) := by decide +kernel
theorem dX1_multiplied_103 : decode cX1_multiplied 103 = .ok (.iload_n 1, 1) := by decide +kernel
theorem dX1_multiplied_104 : decode cX1_multiplied 104 = .ok (.iload_n 2, 1) := by decide +kernel
theorem dX1_multiplied_105 : decode cX1_multiplied 105 = .ok (.iconst 0, 1) := by decide +kernel
theorem dX1_multiplied_106 : decode cX1_multiplied 106 = .ok (.invokestatic 44, 3) := by decide +kernel
theorem dX1_multiplied_109 : decode cX1_multiplied 109 = .ok (.ireturn, 1) := by decide +kernel
theorem dX1_multiplied_110 : decode cX1_multiplied 110 = .ok (.iload_n 1, 1) := by decide +kernel
theorem dX1_multiplied_111 : decode cX1_multiplied 111 = .ok (.iload_n 2, 1) := by decide +kernel
theorem dX1_multiplied_112 : decode cX1_multiplied 112 = .ok (.iconst 1, 1) := by decide +kernel
theorem dX1_multiplied_113 : decode cX1_multiplied 113 = .ok (.invokestatic 51, 3) := by decide +kernel
theorem dX1_multiplied_116 : decode cX1_multiplied 116 = .ok (.ireturn, 1) := by decide +kernel
theorem dX1_multiplied_117 : decode cX1_multiplied 117 = .ok (.iload_n 2, 1) := by decide +kernel
theorem dX1_multiplied_118 : decode cX1_multiplied 118 = .ok (.ifCond .ne 7, 3) := by decide +kernel
theorem dX1_multiplied_121 : decode cX1_multiplied 121 = .ok (.iload_n 1, 1) := by decide +kernel
theorem dX1_multiplied_122 : decode cX1_multiplied 122 = .ok (.goto 9, 3) := by decide +kernel
theorem dX1_multiplied_125 : decode cX1_multiplied 125 = .ok (.iload_n 1, 1) := by decide +kernel
theorem dX1_multiplied_126 : decode cX1_multiplied 126 = .ok (.iload_n 2, 1) := by decide +kernel
theorem dX1_multiplied_127 : decode cX1_multiplied 127 = .ok (.iconst 1, 1) := by decide +kernel
theorem dX1_multiplied_128 : decode cX1_multiplied 128 = .ok (.invokestatic 44, 3) := by decide +kernel
theorem dX1_multiplied_131 : decode cX1_multiplied 131 = .ok (.ireturn, 1) := by decide +kernel
theorem dX1_fail_0 : decode cX1_fail 0 = .ok (.aload_n 0, 1) := by decide +kernel
theorem dX1_fail_1 : decode cX1_fail 1 = .ok (.iload_n 1, 1) := by decide +kernel
theorem dX1_fail_2 : decode cX1_fail 2 = .ok (.putfield 54, 3) := by decide +kernel
theorem dX1_fail_5 : decode cX1_fail 5 = .ok (.aload_n 0, 1) := by decide +kernel
theorem dX1_fail_6 : decode cX1_fail 6 = .ok (.iload_n 2, 1) := by decide +kernel
theorem dX1_fail_7 : decode cX1_fail 7 = .ok (.putfield 57, 3) := by decide +kernel
theorem dX1_fail_10 : decode cX1_fail 10 = .ok (.return_, 1) := by decide +kernel
theorem dX1_strange_0 : decode cX1_strange 0 = .ok (.aload_n 0, 1) := by decide +kernel
theorem dX1_strange_1 : decode cX1_strange 1 = .ok (.iconst 2, 1) := by decide +kernel
theorem dX1_strange_2 : decode cX1_strange 2 = .ok (.aload_n 0, 1) := by decide +kernel
theorem dX1_strange_3 : decode cX1_strange 3 = .ok (.getfield 30, 3) := by decide +kernel
theorem dX1_strange_6 : decode cX1_strange 6 = .ok (.invokevirtual 60, 3) := by decide +kernel
theorem dX1_strange_9 : decode cX1_strange 9 = .ok (.return_, 1) := by decide +kernel
theorem dX1_put_0 : decode cX1_put 0 = .ok (.aload_n 0, 1) := by decide +kernel
theorem dX1_put_1 : decode cX1_put 1 = .ok (.bipush 7, 2) := by decide +kernel
theorem dX1_put_3 : decode cX1_put 3 = .ok (.iconst 5, 1) := by decide +kernel
theorem dX1_put_4 : decode cX1_put 4 = .ok (.invokevirtual 33, 3) := by decide +kernel
theorem dX1_put_7 : decode cX1_put 7 = .ok (.istore_n 2, 1) := by decide +kernel
theorem dX1_put_8 : decode cX1_put 8 = .ok (.aload_n 0, 1) := by decide +kernel
theorem dX1_put_9 : decode cX1_put 9 = .ok (.getfield 17, 3) := by decide +kernel
theorem dX1_put_12 : decode cX1_put 12 = .ok (.iload_n 2, 1) := by decide +kernel
theorem dX1_put_13 : decode cX1_put 13 = .ok (.iload_n 2, 1) := by decide +kernel
theorem dX1_put_14 : decode cX1_put 14 = .ok (.ifCond .ne 7, 3) := by decide +kernel
theorem dX1_put_17 : decode cX1_put 17 = .ok (.iconst 0, 1) := by decide +kernel
theorem dX1_put_18 : decode cX1_put 18 = .ok (.goto 4, 3) := by decide +kernel
theorem dX1_put_21 : decode cX1_put 21 = .ok (.iload_n 1, 1) := by decide +kernel
theorem dX1_put_22 : decode cX1_put 22 = .ok (.iastore, 1) := by decide +kernel
theorem dX1_put_23 : decode cX1_put 23 = .ok (.return_, 1) := by decide +kernel
theorem dX1_goTo_0 : decode cX1_goTo 0 = .ok (.iload_n 1, 1) := by decide +kernel
theorem dX1_goTo_1 : decode cX1_goTo 1 = .ok (.iconst 3, 1) := by decide +kernel
theorem dX1_goTo_2 : decode cX1_goTo 2 = .ok (.iand, 1) := by decide +kernel
theorem dX1_goTo_3 : decode cX1_goTo 3 = .ok (.ifCond .eq 10, 3) := by decide +kernel
theorem dX1_goTo_6 : decode cX1_goTo 6 = .ok (.aload_n 0, 1) := by decide +kernel
theorem dX1_goTo_7 : decode cX1_goTo 7 = .ok (.iconst 0, 1) := by decide +kernel
theorem dX1_goTo_8 : decode cX1_goTo 8 = .ok (.iload_n 1, 1) := by decide +kernel
theorem dX1_goTo_9 : decode cX1_goTo 9 = .ok (.invokevirtual 60, 3) := by decide +kernel
theorem dX1_goTo_12 : decode cX1_goTo 12 = .ok (.return_, 1) := by decide +kernel
theorem dX1_goTo_13 : decode cX1_goTo 13 = .ok (.aload_n 0, 1) := by decide +kernel
theorem dX1_goTo_14 : decode cX1_goTo 14 = .ok (.iload_n 1, 1) := by decide +kernel
theorem dX1_goTo_15 : decode cX1_goTo 15 = .ok (.putfield 64, 3) := by decide +kernel
theorem dX1_goTo_18 : decode cX1_goTo 18 = .ok (.iload_n 2, 1) := by decide +kernel
theorem dX1_goTo_19 : decode cX1_goTo 19 = .ok (.ifCond .eq 13, 3) := by decide +kernel
theorem dX1_goTo_22 : decode cX1_goTo 22 = .ok (.aload_n 0, 1) := by decide +kernel
theorem dX1_goTo_23 : decode cX1_goTo 23 = .ok (.aload_n 0, 1) := by decide +kernel
theorem dX1_goTo_24 : decode cX1_goTo 24 = .ok (.getfield 27, 3) := by decide +kernel
theorem dX1_goTo_27 : decode cX1_goTo 27 = .ok (.iconst 4, 1) := by decide +kernel
theorem dX1_goTo_28 : decode cX1_goTo 28 = .ok (.iadd, 1) := by decide +kernel
theorem dX1_goTo_29 : decode cX1_goTo 29 = .ok (.invokevirtual 67, 3) := by decide +kernel
theorem dX1_goTo_32 : decode cX1_goTo 32 = .ok (.return_, 1) := by decide +kernel
theorem dX1_branch_0 : decode cX1_branch 0 = .ok (.iload_n 1, 1) := by decide +kernel
theorem dX1_branch_1 : decode cX1_branch 1 = .ok (.iconst 2, 1) := by decide +kernel
theorem dX1_branch_2 : decode cX1_branch 2 = .ok (.if_icmp .eq 8, 3) := by decide +kernel
theorem dX1_branch_5 : decode cX1_branch 5 = .ok (.iload_n 1, 1) := by decide +kernel
theorem dX1_branch_6 : decode cX1_branch 6 = .ok (.iconst 3, 1) := by decide +kernel
theorem dX1_branch_7 : decode cX1_branch 7 = .ok (.if_icmp .ne 8, 3) := by decide +kernel
theorem dX1_branch_10 : decode cX1_branch 10 = .ok (.aload_n 0, 1) := by decide +kernel
theorem dX1_branch_11 : decode cX1_branch 11 = .ok (.invokevirtual 71, 3) := by decide +kernel
theorem dX1_branch_14 : decode cX1_branch 14 = .ok (.return_, 1) := by decide +kernel
theorem dX1_branch_15 : decode cX1_branch 15 = .ok (.iload_n 1, 1) := by decide +kernel
theorem dX1_branch_16 : decode cX1_branch 16 = .ok (.iconst 2, 1) := by decide +kernel
theorem dX1_branch_17 : decode cX1_branch 17 = .ok (.if_icmp .ge 16, 3) := by decide +kernel
theorem dX1_branch_20 : decode cX1_branch 20 = .ok (.iload_n 2, 1) := by decide +kernel
theorem dX1_branch_21 : decode cX1_branch 21 = .ok (.iload_n 3, 1) := by decide +kernel
theorem dX1_branch_22 : decode cX1_branch 22 = .ok (.if_icmp .ne 7, 3) := by decide +kernel
theorem dX1_branch_25 : decode cX1_branch 25 = .ok (.iconst 1, 1) := by decide +kernel
theorem dX1_branch_26 : decode cX1_branch 26 = .ok (.goto 31, 3) := by decide +kernel
theorem dX1_branch_29 : decode cX1_branch 29 = .ok (.iconst 0, 1) := by decide +kernel
theorem dX1_branch_30 : decode cX1_branch 30 = .ok (.goto 27, 3) := by decide +kernel
theorem dX1_branch_33 : decode cX1_branch 33 = .ok (.iload_n 1, 1) := by decide +kernel
theorem dX1_branch_34 : decode cX1_branch 34 = .ok (.bipush 6, 2) := by decide +kernel
theorem dX1_branch_36 : decode cX1_branch 36 = .ok (.if_icmp .ge 16, 3) := by decide +kernel
theorem dX1_branch_39 : decode cX1_branch 39 = .ok (.iload_n 2, 1) := by decide +kernel
theorem dX1_branch_40 : decode cX1_branch 40 = .ok (.iload_n 3, 1) := by decide +kernel
theorem dX1_branch_41 : decode cX1_branch 41 = .ok (.if_icmp .ge 7, 3) := by decide +kernel
theorem dX1_branch_44 : decode cX1_branch 44 = .ok (.iconst 1, 1) := by decide +kernel
theorem dX1_branch_45 : decode cX1_branch 45 = .ok (.goto 12, 3) := by decide +kernel
theorem dX1_branch_48 : decode cX1_branch 48 = .ok (.iconst 0, 1) := by decide +kernel
theorem dX1_branch_49 : decode cX1_branch 49 = .ok (.goto 8, 3) := by decide +kernel
theorem dX1_branch_52 : decode cX1_branch 52 = .ok (.iload_n 2, 1) := by decide +kernel
theorem dX1_branch_53 : decode cX1_branch 53 = .ok (.iload_n 3, 1) := by decide +kernel
theorem dX1_branch_54 : decode cX1_branch 54 = .ok (.invokestatic 40, 3) := by decide +kernel
theorem dX1_branch_57 : decode cX1_branch 57 = .ok (.istore 4, 2) := by decide +kernel
theorem dX1_branch_59 : decode cX1_branch 59 = .ok (.iload 4, 2) := by decide +kernel
theorem dX1_branch_61 : decode cX1_branch 61 = .ok (.iload_n 1, 1) := by decide +kernel
theorem dX1_branch_62 : decode cX1_branch 62 = .ok (.iconst 2, 1) := by decide +kernel
theorem dX1_branch_63 : decode cX1_branch 63 = .ok (.irem, 1) := by decide +kernel
theorem dX1_branch_64 : decode cX1_branch 64 = .ok (.ifCond .ne 7, 3) := by decide +kernel
theorem dX1_branch_67 : decode cX1_branch 67 = .ok (.iconst 1, 1) := by decide +kernel
theorem dX1_branch_68 : decode cX1_branch 68 = .ok (.goto 4, 3) := by decide +kernel
theorem dX1_branch_71 : decode cX1_branch 71 = .ok (.iconst 0, 1) := by decide +kernel
theorem dX1_branch_72 : decode cX1_branch 72 = .ok (.if_icmp .ne 17, 3) := by decide +kernel
theorem dX1_branch_75 : decode cX1_branch 75 = .ok (.aload_n 0, 1) := by decide +kernel
theorem dX1_branch_76 : decode cX1_branch 76 = .ok (.aload_n 0, 1) := by decide +kernel
theorem dX1_branch_77 : decode cX1_branch 77 = .ok (.getfield 27, 3) := by decide +kernel
theorem dX1_branch_80 : decode cX1_branch 80 = .ok (.aload_n 0, 1) := by decide +kernel
theorem dX1_branch_81 : decode cX1_branch 81 = .ok (.invokevirtual 74, 3) := by decide +kernel
theorem dX1_branch_84 : decode cX1_branch 84 = .ok (.iadd, 1) := by decide +kernel
theorem dX1_branch_85 : decode cX1_branch 85 = .ok (.iconst 0, 1) := by decide +kernel
theorem dX1_branch_86 : decode cX1_branch 86 = .ok (.invokevirtual 78, 3) := by decide +kernel
theorem dX1_branch_89 : decode cX1_branch 89 = .ok (.return_, 1) := by decide +kernel
theorem dX1_load_0 : decode cX1_load 0 = .ok (.iload_n 1, 1) := by decide +kernel
theorem dX1_load_1 : decode cX1_load 1 = .ok (.iconst 3, 1) := by decide +kernel
theorem dX1_load_2 : decode cX1_load 2 = .ok (.if_icmp .eq 8, 3) := by decide +kernel
theorem dX1_load_5 : decode cX1_load 5 = .ok (.iload_n 1, 1) := by decide +kernel
theorem dX1_load_6 : decode cX1_load 6 = .ok (.iconst 5, 1) := by decide +kernel
theorem dX1_load_7 : decode cX1_load 7 = .ok (.if_icmp .le 8, 3) := by decide +kernel
theorem dX1_load_10 : decode cX1_load 10 = .ok (.aload_n 0, 1) := by decide +kernel
theorem dX1_load_11 : decode cX1_load 11 = .ok (.invokevirtual 71, 3) := by decide +kernel
theorem dX1_load_14 : decode cX1_load 14 = .ok (.return_, 1) := by decide +kernel
theorem dX1_load_15 : decode cX1_load 15 = .ok (.iload_n 1, 1) := by decide +kernel
theorem dX1_load_16 : decode cX1_load 16 = .ok (.iconst 4, 1) := by decide +kernel
theorem dX1_load_17 : decode cX1_load 17 = .ok (.irem, 1) := by decide +kernel
theorem dX1_load_18 : decode cX1_load 18 = .ok (.ifCond .ne 7, 3) := by decide +kernel
theorem dX1_load_21 : decode cX1_load 21 = .ok (.iconst 1, 1) := by decide +kernel
theorem dX1_load_22 : decode cX1_load 22 = .ok (.goto 15, 3) := by decide +kernel
theorem dX1_load_25 : decode cX1_load 25 = .ok (.iload_n 1, 1) := by decide +kernel
theorem dX1_load_26 : decode cX1_load 26 = .ok (.iconst 4, 1) := by decide +kernel
theorem dX1_load_27 : decode cX1_load 27 = .ok (.irem, 1) := by decide +kernel
theorem dX1_load_28 : decode cX1_load 28 = .ok (.iconst 1, 1) := by decide +kernel
theorem dX1_load_29 : decode cX1_load 29 = .ok (.if_icmp .ne 7, 3) := by decide +kernel
theorem dX1_load_32 : decode cX1_load 32 = .ok (.iconst 2, 1) := by decide +kernel
theorem dX1_load_33 : decode cX1_load 33 = .ok (.goto 4, 3) := by decide +kernel
theorem dX1_load_36 : decode cX1_load 36 = .ok (.iconst 4, 1) := by decide +kernel
theorem dX1_load_37 : decode cX1_load 37 = .ok (.istore_n 3, 1) := by decide +kernel
theorem dX1_load_38 : decode cX1_load 38 = .ok (.iload_n 2, 1) := by decide +kernel
theorem dX1_load_39 : decode cX1_load 39 = .ok (.iload_n 3, 1) := by decide +kernel
theorem dX1_load_40 : decode cX1_load 40 = .ok (.iconst 1, 1) := by decide +kernel
theorem dX1_load_41 : decode cX1_load 41 = .ok (.isub, 1) := by decide +kernel
theorem dX1_load_42 : decode cX1_load 42 = .ok (.iand, 1) := by decide +kernel
theorem dX1_load_43 : decode cX1_load 43 = .ok (.ifCond .eq 12, 3) := by decide +kernel
theorem dX1_load_46 : decode cX1_load 46 = .ok (.aload_n 0, 1) := by decide +kernel
theorem dX1_load_47 : decode cX1_load 47 = .ok (.iconst 4, 1) := by decide +kernel
theorem dX1_load_48 : decode cX1_load 48 = .ok (.iload_n 2, 1) := by decide +kernel
theorem dX1_load_49 : decode cX1_load 49 = .ok (.invokevirtual 60, 3) := by decide +kernel
theorem dX1_load_52 : decode cX1_load 52 = .ok (.goto 53, 3) := by decide +kernel
theorem dX1_load_55 : decode cX1_load 55 = .ok (.aload_n 0, 1) := by decide +kernel
theorem dX1_load_56 : decode cX1_load 56 = .ok (.iload_n 2, 1) := by decide +kernel
theorem dX1_load_57 : decode cX1_load 57 = .ok (.iconst 1, 1) := by decide +kernel
theorem dX1_load_58 : decode cX1_load 58 = .ok (.invokevirtual 82, 3) := by decide +kernel
theorem dX1_load_61 : decode cX1_load 61 = .ok (.ifCond .ne 13, 3) := by decide +kernel
theorem dX1_load_64 : decode cX1_load 64 = .ok (.aload_n 0, 1) := by decide +kernel
theorem dX1_load_65 : decode cX1_load 65 = .ok (.bipush 13, 2) := by decide +kernel
theorem dX1_load_67 : decode cX1_load 67 = .ok (.iload_n 2, 1) := by decide +kernel
theorem dX1_load_68 : decode cX1_load 68 = .ok (.invokevirtual 60, 3) := by decide +kernel
theorem dX1_load_71 : decode cX1_load 71 = .ok (.goto 34, 3) := by decide +kernel
theorem dX1_load_74 : decode cX1_load 74 = .ok (.aload_n 0, 1) := by decide +kernel
theorem dX1_load_75 : decode cX1_load 75 = .ok (.iload_n 2, 1) := by decide +kernel
theorem dX1_load_76 : decode cX1_load 76 = .ok (.iload_n 3, 1) := by decide +kernel
theorem dX1_load_77 : decode cX1_load 77 = .ok (.invokevirtual 85, 3) := by decide +kernel
theorem dX1_load_80 : decode cX1_load 80 = .ok (.istore 4, 2) := by decide +kernel
theorem dX1_load_82 : decode cX1_load 82 = .ok (.aload_n 0, 1) := by decide +kernel
theorem dX1_load_83 : decode cX1_load 83 = .ok (.iload_n 1, 1) := by decide +kernel
theorem dX1_load_84 : decode cX1_load 84 = .ok (.iconst 2, 1) := by decide +kernel
theorem dX1_load_85 : decode cX1_load 85 = .ok (.if_icmp .ge 15, 3) := by decide +kernel
theorem dX1_load_88 : decode cX1_load 88 = .ok (.iload 4, 2) := by decide +kernel
theorem dX1_load_90 : decode cX1_load 90 = .ok (.bipush 8, 2) := by decide +kernel
theorem dX1_load_92 : decode cX1_load 92 = .ok (.iload_n 3, 1) := by decide +kernel
theorem dX1_load_93 : decode cX1_load 93 = .ok (.imul, 1) := by decide +kernel
theorem dX1_load_94 : decode cX1_load 94 = .ok (.invokestatic 37, 3) := by decide +kernel
theorem dX1_load_97 : decode cX1_load 97 = .ok (.goto 5, 3) := by decide +kernel
theorem dX1_load_100 : decode cX1_load 100 = .ok (.iload 4, 2) := by decide +kernel
theorem dX1_load_102 : decode cX1_load 102 = .ok (.invokevirtual 67, 3) := by decide +kernel
theorem dX1_load_105 : decode cX1_load 105 = .ok (.return_, 1) := by decide +kernel
theorem dX1_store_0 : decode cX1_store 0 = .ok (.iload_n 1, 1) := by decide +kernel
theorem dX1_store_1 : decode cX1_store 1 = .ok (.iconst 2, 1) := by decide +kernel
theorem dX1_store_2 : decode cX1_store 2 = .ok (.if_icmp .le 8, 3) := by decide +kernel
theorem dX1_store_5 : decode cX1_store 5 = .ok (.aload_n 0, 1) := by decide +kernel
theorem dX1_store_6 : decode cX1_store 6 = .ok (.invokevirtual 71, 3) := by decide +kernel
theorem dX1_store_9 : decode cX1_store 9 = .ok (.return_, 1) := by decide +kernel
theorem dX1_store_10 : decode cX1_store 10 = .ok (.iload_n 1, 1) := by decide +kernel
theorem dX1_store_11 : decode cX1_store 11 = .ok (.ifCond .ne 7, 3) := by decide +kernel
theorem dX1_store_14 : decode cX1_store 14 = .ok (.iconst 1, 1) := by decide +kernel
theorem dX1_store_15 : decode cX1_store 15 = .ok (.goto 13, 3) := by decide +kernel
theorem dX1_store_18 : decode cX1_store 18 = .ok (.iload_n 1, 1) := by decide +kernel
theorem dX1_store_19 : decode cX1_store 19 = .ok (.iconst 1, 1) := by decide +kernel
theorem dX1_store_20 : decode cX1_store 20 = .ok (.if_icmp .ne 7, 3) := by decide +kernel
theorem dX1_store_23 : decode cX1_store 23 = .ok (.iconst 2, 1) := by decide +kernel
theorem dX1_store_24 : decode cX1_store 24 = .ok (.goto 4, 3) := by decide +kernel
theorem dX1_store_27 : decode cX1_store 27 = .ok (.iconst 4, 1) := by decide +kernel
theorem dX1_store_28 : decode cX1_store 28 = .ok (.istore 4, 2) := by decide +kernel
theorem dX1_store_30 : decode cX1_store 30 = .ok (.iload_n 2, 1) := by decide +kernel
theorem dX1_store_31 : decode cX1_store 31 = .ok (.iload 4, 2) := by decide +kernel
theorem dX1_store_33 : decode cX1_store 33 = .ok (.iconst 1, 1) := by decide +kernel
theorem dX1_store_34 : decode cX1_store 34 = .ok (.isub, 1) := by decide +kernel
theorem dX1_store_35 : decode cX1_store 35 = .ok (.iand, 1) := by decide +kernel
theorem dX1_store_36 : decode cX1_store 36 = .ok (.ifCond .eq 13, 3) := by decide +kernel
theorem dX1_store_39 : decode cX1_store 39 = .ok (.aload_n 0, 1) := by decide +kernel
theorem dX1_store_40 : decode cX1_store 40 = .ok (.bipush 6, 2) := by decide +kernel
theorem dX1_store_42 : decode cX1_store 42 = .ok (.iload_n 2, 1) := by decide +kernel
theorem dX1_store_43 : decode cX1_store 43 = .ok (.invokevirtual 60, 3) := by decide +kernel
theorem dX1_store_46 : decode cX1_store 46 = .ok (.goto 55, 3) := by decide +kernel
theorem dX1_store_49 : decode cX1_store 49 = .ok (.aload_n 0, 1) := by decide +kernel
theorem dX1_store_50 : decode cX1_store 50 = .ok (.iload_n 2, 1) := by decide +kernel
theorem dX1_store_51 : decode cX1_store 51 = .ok (.iconst 2, 1) := by decide +kernel
theorem dX1_store_52 : decode cX1_store 52 = .ok (.invokevirtual 82, 3) := by decide +kernel
theorem dX1_store_55 : decode cX1_store 55 = .ok (.ifCond .ne 13, 3) := by decide +kernel
theorem dX1_store_58 : decode cX1_store 58 = .ok (.aload_n 0, 1) := by decide +kernel
theorem dX1_store_59 : decode cX1_store 59 = .ok (.bipush 15, 2) := by decide +kernel
theorem dX1_store_61 : decode cX1_store 61 = .ok (.iload_n 2, 1) := by decide +kernel
theorem dX1_store_62 : decode cX1_store 62 = .ok (.invokevirtual 60, 3) := by decide +kernel
theorem dX1_store_65 : decode cX1_store 65 = .ok (.goto 36, 3) := by decide +kernel
theorem dX1_store_68 : decode cX1_store 68 = .ok (.iconst 0, 1) := by decide +kernel
theorem dX1_store_69 : decode cX1_store 69 = .ok (.istore 5, 2) := by decide +kernel
theorem dX1_store_71 : decode cX1_store 71 = .ok (.iload 5, 2) := by decide +kernel
theorem dX1_store_73 : decode cX1_store 73 = .ok (.iload 4, 2) := by decide +kernel
theorem dX1_store_75 : decode cX1_store 75 = .ok (.if_icmp .ge 26, 3) := by decide +kernel
theorem dX1_store_78 : decode cX1_store 78 = .ok (.aload_n 0, 1) := by decide +kernel
theorem dX1_store_79 : decode cX1_store 79 = .ok (.getfield 7, 3) := by decide +kernel
theorem dX1_store_82 : decode cX1_store 82 = .ok (.iload_n 2, 1) := by decide +kernel
theorem dX1_store_83 : decode cX1_store 83 = .ok (.iload 5, 2) := by decide +kernel
theorem dX1_store_85 : decode cX1_store 85 = .ok (.iadd, 1) := by decide +kernel
theorem dX1_store_86 : decode cX1_store 86 = .ok (.iload_n 3, 1) := by decide +kernel
theorem dX1_store_87 : decode cX1_store 87 = .ok (.bipush 8, 2) := by decide +kernel
theorem dX1_store_89 : decode cX1_store 89 = .ok (.iload 5, 2) := by decide +kernel
theorem dX1_store_91 : decode cX1_store 91 = .ok (.imul, 1) := by decide +kernel
theorem dX1_store_92 : decode cX1_store 92 = .ok (.ishr, 1) := by decide +kernel
theorem dX1_store_93 : decode cX1_store 93 = .ok (.i2b, 1) := by decide +kernel
theorem dX1_store_94 : decode cX1_store 94 = .ok (.bastore, 1) := by decide +kernel
theorem dX1_store_95 : decode cX1_store 95 = .ok (.iinc 5 1, 3) := by decide +kernel
theorem dX1_store_98 : decode cX1_store 98 = .ok (.goto (-27), 3) := by decide +kernel
theorem dX1_store_101 : decode cX1_store 101 = .ok (.return_, 1) := by decide +kernel
theorem dX1_worked_0 : decode cX1_worked 0 = .ok (.iload_n 0, 1) := by decide +kernel
theorem dX1_worked_1 : decode cX1_worked 1 = .ok (.tableswitch 124 0 6 #[43, 57, 68, 79, 93, 103, 114], 43) := by decide +kernel
theorem dX1_worked_44 : decode cX1_worked 44 = .ok (.iload_n 3, 1) := by decide +kernel
theorem dX1_worked_45 : decode cX1_worked 45 = .ok (.ifCond .eq 9, 3) := by decide +kernel
theorem dX1_worked_48 : decode cX1_worked 48 = .ok (.iload_n 1, 1) := by decide +kernel
theorem dX1_worked_49 : decode cX1_worked 49 = .ok (.iload_n 2, 1) := by decide +kernel
theorem dX1_worked_50 : decode cX1_worked 50 = .ok (.isub, 1) := by decide +kernel
theorem dX1_worked_51 : decode cX1_worked 51 = .ok (.goto 6, 3) := by decide +kernel
theorem dX1_worked_54 : decode cX1_worked 54 = .ok (.iload_n 1, 1) := by decide +kernel
theorem dX1_worked_55 : decode cX1_worked 55 = .ok (.iload_n 2, 1) := by decide +kernel
theorem dX1_worked_56 : decode cX1_worked 56 = .ok (.iadd, 1) := by decide +kernel
theorem dX1_worked_57 : decode cX1_worked 57 = .ok (.ireturn, 1) := by decide +kernel
theorem dX1_worked_58 : decode cX1_worked 58 = .ok (.iload_n 1, 1) := by decide +kernel
theorem dX1_worked_59 : decode cX1_worked 59 = .ok (.iload_n 2, 1) := by decide +kernel
theorem dX1_worked_60 : decode cX1_worked 60 = .ok (.bipush 31, 2) := by decide +kernel
theorem dX1_worked_62 : decode cX1_worked 62 = .ok (.iand, 1) := by decide +kernel
theorem dX1_worked_63 : decode cX1_worked 63 = .ok (.iconst 1, 1) := by decide +kernel
theorem dX1_worked_64 : decode cX1_worked 64 = .ok (.iconst 0, 1) := by decide +kernel
theorem dX1_worked_65 : decode cX1_worked 65 = .ok (.invokestatic 88, 3) := by decide +kernel
theorem dX1_worked_68 : decode cX1_worked 68 = .ok (.ireturn, 1) := by decide +kernel
theorem dX1_worked_69 : decode cX1_worked 69 = .ok (.iload_n 1, 1) := by decide +kernel
theorem dX1_worked_70 : decode cX1_worked 70 = .ok (.iload_n 2, 1) := by decide +kernel
theorem dX1_worked_71 : decode cX1_worked 71 = .ok (.if_icmp .ge 7, 3) := by decide +kernel
theorem dX1_worked_74 : decode cX1_worked 74 = .ok (.iconst 1, 1) := by decide +kernel
theorem dX1_worked_75 : decode cX1_worked 75 = .ok (.goto 4, 3) := by decide +kernel
theorem dX1_worked_78 : decode cX1_worked 78 = .ok (.iconst 0, 1) := by decide +kernel
theorem dX1_worked_79 : decode cX1_worked 79 = .ok (.ireturn, 1) := by decide +kernel
theorem dX1_worked_80 : decode cX1_worked 80 = .ok (.iload_n 1, 1) := by decide +kernel
theorem dX1_worked_81 : decode cX1_worked 81 = .ok (.iload_n 2, 1) := by decide +kernel
theorem dX1_worked_82 : decode cX1_worked 82 = .ok (.invokestatic 40, 3) := by decide +kernel
theorem dX1_worked_85 : decode cX1_worked 85 = .ok (.ifCond .eq 7, 3) := by decide +kernel
theorem dX1_worked_88 : decode cX1_worked 88 = .ok (.iconst 1, 1) := by decide +kernel
theorem dX1_worked_89 : decode cX1_worked 89 = .ok (.goto 4, 3) := by decide +kernel
theorem dX1_worked_92 : decode cX1_worked 92 = .ok (.iconst 0, 1) := by decide +kernel
theorem dX1_worked_93 : decode cX1_worked 93 = .ok (.ireturn, 1) := by decide +kernel
theorem dX1_worked_94 : decode cX1_worked 94 = .ok (.iload_n 1, 1) := by decide +kernel
theorem dX1_worked_95 : decode cX1_worked 95 = .ok (.iload_n 2, 1) := by decide +kernel
theorem dX1_worked_96 : decode cX1_worked 96 = .ok (.ior, 1) := by decide +kernel
theorem dX1_worked_97 : decode cX1_worked 97 = .ok (.iload_n 1, 1) := by decide +kernel
theorem dX1_worked_98 : decode cX1_worked 98 = .ok (.iload_n 2, 1) := by decide +kernel
theorem dX1_worked_99 : decode cX1_worked 99 = .ok (.iand, 1) := by decide +kernel
theorem dX1_worked_100 : decode cX1_worked 100 = .ok (.iconst (-1), 1) := by decide +kernel
theorem dX1_worked_101 : decode cX1_worked 101 = .ok (.ixor, 1) := by decide +kernel
theorem dX1_worked_102 : decode cX1_worked 102 = .ok (.iand, 1) := by decide +kernel
theorem dX1_worked_103 : decode cX1_worked 103 = .ok (.ireturn, 1) := by decide +kernel
theorem dX1_worked_104 : decode cX1_worked 104 = .ok (.iload_n 1, 1) := by decide +kernel
theorem dX1_worked_105 : decode cX1_worked 105 = .ok (.iload_n 2, 1) := by decide +kernel
theorem dX1_worked_106 : decode cX1_worked 106 = .ok (.bipush 31, 2) := by decide +kernel
theorem dX1_worked_108 : decode cX1_worked 108 = .ok (.iand, 1) := by decide +kernel
theorem dX1_worked_109 : decode cX1_worked 109 = .ok (.iconst 0, 1) := by decide +kernel
theorem dX1_worked_110 : decode cX1_worked 110 = .ok (.iload_n 3, 1) := by decide +kernel
theorem dX1_worked_111 : decode cX1_worked 111 = .ok (.invokestatic 88, 3) := by decide +kernel
theorem dX1_worked_114 : decode cX1_worked 114 = .ok (.ireturn, 1) := by decide +kernel
theorem dX1_worked_115 : decode cX1_worked 115 = .ok (.iload_n 1, 1) := by decide +kernel
theorem dX1_worked_116 : decode cX1_worked 116 = .ok (.iconst (-1), 1) := by decide +kernel
theorem dX1_worked_117 : decode cX1_worked 117 = .ok (.ixor, 1) := by decide +kernel
theorem dX1_worked_118 : decode cX1_worked 118 = .ok (.iload_n 2, 1) := by decide +kernel
theorem dX1_worked_119 : decode cX1_worked 119 = .ok (.iconst (-1), 1) := by decide +kernel
theorem dX1_worked_120 : decode cX1_worked 120 = .ok (.ixor, 1) := by decide +kernel
theorem dX1_worked_121 : decode cX1_worked 121 = .ok (.iand, 1) := by decide +kernel
theorem dX1_worked_122 : decode cX1_worked 122 = .ok (.iconst (-1), 1) := by decide +kernel
theorem dX1_worked_123 : decode cX1_worked 123 = .ok (.ixor, 1) := by decide +kernel
theorem dX1_worked_124 : decode cX1_worked 124 = .ok (.ireturn, 1) := by decide +kernel
theorem dX1_worked_125 : decode cX1_worked 125 = .ok (.iload_n 1, 1) := by decide +kernel
theorem dX1_worked_126 : decode cX1_worked 126 = .ok (.iload_n 2, 1) := by decide +kernel
theorem dX1_worked_127 : decode cX1_worked 127 = .ok (.iand, 1) := by decide +kernel
theorem dX1_worked_128 : decode cX1_worked 128 = .ok (.ireturn, 1) := by decide +kernel
theorem dX1_immediate_0 : decode cX1_immediate 0 = .ok (.iload_n 1, 1) := by decide +kernel
theorem dX1_immediate_1 : decode cX1_immediate 1 = .ok (.iconst 1, 1) := by decide +kernel
theorem dX1_immediate_2 : decode cX1_immediate 2 = .ok (.if_icmp .eq 8, 3) := by decide +kernel
theorem dX1_immediate_5 : decode cX1_immediate 5 = .ok (.iload_n 1, 1) := by decide +kernel
theorem dX1_immediate_6 : decode cX1_immediate 6 = .ok (.iconst 5, 1) := by decide +kernel
theorem dX1_immediate_7 : decode cX1_immediate 7 = .ok (.if_icmp .ne 7, 3) := by decide +kernel
theorem dX1_immediate_10 : decode cX1_immediate 10 = .ok (.iconst 1, 1) := by decide +kernel
theorem dX1_immediate_11 : decode cX1_immediate 11 = .ok (.goto 4, 3) := by decide +kernel
theorem dX1_immediate_14 : decode cX1_immediate 14 = .ok (.iconst 0, 1) := by decide +kernel
theorem dX1_immediate_15 : decode cX1_immediate 15 = .ok (.istore 4, 2) := by decide +kernel
theorem dX1_immediate_17 : decode cX1_immediate 17 = .ok (.iload_n 1, 1) := by decide +kernel
theorem dX1_immediate_18 : decode cX1_immediate 18 = .ok (.iconst 1, 1) := by decide +kernel
theorem dX1_immediate_19 : decode cX1_immediate 19 = .ok (.if_icmp .ne 7, 3) := by decide +kernel
theorem dX1_immediate_22 : decode cX1_immediate 22 = .ok (.iload_n 3, 1) := by decide +kernel
theorem dX1_immediate_23 : decode cX1_immediate 23 = .ok (.ifCond .ne 18, 3) := by decide +kernel
theorem dX1_immediate_26 : decode cX1_immediate 26 = .ok (.iload_n 1, 1) := by decide +kernel
theorem dX1_immediate_27 : decode cX1_immediate 27 = .ok (.iconst 5, 1) := by decide +kernel
theorem dX1_immediate_28 : decode cX1_immediate 28 = .ok (.if_icmp .ne 20, 3) := by decide +kernel
theorem dX1_immediate_31 : decode cX1_immediate 31 = .ok (.iload_n 3, 1) := by decide +kernel
theorem dX1_immediate_32 : decode cX1_immediate 32 = .ok (.ifCond .eq 16, 3) := by decide +kernel
theorem dX1_immediate_35 : decode cX1_immediate 35 = .ok (.iload_n 3, 1) := by decide +kernel
theorem dX1_immediate_36 : decode cX1_immediate 36 = .ok (.bipush 32, 2) := by decide +kernel
theorem dX1_immediate_38 : decode cX1_immediate 38 = .ok (.if_icmp .eq 10, 3) := by decide +kernel
theorem dX1_immediate_41 : decode cX1_immediate 41 = .ok (.aload_n 0, 1) := by decide +kernel
theorem dX1_immediate_42 : decode cX1_immediate 42 = .ok (.invokevirtual 71, 3) := by decide +kernel
theorem dX1_immediate_45 : decode cX1_immediate 45 = .ok (.goto 47, 3) := by decide +kernel
theorem dX1_immediate_48 : decode cX1_immediate 48 = .ok (.aload_n 0, 1) := by decide +kernel
theorem dX1_immediate_49 : decode cX1_immediate 49 = .ok (.iload_n 1, 1) := by decide +kernel
theorem dX1_immediate_50 : decode cX1_immediate 50 = .ok (.iload_n 2, 1) := by decide +kernel
theorem dX1_immediate_51 : decode cX1_immediate 51 = .ok (.iload 4, 2) := by decide +kernel
theorem dX1_immediate_53 : decode cX1_immediate 53 = .ok (.ifCond .eq 13, 3) := by decide +kernel
theorem dX1_immediate_56 : decode cX1_immediate 56 = .ok (.aload_n 0, 1) := by decide +kernel
theorem dX1_immediate_57 : decode cX1_immediate 57 = .ok (.bipush 20, 2) := by decide +kernel
theorem dX1_immediate_59 : decode cX1_immediate 59 = .ok (.iconst 5, 1) := by decide +kernel
theorem dX1_immediate_60 : decode cX1_immediate 60 = .ok (.invokevirtual 33, 3) := by decide +kernel
theorem dX1_immediate_63 : decode cX1_immediate 63 = .ok (.goto 7, 3) := by decide +kernel
theorem dX1_immediate_66 : decode cX1_immediate 66 = .ok (.aload_n 0, 1) := by decide +kernel
theorem dX1_immediate_67 : decode cX1_immediate 67 = .ok (.invokevirtual 92, 3) := by decide +kernel
theorem dX1_immediate_70 : decode cX1_immediate 70 = .ok (.iload_n 1, 1) := by decide +kernel
theorem dX1_immediate_71 : decode cX1_immediate 71 = .ok (.iconst 5, 1) := by decide +kernel
theorem dX1_immediate_72 : decode cX1_immediate 72 = .ok (.if_icmp .ne 13, 3) := by decide +kernel
theorem dX1_immediate_75 : decode cX1_immediate 75 = .ok (.iload_n 3, 1) := by decide +kernel
theorem dX1_immediate_76 : decode cX1_immediate 76 = .ok (.bipush 32, 2) := by decide +kernel
theorem dX1_immediate_78 : decode cX1_immediate 78 = .ok (.if_icmp .ne 7, 3) := by decide +kernel
theorem dX1_immediate_81 : decode cX1_immediate 81 = .ok (.iconst 1, 1) := by decide +kernel
theorem dX1_immediate_82 : decode cX1_immediate 82 = .ok (.goto 4, 3) := by decide +kernel
theorem dX1_immediate_85 : decode cX1_immediate 85 = .ok (.iconst 0, 1) := by decide +kernel
theorem dX1_immediate_86 : decode cX1_immediate 86 = .ok (.invokestatic 95, 3) := by decide +kernel
theorem dX1_immediate_89 : decode cX1_immediate 89 = .ok (.invokevirtual 67, 3) := by decide +kernel
theorem dX1_immediate_92 : decode cX1_immediate 92 = .ok (.return_, 1) := by decide +kernel
theorem dX1_both_0 : decode cX1_both 0 = .ok (.iload 4, 2) := by decide +kernel
theorem dX1_both_2 : decode cX1_both 2 = .ok (.iconst 1, 1) := by decide +kernel
theorem dX1_both_3 : decode cX1_both 3 = .ok (.if_icmp .ne 16, 3) := by decide +kernel
theorem dX1_both_6 : decode cX1_both 6 = .ok (.aload_n 0, 1) := by decide +kernel
theorem dX1_both_7 : decode cX1_both 7 = .ok (.iload_n 1, 1) := by decide +kernel
theorem dX1_both_8 : decode cX1_both 8 = .ok (.iload_n 2, 1) := by decide +kernel
theorem dX1_both_9 : decode cX1_both 9 = .ok (.iload_n 3, 1) := by decide +kernel
theorem dX1_both_10 : decode cX1_both 10 = .ok (.invokestatic 99, 3) := by decide +kernel
theorem dX1_both_13 : decode cX1_both 13 = .ok (.invokevirtual 67, 3) := by decide +kernel
theorem dX1_both_16 : decode cX1_both 16 = .ok (.goto 53, 3) := by decide +kernel
theorem dX1_both_19 : decode cX1_both 19 = .ok (.iload 4, 2) := by decide +kernel
theorem dX1_both_21 : decode cX1_both 21 = .ok (.ifCond .eq 19, 3) := by decide +kernel
theorem dX1_both_24 : decode cX1_both 24 = .ok (.iload 4, 2) := by decide +kernel
theorem dX1_both_26 : decode cX1_both 26 = .ok (.bipush 32, 2) := by decide +kernel
theorem dX1_both_28 : decode cX1_both 28 = .ok (.if_icmp .ne 37, 3) := by decide +kernel
theorem dX1_both_31 : decode cX1_both 31 = .ok (.iload_n 1, 1) := by decide +kernel
theorem dX1_both_32 : decode cX1_both 32 = .ok (.ifCond .eq 8, 3) := by decide +kernel
theorem dX1_both_35 : decode cX1_both 35 = .ok (.iload_n 1, 1) := by decide +kernel
theorem dX1_both_36 : decode cX1_both 36 = .ok (.iconst 5, 1) := by decide +kernel
theorem dX1_both_37 : decode cX1_both 37 = .ok (.if_icmp .ne 28, 3) := by decide +kernel
theorem dX1_both_40 : decode cX1_both 40 = .ok (.aload_n 0, 1) := by decide +kernel
theorem dX1_both_41 : decode cX1_both 41 = .ok (.iload_n 1, 1) := by decide +kernel
theorem dX1_both_42 : decode cX1_both 42 = .ok (.iload_n 2, 1) := by decide +kernel
theorem dX1_both_43 : decode cX1_both 43 = .ok (.iload_n 3, 1) := by decide +kernel
theorem dX1_both_44 : decode cX1_both 44 = .ok (.iload 4, 2) := by decide +kernel
theorem dX1_both_46 : decode cX1_both 46 = .ok (.bipush 32, 2) := by decide +kernel
theorem dX1_both_48 : decode cX1_both 48 = .ok (.if_icmp .ne 7, 3) := by decide +kernel
theorem dX1_both_51 : decode cX1_both 51 = .ok (.iconst 1, 1) := by decide +kernel
theorem dX1_both_52 : decode cX1_both 52 = .ok (.goto 4, 3) := by decide +kernel
theorem dX1_both_55 : decode cX1_both 55 = .ok (.iconst 0, 1) := by decide +kernel
theorem dX1_both_56 : decode cX1_both 56 = .ok (.invokestatic 95, 3) := by decide +kernel
theorem dX1_both_59 : decode cX1_both 59 = .ok (.invokevirtual 67, 3) := by decide +kernel
theorem dX1_both_62 : decode cX1_both 62 = .ok (.goto 7, 3) := by decide +kernel
theorem dX1_both_65 : decode cX1_both 65 = .ok (.aload_n 0, 1) := by decide +kernel
theorem dX1_both_66 : decode cX1_both 66 = .ok (.invokevirtual 71, 3) := by decide +kernel
theorem dX1_both_69 : decode cX1_both 69 = .ok (.return_, 1) := by decide +kernel
theorem dX1_perform_0 : decode cX1_perform 0 = .ok (.aload_n 0, 1) := by decide +kernel
theorem dX1_perform_1 : decode cX1_perform 1 = .ok (.bipush 12, 2) := by decide +kernel
theorem dX1_perform_3 : decode cX1_perform 3 = .ok (.iconst 3, 1) := by decide +kernel
theorem dX1_perform_4 : decode cX1_perform 4 = .ok (.invokevirtual 33, 3) := by decide +kernel
theorem dX1_perform_7 : decode cX1_perform 7 = .ok (.istore_n 1, 1) := by decide +kernel
theorem dX1_perform_8 : decode cX1_perform 8 = .ok (.aload_n 0, 1) := by decide +kernel
theorem dX1_perform_9 : decode cX1_perform 9 = .ok (.getfield 17, 3) := by decide +kernel
theorem dX1_perform_12 : decode cX1_perform 12 = .ok (.aload_n 0, 1) := by decide +kernel
theorem dX1_perform_13 : decode cX1_perform 13 = .ok (.bipush 15, 2) := by decide +kernel
theorem dX1_perform_15 : decode cX1_perform 15 = .ok (.iconst 5, 1) := by decide +kernel
theorem dX1_perform_16 : decode cX1_perform 16 = .ok (.invokevirtual 33, 3) := by decide +kernel
theorem dX1_perform_19 : decode cX1_perform 19 = .ok (.iaload, 1) := by decide +kernel
theorem dX1_perform_20 : decode cX1_perform 20 = .ok (.istore_n 2, 1) := by decide +kernel
theorem dX1_perform_21 : decode cX1_perform 21 = .ok (.aload_n 0, 1) := by decide +kernel
theorem dX1_perform_22 : decode cX1_perform 22 = .ok (.getfield 17, 3) := by decide +kernel
theorem dX1_perform_25 : decode cX1_perform 25 = .ok (.aload_n 0, 1) := by decide +kernel
theorem dX1_perform_26 : decode cX1_perform 26 = .ok (.bipush 20, 2) := by decide +kernel
theorem dX1_perform_28 : decode cX1_perform 28 = .ok (.iconst 5, 1) := by decide +kernel
theorem dX1_perform_29 : decode cX1_perform 29 = .ok (.invokevirtual 33, 3) := by decide +kernel
theorem dX1_perform_32 : decode cX1_perform 32 = .ok (.iaload, 1) := by decide +kernel
theorem dX1_perform_33 : decode cX1_perform 33 = .ok (.istore_n 3, 1) := by decide +kernel
theorem dX1_perform_34 : decode cX1_perform 34 = .ok (.aload_n 0, 1) := by decide +kernel
theorem dX1_perform_35 : decode cX1_perform 35 = .ok (.bipush 25, 2) := by decide +kernel
theorem dX1_perform_37 : decode cX1_perform 37 = .ok (.bipush 7, 2) := by decide +kernel
theorem dX1_perform_39 : decode cX1_perform 39 = .ok (.invokevirtual 33, 3) := by decide +kernel
theorem dX1_perform_42 : decode cX1_perform 42 = .ok (.istore 4, 2) := by decide +kernel
theorem dX1_perform_44 : decode cX1_perform 44 = .ok (.aload_n 0, 1) := by decide +kernel
theorem dX1_perform_45 : decode cX1_perform 45 = .ok (.iconst 0, 1) := by decide +kernel
theorem dX1_perform_46 : decode cX1_perform 46 = .ok (.bipush 7, 2) := by decide +kernel
theorem dX1_perform_48 : decode cX1_perform 48 = .ok (.invokevirtual 33, 3) := by decide +kernel
theorem dX1_perform_51 : decode cX1_perform 51 = .ok (.lookupswitch 234 #[(3, 171), (15, 223), (19, 200), (23, 100), (35, 185), (51, 211), (55, 89), (99, 161), (103, 133), (111, 116)], 89) := by decide +kernel
theorem dX1_perform_140 : decode cX1_perform 140 = .ok (.aload_n 0, 1) := by decide +kernel
theorem dX1_perform_141 : decode cX1_perform 141 = .ok (.aload_n 0, 1) := by decide +kernel
theorem dX1_perform_142 : decode cX1_perform 142 = .ok (.invokevirtual 103, 3) := by decide +kernel
theorem dX1_perform_145 : decode cX1_perform 145 = .ok (.invokevirtual 67, 3) := by decide +kernel
theorem dX1_perform_148 : decode cX1_perform 148 = .ok (.goto 182, 3) := by decide +kernel
theorem dX1_perform_151 : decode cX1_perform 151 = .ok (.aload_n 0, 1) := by decide +kernel
theorem dX1_perform_152 : decode cX1_perform 152 = .ok (.aload_n 0, 1) := by decide +kernel
theorem dX1_perform_153 : decode cX1_perform 153 = .ok (.getfield 27, 3) := by decide +kernel
theorem dX1_perform_156 : decode cX1_perform 156 = .ok (.aload_n 0, 1) := by decide +kernel
theorem dX1_perform_157 : decode cX1_perform 157 = .ok (.invokevirtual 103, 3) := by decide +kernel
theorem dX1_perform_160 : decode cX1_perform 160 = .ok (.iadd, 1) := by decide +kernel
theorem dX1_perform_161 : decode cX1_perform 161 = .ok (.invokevirtual 67, 3) := by decide +kernel
theorem dX1_perform_164 : decode cX1_perform 164 = .ok (.goto 166, 3) := by decide +kernel
theorem dX1_perform_167 : decode cX1_perform 167 = .ok (.aload_n 0, 1) := by decide +kernel
theorem dX1_perform_168 : decode cX1_perform 168 = .ok (.aload_n 0, 1) := by decide +kernel
theorem dX1_perform_169 : decode cX1_perform 169 = .ok (.getfield 27, 3) := by decide +kernel
theorem dX1_perform_172 : decode cX1_perform 172 = .ok (.aload_n 0, 1) := by decide +kernel
theorem dX1_perform_173 : decode cX1_perform 173 = .ok (.invokevirtual 106, 3) := by decide +kernel
theorem dX1_perform_176 : decode cX1_perform 176 = .ok (.iadd, 1) := by decide +kernel
theorem dX1_perform_177 : decode cX1_perform 177 = .ok (.iconst 1, 1) := by decide +kernel
theorem dX1_perform_178 : decode cX1_perform 178 = .ok (.invokevirtual 78, 3) := by decide +kernel
theorem dX1_perform_181 : decode cX1_perform 181 = .ok (.goto 149, 3) := by decide +kernel
theorem dX1_perform_184 : decode cX1_perform 184 = .ok (.iload_n 1, 1) := by decide +kernel
theorem dX1_perform_185 : decode cX1_perform 185 = .ok (.ifCond .ne 20, 3) := by decide +kernel
theorem dX1_perform_188 : decode cX1_perform 188 = .ok (.aload_n 0, 1) := by decide +kernel
theorem dX1_perform_189 : decode cX1_perform 189 = .ok (.iload_n 2, 1) := by decide +kernel
theorem dX1_perform_190 : decode cX1_perform 190 = .ok (.aload_n 0, 1) := by decide +kernel
theorem dX1_perform_191 : decode cX1_perform 191 = .ok (.invokevirtual 92, 3) := by decide +kernel
theorem dX1_perform_194 : decode cX1_perform 194 = .ok (.iadd, 1) := by decide +kernel
theorem dX1_perform_195 : decode cX1_perform 195 = .ok (.bipush (-2), 2) := by decide +kernel
theorem dX1_perform_197 : decode cX1_perform 197 = .ok (.iand, 1) := by decide +kernel
theorem dX1_perform_198 : decode cX1_perform 198 = .ok (.iconst 1, 1) := by decide +kernel
theorem dX1_perform_199 : decode cX1_perform 199 = .ok (.invokevirtual 78, 3) := by decide +kernel
theorem dX1_perform_202 : decode cX1_perform 202 = .ok (.goto 128, 3) := by decide +kernel
theorem dX1_perform_205 : decode cX1_perform 205 = .ok (.aload_n 0, 1) := by decide +kernel
theorem dX1_perform_206 : decode cX1_perform 206 = .ok (.invokevirtual 71, 3) := by decide +kernel
theorem dX1_perform_209 : decode cX1_perform 209 = .ok (.goto 121, 3) := by decide +kernel
theorem dX1_perform_212 : decode cX1_perform 212 = .ok (.aload_n 0, 1) := by decide +kernel
theorem dX1_perform_213 : decode cX1_perform 213 = .ok (.iload_n 1, 1) := by decide +kernel
theorem dX1_perform_214 : decode cX1_perform 214 = .ok (.iload_n 2, 1) := by decide +kernel
theorem dX1_perform_215 : decode cX1_perform 215 = .ok (.iload_n 3, 1) := by decide +kernel
theorem dX1_perform_216 : decode cX1_perform 216 = .ok (.invokevirtual 109, 3) := by decide +kernel
theorem dX1_perform_219 : decode cX1_perform 219 = .ok (.goto 111, 3) := by decide +kernel
theorem dX1_perform_222 : decode cX1_perform 222 = .ok (.aload_n 0, 1) := by decide +kernel
theorem dX1_perform_223 : decode cX1_perform 223 = .ok (.iload_n 1, 1) := by decide +kernel
theorem dX1_perform_224 : decode cX1_perform 224 = .ok (.iload_n 2, 1) := by decide +kernel
theorem dX1_perform_225 : decode cX1_perform 225 = .ok (.aload_n 0, 1) := by decide +kernel
theorem dX1_perform_226 : decode cX1_perform 226 = .ok (.invokevirtual 92, 3) := by decide +kernel
theorem dX1_perform_229 : decode cX1_perform 229 = .ok (.iadd, 1) := by decide +kernel
theorem dX1_perform_230 : decode cX1_perform 230 = .ok (.invokevirtual 113, 3) := by decide +kernel
theorem dX1_perform_233 : decode cX1_perform 233 = .ok (.goto 97, 3) := by decide +kernel
theorem dX1_perform_236 : decode cX1_perform 236 = .ok (.aload_n 0, 1) := by decide +kernel
theorem dX1_perform_237 : decode cX1_perform 237 = .ok (.iload_n 1, 1) := by decide +kernel
theorem dX1_perform_238 : decode cX1_perform 238 = .ok (.iload_n 2, 1) := by decide +kernel
theorem dX1_perform_239 : decode cX1_perform 239 = .ok (.aload_n 0, 1) := by decide +kernel
theorem dX1_perform_240 : decode cX1_perform 240 = .ok (.invokevirtual 116, 3) := by decide +kernel
theorem dX1_perform_243 : decode cX1_perform 243 = .ok (.iadd, 1) := by decide +kernel
theorem dX1_perform_244 : decode cX1_perform 244 = .ok (.iload_n 3, 1) := by decide +kernel
theorem dX1_perform_245 : decode cX1_perform 245 = .ok (.invokevirtual 119, 3) := by decide +kernel
theorem dX1_perform_248 : decode cX1_perform 248 = .ok (.goto 82, 3) := by decide +kernel
theorem dX1_perform_251 : decode cX1_perform 251 = .ok (.aload_n 0, 1) := by decide +kernel
theorem dX1_perform_252 : decode cX1_perform 252 = .ok (.iload_n 1, 1) := by decide +kernel
theorem dX1_perform_253 : decode cX1_perform 253 = .ok (.iload_n 2, 1) := by decide +kernel
theorem dX1_perform_254 : decode cX1_perform 254 = .ok (.iload 4, 2) := by decide +kernel
theorem dX1_perform_256 : decode cX1_perform 256 = .ok (.invokevirtual 122, 3) := by decide +kernel
theorem dX1_perform_259 : decode cX1_perform 259 = .ok (.goto 71, 3) := by decide +kernel
theorem dX1_perform_262 : decode cX1_perform 262 = .ok (.aload_n 0, 1) := by decide +kernel
theorem dX1_perform_263 : decode cX1_perform 263 = .ok (.iload_n 1, 1) := by decide +kernel
theorem dX1_perform_264 : decode cX1_perform 264 = .ok (.iload_n 2, 1) := by decide +kernel
theorem dX1_perform_265 : decode cX1_perform 265 = .ok (.iload_n 3, 1) := by decide +kernel
theorem dX1_perform_266 : decode cX1_perform 266 = .ok (.iload 4, 2) := by decide +kernel
theorem dX1_perform_268 : decode cX1_perform 268 = .ok (.invokevirtual 125, 3) := by decide +kernel
theorem dX1_perform_271 : decode cX1_perform 271 = .ok (.goto 59, 3) := by decide +kernel
theorem dX1_perform_274 : decode cX1_perform 274 = .ok (.iload_n 1, 1) := by decide +kernel
theorem dX1_perform_275 : decode cX1_perform 275 = .ok (.ifCond .eq 55, 3) := by decide +kernel
theorem dX1_perform_278 : decode cX1_perform 278 = .ok (.aload_n 0, 1) := by decide +kernel
theorem dX1_perform_279 : decode cX1_perform 279 = .ok (.invokevirtual 71, 3) := by decide +kernel
theorem dX1_perform_282 : decode cX1_perform 282 = .ok (.goto 48, 3) := by decide +kernel
theorem dX1_perform_285 : decode cX1_perform 285 = .ok (.aload_n 0, 1) := by decide +kernel
theorem dX1_perform_286 : decode cX1_perform 286 = .ok (.getfield 30, 3) := by decide +kernel
theorem dX1_perform_289 : decode cX1_perform 289 = .ok (.bipush 115, 2) := by decide +kernel
theorem dX1_perform_291 : decode cX1_perform 291 = .ok (.if_icmp .eq 12, 3) := by decide +kernel
theorem dX1_perform_294 : decode cX1_perform 294 = .ok (.aload_n 0, 1) := by decide +kernel
theorem dX1_perform_295 : decode cX1_perform 295 = .ok (.getfield 30, 3) := by decide +kernel
theorem dX1_perform_298 : decode cX1_perform 298 = .ok (.ldc 129, 2) := by decide +kernel
theorem dX1_perform_300 : decode cX1_perform 300 = .ok (.if_icmp .ne 26, 3) := by decide +kernel
theorem dX1_perform_303 : decode cX1_perform 303 = .ok (.aload_n 0, 1) := by decide +kernel
theorem dX1_perform_304 : decode cX1_perform 304 = .ok (.aload_n 0, 1) := by decide +kernel
theorem dX1_perform_305 : decode cX1_perform 305 = .ok (.getfield 30, 3) := by decide +kernel
theorem dX1_perform_308 : decode cX1_perform 308 = .ok (.bipush 115, 2) := by decide +kernel
theorem dX1_perform_310 : decode cX1_perform 310 = .ok (.if_icmp .ne 8, 3) := by decide +kernel
theorem dX1_perform_313 : decode cX1_perform 313 = .ok (.bipush 8, 2) := by decide +kernel
theorem dX1_perform_315 : decode cX1_perform 315 = .ok (.goto 4, 3) := by decide +kernel
theorem dX1_perform_318 : decode cX1_perform 318 = .ok (.iconst 3, 1) := by decide +kernel
theorem dX1_perform_319 : decode cX1_perform 319 = .ok (.iconst 0, 1) := by decide +kernel
theorem dX1_perform_320 : decode cX1_perform 320 = .ok (.invokevirtual 60, 3) := by decide +kernel
theorem dX1_perform_323 : decode cX1_perform 323 = .ok (.goto 7, 3) := by decide +kernel
theorem dX1_perform_326 : decode cX1_perform 326 = .ok (.aload_n 0, 1) := by decide +kernel
theorem dX1_perform_327 : decode cX1_perform 327 = .ok (.invokevirtual 71, 3) := by decide +kernel
theorem dX1_perform_330 : decode cX1_perform 330 = .ok (.return_, 1) := by decide +kernel
theorem dX1_step_0 : decode cX1_step 0 = .ok (.aload_n 0, 1) := by decide +kernel
theorem dX1_step_1 : decode cX1_step 1 = .ok (.iconst (-1), 1) := by decide +kernel
theorem dX1_step_2 : decode cX1_step 2 = .ok (.putfield 54, 3) := by decide +kernel
theorem dX1_step_5 : decode cX1_step 5 = .ok (.aload_n 0, 1) := by decide +kernel
theorem dX1_step_6 : decode cX1_step 6 = .ok (.aload_n 0, 1) := by decide +kernel
theorem dX1_step_7 : decode cX1_step 7 = .ok (.getfield 27, 3) := by decide +kernel
theorem dX1_step_10 : decode cX1_step 10 = .ok (.iconst 4, 1) := by decide +kernel
theorem dX1_step_11 : decode cX1_step 11 = .ok (.iadd, 1) := by decide +kernel
theorem dX1_step_12 : decode cX1_step 12 = .ok (.putfield 64, 3) := by decide +kernel
theorem dX1_step_15 : decode cX1_step 15 = .ok (.aload_n 0, 1) := by decide +kernel
theorem dX1_step_16 : decode cX1_step 16 = .ok (.getfield 27, 3) := by decide +kernel
theorem dX1_step_19 : decode cX1_step 19 = .ok (.iconst 3, 1) := by decide +kernel
theorem dX1_step_20 : decode cX1_step 20 = .ok (.iand, 1) := by decide +kernel
theorem dX1_step_21 : decode cX1_step 21 = .ok (.ifCond .eq 15, 3) := by decide +kernel
theorem dX1_step_24 : decode cX1_step 24 = .ok (.aload_n 0, 1) := by decide +kernel
theorem dX1_step_25 : decode cX1_step 25 = .ok (.iconst 0, 1) := by decide +kernel
theorem dX1_step_26 : decode cX1_step 26 = .ok (.aload_n 0, 1) := by decide +kernel
theorem dX1_step_27 : decode cX1_step 27 = .ok (.getfield 27, 3) := by decide +kernel
theorem dX1_step_30 : decode cX1_step 30 = .ok (.invokevirtual 60, 3) := by decide +kernel
theorem dX1_step_33 : decode cX1_step 33 = .ok (.goto 45, 3) := by decide +kernel
theorem dX1_step_36 : decode cX1_step 36 = .ok (.aload_n 0, 1) := by decide +kernel
theorem dX1_step_37 : decode cX1_step 37 = .ok (.aload_n 0, 1) := by decide +kernel
theorem dX1_step_38 : decode cX1_step 38 = .ok (.getfield 27, 3) := by decide +kernel
theorem dX1_step_41 : decode cX1_step 41 = .ok (.iconst 4, 1) := by decide +kernel
theorem dX1_step_42 : decode cX1_step 42 = .ok (.invokevirtual 82, 3) := by decide +kernel
theorem dX1_step_45 : decode cX1_step 45 = .ok (.ifCond .ne 16, 3) := by decide +kernel
theorem dX1_step_48 : decode cX1_step 48 = .ok (.aload_n 0, 1) := by decide +kernel
theorem dX1_step_49 : decode cX1_step 49 = .ok (.bipush 12, 2) := by decide +kernel
theorem dX1_step_51 : decode cX1_step 51 = .ok (.aload_n 0, 1) := by decide +kernel
theorem dX1_step_52 : decode cX1_step 52 = .ok (.getfield 27, 3) := by decide +kernel
theorem dX1_step_55 : decode cX1_step 55 = .ok (.invokevirtual 60, 3) := by decide +kernel
theorem dX1_step_58 : decode cX1_step 58 = .ok (.goto 20, 3) := by decide +kernel
theorem dX1_step_61 : decode cX1_step 61 = .ok (.aload_n 0, 1) := by decide +kernel
theorem dX1_step_62 : decode cX1_step 62 = .ok (.aload_n 0, 1) := by decide +kernel
theorem dX1_step_63 : decode cX1_step 63 = .ok (.aload_n 0, 1) := by decide +kernel
theorem dX1_step_64 : decode cX1_step 64 = .ok (.getfield 27, 3) := by decide +kernel
theorem dX1_step_67 : decode cX1_step 67 = .ok (.iconst 4, 1) := by decide +kernel
theorem dX1_step_68 : decode cX1_step 68 = .ok (.invokevirtual 85, 3) := by decide +kernel
theorem dX1_step_71 : decode cX1_step 71 = .ok (.putfield 30, 3) := by decide +kernel
theorem dX1_step_74 : decode cX1_step 74 = .ok (.aload_n 0, 1) := by decide +kernel
theorem dX1_step_75 : decode cX1_step 75 = .ok (.invokevirtual 130, 3) := by decide +kernel
theorem dX1_step_78 : decode cX1_step 78 = .ok (.aload_n 0, 1) := by decide +kernel
theorem dX1_step_79 : decode cX1_step 79 = .ok (.getfield 54, 3) := by decide +kernel
theorem dX1_step_82 : decode cX1_step 82 = .ok (.iconst (-1), 1) := by decide +kernel
theorem dX1_step_83 : decode cX1_step 83 = .ok (.if_icmp .eq 5, 3) := by decide +kernel
theorem dX1_step_86 : decode cX1_step 86 = .ok (.iconst 0, 1) := by decide +kernel
theorem dX1_step_87 : decode cX1_step 87 = .ok (.ireturn, 1) := by decide +kernel
theorem dX1_step_88 : decode cX1_step 88 = .ok (.aload_n 0, 1) := by decide +kernel
theorem dX1_step_89 : decode cX1_step 89 = .ok (.aload_n 0, 1) := by decide +kernel
theorem dX1_step_90 : decode cX1_step 90 = .ok (.getfield 64, 3) := by decide +kernel
theorem dX1_step_93 : decode cX1_step 93 = .ok (.putfield 27, 3) := by decide +kernel
theorem dX1_step_96 : decode cX1_step 96 = .ok (.aload_n 0, 1) := by decide +kernel
theorem dX1_step_97 : decode cX1_step 97 = .ok (.dup, 1) := by decide +kernel
theorem dX1_step_98 : decode cX1_step 98 = .ok (.getfield 133, 3) := by decide +kernel
theorem dX1_step_101 : decode cX1_step 101 = .ok (.iconst 1, 1) := by decide +kernel
theorem dX1_step_102 : decode cX1_step 102 = .ok (.iadd, 1) := by decide +kernel
theorem dX1_step_103 : decode cX1_step 103 = .ok (.putfield 133, 3) := by decide +kernel
theorem dX1_step_106 : decode cX1_step 106 = .ok (.iconst 1, 1) := by decide +kernel
theorem dX1_step_107 : decode cX1_step 107 = .ok (.ireturn, 1) := by decide +kernel
theorem dX1_run_0 : decode cX1_run 0 = .ok (.aload_n 0, 1) := by decide +kernel
theorem dX1_run_1 : decode cX1_run 1 = .ok (.iload_n 1, 1) := by decide +kernel
theorem dX1_run_2 : decode cX1_run 2 = .ok (.ifCond .lt 10, 3) := by decide +kernel
theorem dX1_run_5 : decode cX1_run 5 = .ok (.iload_n 1, 1) := by decide +kernel
theorem dX1_run_6 : decode cX1_run 6 = .ok (.sipush 2000, 3) := by decide +kernel
theorem dX1_run_9 : decode cX1_run 9 = .ok (.if_icmp .le 7, 3) := by decide +kernel
theorem dX1_run_12 : decode cX1_run 12 = .ok (.iconst 1, 1) := by decide +kernel
theorem dX1_run_13 : decode cX1_run 13 = .ok (.goto 4, 3) := by decide +kernel
theorem dX1_run_16 : decode cX1_run 16 = .ok (.iconst 0, 1) := by decide +kernel
theorem dX1_run_17 : decode cX1_run 17 = .ok (.putfield 24, 3) := by decide +kernel
theorem dX1_run_20 : decode cX1_run 20 = .ok (.aload_n 0, 1) := by decide +kernel
theorem dX1_run_21 : decode cX1_run 21 = .ok (.getfield 24, 3) := by decide +kernel
theorem dX1_run_24 : decode cX1_run 24 = .ok (.ifCond .le 5, 3) := by decide +kernel
theorem dX1_run_27 : decode cX1_run 27 = .ok (.iconst 0, 1) := by decide +kernel
theorem dX1_run_28 : decode cX1_run 28 = .ok (.ireturn, 1) := by decide +kernel
theorem dX1_run_29 : decode cX1_run 29 = .ok (.aload_n 0, 1) := by decide +kernel
theorem dX1_run_30 : decode cX1_run 30 = .ok (.iconst (-1), 1) := by decide +kernel
theorem dX1_run_31 : decode cX1_run 31 = .ok (.putfield 20, 3) := by decide +kernel
theorem dX1_run_34 : decode cX1_run 34 = .ok (.aload_n 0, 1) := by decide +kernel
theorem dX1_run_35 : decode cX1_run 35 = .ok (.iconst 0, 1) := by decide +kernel
theorem dX1_run_36 : decode cX1_run 36 = .ok (.putfield 136, 3) := by decide +kernel
theorem dX1_run_39 : decode cX1_run 39 = .ok (.iconst 0, 1) := by decide +kernel
theorem dX1_run_40 : decode cX1_run 40 = .ok (.istore_n 2, 1) := by decide +kernel
theorem dX1_run_41 : decode cX1_run 41 = .ok (.iconst 1, 1) := by decide +kernel
theorem dX1_run_42 : decode cX1_run 42 = .ok (.istore_n 3, 1) := by decide +kernel
theorem dX1_run_43 : decode cX1_run 43 = .ok (.iload_n 2, 1) := by decide +kernel
theorem dX1_run_44 : decode cX1_run 44 = .ok (.iload_n 1, 1) := by decide +kernel
theorem dX1_run_45 : decode cX1_run 45 = .ok (.if_icmp .ge 27, 3) := by decide +kernel
theorem dX1_run_48 : decode cX1_run 48 = .ok (.iload_n 3, 1) := by decide +kernel
theorem dX1_run_49 : decode cX1_run 49 = .ok (.ifCond .eq 23, 3) := by decide +kernel
theorem dX1_run_52 : decode cX1_run 52 = .ok (.aload_n 0, 1) := by decide +kernel
theorem dX1_run_53 : decode cX1_run 53 = .ok (.invokevirtual 139, 3) := by decide +kernel
theorem dX1_run_56 : decode cX1_run 56 = .ok (.istore_n 3, 1) := by decide +kernel
theorem dX1_run_57 : decode cX1_run 57 = .ok (.iload_n 3, 1) := by decide +kernel
theorem dX1_run_58 : decode cX1_run 58 = .ok (.ifCond .eq 9, 3) := by decide +kernel
theorem dX1_run_61 : decode cX1_run 61 = .ok (.iload_n 2, 1) := by decide +kernel
theorem dX1_run_62 : decode cX1_run 62 = .ok (.iconst 1, 1) := by decide +kernel
theorem dX1_run_63 : decode cX1_run 63 = .ok (.iadd, 1) := by decide +kernel
theorem dX1_run_64 : decode cX1_run 64 = .ok (.goto 4, 3) := by decide +kernel
theorem dX1_run_67 : decode cX1_run 67 = .ok (.iload_n 2, 1) := by decide +kernel
theorem dX1_run_68 : decode cX1_run 68 = .ok (.istore_n 2, 1) := by decide +kernel
theorem dX1_run_69 : decode cX1_run 69 = .ok (.goto (-26), 3) := by decide +kernel
theorem dX1_run_72 : decode cX1_run 72 = .ok (.iload_n 3, 1) := by decide +kernel
theorem dX1_run_73 : decode cX1_run 73 = .ok (.ifCond .ne 19, 3) := by decide +kernel
theorem dX1_run_76 : decode cX1_run 76 = .ok (.aload_n 0, 1) := by decide +kernel
theorem dX1_run_77 : decode cX1_run 77 = .ok (.aload_n 0, 1) := by decide +kernel
theorem dX1_run_78 : decode cX1_run 78 = .ok (.getfield 54, 3) := by decide +kernel
theorem dX1_run_81 : decode cX1_run 81 = .ok (.putfield 20, 3) := by decide +kernel
theorem dX1_run_84 : decode cX1_run 84 = .ok (.aload_n 0, 1) := by decide +kernel
theorem dX1_run_85 : decode cX1_run 85 = .ok (.aload_n 0, 1) := by decide +kernel
theorem dX1_run_86 : decode cX1_run 86 = .ok (.getfield 57, 3) := by decide +kernel
theorem dX1_run_89 : decode cX1_run 89 = .ok (.putfield 136, 3) := by decide +kernel
theorem dX1_run_92 : decode cX1_run 92 = .ok (.iload_n 2, 1) := by decide +kernel
theorem dX1_run_93 : decode cX1_run 93 = .ok (.ireturn, 1) := by decide +kernel
theorem dX1_trap_0 : decode cX1_trap 0 = .ok (.aload_n 0, 1) := by decide +kernel
theorem dX1_trap_1 : decode cX1_trap 1 = .ok (.iconst 0, 1) := by decide +kernel
theorem dX1_trap_2 : decode cX1_trap 2 = .ok (.putfield 24, 3) := by decide +kernel
theorem dX1_trap_5 : decode cX1_trap 5 = .ok (.aload_n 0, 1) := by decide +kernel
theorem dX1_trap_6 : decode cX1_trap 6 = .ok (.getfield 20, 3) := by decide +kernel
theorem dX1_trap_9 : decode cX1_trap 9 = .ok (.ireturn, 1) := by decide +kernel
theorem dX1_value_0 : decode cX1_value 0 = .ok (.aload_n 0, 1) := by decide +kernel
theorem dX1_value_1 : decode cX1_value 1 = .ok (.iconst 0, 1) := by decide +kernel
theorem dX1_value_2 : decode cX1_value 2 = .ok (.putfield 24, 3) := by decide +kernel
theorem dX1_value_5 : decode cX1_value 5 = .ok (.aload_n 0, 1) := by decide +kernel
theorem dX1_value_6 : decode cX1_value 6 = .ok (.getfield 136, 3) := by decide +kernel
theorem dX1_value_9 : decode cX1_value 9 = .ok (.ireturn, 1) := by decide +kernel
theorem dX1_done_0 : decode cX1_done 0 = .ok (.aload_n 0, 1) := by decide +kernel
theorem dX1_done_1 : decode cX1_done 1 = .ok (.iconst 0, 1) := by decide +kernel
theorem dX1_done_2 : decode cX1_done 2 = .ok (.putfield 24, 3) := by decide +kernel
theorem dX1_done_5 : decode cX1_done 5 = .ok (.aload_n 0, 1) := by decide +kernel
theorem dX1_done_6 : decode cX1_done 6 = .ok (.getfield 133, 3) := by decide +kernel
theorem dX1_done_9 : decode cX1_done 9 = .ok (.ireturn, 1) := by decide +kernel
end
section
theorem dL_run_0 : decode cL_run 0 = .ok (.aload_n 2, 1) := by decide +kernel
theorem dL_run_1 : decode cL_run 1 = .ok (.iconst 0, 1) := by decide +kernel
theorem dL_run_2 : decode cL_run 2 = .ok (.aload_n 0, 1) := by decide +kernel
theorem dL_run_3 : decode cL_run 3 = .ok (.iload_n 1, 1) := by decide +kernel
theorem dL_run_4 : decode cL_run 4 = .ok (.invokevirtual 7, 3) := by decide +kernel
theorem dL_run_7 : decode cL_run 7 = .ok (.i2l, 1) := by decide +kernel
theorem dL_run_8 : decode cL_run 8 = .ok (.lastore, 1) := by decide +kernel
theorem dL_run_9 : decode cL_run 9 = .ok (.goto 6, 3) := by decide +kernel
theorem dL_run_12 : decode cL_run 12 = .ok (.astore_n 3, 1) := by decide +kernel
theorem dL_run_13 : decode cL_run 13 = .ok (.iconst 1, 1) := by decide +kernel
theorem dL_run_14 : decode cL_run 14 = .ok (.ireturn, 1) := by decide +kernel
theorem dL_run_15 : decode cL_run 15 = .ok (.iconst 0, 1) := by decide +kernel
theorem dL_run_16 : decode cL_run 16 = .ok (.ireturn, 1) := by decide +kernel
theorem dL_law_0 : decode cL_law 0 = .ok (.new 8, 3) := by decide +kernel
theorem dL_law_3 : decode cL_law 3 = .ok (.dup, 1) := by decide +kernel
theorem dL_law_4 : decode cL_law 4 = .ok (.invokespecial 15, 3) := by decide +kernel
theorem dL_law_7 : decode cL_law 7 = .ok (.astore_n 1, 1) := by decide +kernel
theorem dL_law_8 : decode cL_law 8 = .ok (.new 16, 3) := by decide +kernel
theorem dL_law_11 : decode cL_law 11 = .ok (.dup, 1) := by decide +kernel
theorem dL_law_12 : decode cL_law 12 = .ok (.invokespecial 18, 3) := by decide +kernel
theorem dL_law_15 : decode cL_law 15 = .ok (.astore_n 2, 1) := by decide +kernel
theorem dL_law_16 : decode cL_law 16 = .ok (.iconst 1, 1) := by decide +kernel
theorem dL_law_17 : decode cL_law 17 = .ok (.newarray .long, 2) := by decide +kernel
theorem dL_law_19 : decode cL_law 19 = .ok (.astore_n 3, 1) := by decide +kernel
theorem dL_law_20 : decode cL_law 20 = .ok (.iconst 0, 1) := by decide +kernel
theorem dL_law_21 : decode cL_law 21 = .ok (.istore 4, 2) := by decide +kernel
theorem dL_law_23 : decode cL_law 23 = .ok (.iload 4, 2) := by decide +kernel
theorem dL_law_25 : decode cL_law 25 = .ok (.aload_n 0, 1) := by decide +kernel
theorem dL_law_26 : decode cL_law 26 = .ok (.arraylength, 1) := by decide +kernel
theorem dL_law_27 : decode cL_law 27 = .ok (.iconst 5, 1) := by decide +kernel
theorem dL_law_28 : decode cL_law 28 = .ok (.isub, 1) := by decide +kernel
theorem dL_law_29 : decode cL_law 29 = .ok (.if_icmp .gt 409, 3) := by decide +kernel
theorem dL_law_32 : decode cL_law 32 = .ok (.aload_n 0, 1) := by decide +kernel
theorem dL_law_33 : decode cL_law 33 = .ok (.iload 4, 2) := by decide +kernel
theorem dL_law_35 : decode cL_law 35 = .ok (.iaload, 1) := by decide +kernel
theorem dL_law_36 : decode cL_law 36 = .ok (.bipush 15, 2) := by decide +kernel
theorem dL_law_38 : decode cL_law 38 = .ok (.iand, 1) := by decide +kernel
theorem dL_law_39 : decode cL_law 39 = .ok (.tableswitch 393 0 10 #[57, 138, 163, 200, 237, 262, 285, 298, 354, 367, 380], 57) := by decide +kernel
theorem dL_law_96 : decode cL_law 96 = .ok (.aload_n 1, 1) := by decide +kernel
theorem dL_law_97 : decode cL_law 97 = .ok (.aload_n 0, 1) := by decide +kernel
theorem dL_law_98 : decode cL_law 98 = .ok (.iload 4, 2) := by decide +kernel
theorem dL_law_100 : decode cL_law 100 = .ok (.iconst 1, 1) := by decide +kernel
theorem dL_law_101 : decode cL_law 101 = .ok (.iadd, 1) := by decide +kernel
theorem dL_law_102 : decode cL_law 102 = .ok (.iaload, 1) := by decide +kernel
theorem dL_law_103 : decode cL_law 103 = .ok (.aload_n 0, 1) := by decide +kernel
theorem dL_law_104 : decode cL_law 104 = .ok (.iload 4, 2) := by decide +kernel
theorem dL_law_106 : decode cL_law 106 = .ok (.iconst 2, 1) := by decide +kernel
theorem dL_law_107 : decode cL_law 107 = .ok (.iadd, 1) := by decide +kernel
theorem dL_law_108 : decode cL_law 108 = .ok (.iaload, 1) := by decide +kernel
theorem dL_law_109 : decode cL_law 109 = .ok (.aload_n 0, 1) := by decide +kernel
theorem dL_law_110 : decode cL_law 110 = .ok (.iload 4, 2) := by decide +kernel
theorem dL_law_112 : decode cL_law 112 = .ok (.iconst 3, 1) := by decide +kernel
theorem dL_law_113 : decode cL_law 113 = .ok (.iadd, 1) := by decide +kernel
theorem dL_law_114 : decode cL_law 114 = .ok (.iaload, 1) := by decide +kernel
theorem dL_law_115 : decode cL_law 115 = .ok (.i2l, 1) := by decide +kernel
theorem dL_law_116 : decode cL_law 116 = .ok (.bipush 32, 2) := by decide +kernel
theorem dL_law_118 : decode cL_law 118 = .ok (.lshl, 1) := by decide +kernel
theorem dL_law_119 : decode cL_law 119 = .ok (.aload_n 0, 1) := by decide +kernel
theorem dL_law_120 : decode cL_law 120 = .ok (.iload 4, 2) := by decide +kernel
theorem dL_law_122 : decode cL_law 122 = .ok (.iconst 4, 1) := by decide +kernel
theorem dL_law_123 : decode cL_law 123 = .ok (.iadd, 1) := by decide +kernel
theorem dL_law_124 : decode cL_law 124 = .ok (.iaload, 1) := by decide +kernel
theorem dL_law_125 : decode cL_law 125 = .ok (.i2l, 1) := by decide +kernel
theorem dL_law_126 : decode cL_law 126 = .ok (.ldc2_w 19, 3) := by decide +kernel
theorem dL_law_129 : decode cL_law 129 = .ok (.land, 1) := by decide +kernel
theorem dL_law_130 : decode cL_law 130 = .ok (.lor, 1) := by decide +kernel
theorem dL_law_131 : decode cL_law 131 = .ok (.invokevirtual 21, 3) := by decide +kernel
theorem dL_law_134 : decode cL_law 134 = .ok (.aload_n 2, 1) := by decide +kernel
theorem dL_law_135 : decode cL_law 135 = .ok (.aload_n 0, 1) := by decide +kernel
theorem dL_law_136 : decode cL_law 136 = .ok (.iload 4, 2) := by decide +kernel
theorem dL_law_138 : decode cL_law 138 = .ok (.iconst 1, 1) := by decide +kernel
theorem dL_law_139 : decode cL_law 139 = .ok (.iadd, 1) := by decide +kernel
theorem dL_law_140 : decode cL_law 140 = .ok (.iaload, 1) := by decide +kernel
theorem dL_law_141 : decode cL_law 141 = .ok (.aload_n 0, 1) := by decide +kernel
theorem dL_law_142 : decode cL_law 142 = .ok (.iload 4, 2) := by decide +kernel
theorem dL_law_144 : decode cL_law 144 = .ok (.iconst 2, 1) := by decide +kernel
theorem dL_law_145 : decode cL_law 145 = .ok (.iadd, 1) := by decide +kernel
theorem dL_law_146 : decode cL_law 146 = .ok (.iaload, 1) := by decide +kernel
theorem dL_law_147 : decode cL_law 147 = .ok (.aload_n 0, 1) := by decide +kernel
theorem dL_law_148 : decode cL_law 148 = .ok (.iload 4, 2) := by decide +kernel
theorem dL_law_150 : decode cL_law 150 = .ok (.iconst 3, 1) := by decide +kernel
theorem dL_law_151 : decode cL_law 151 = .ok (.iadd, 1) := by decide +kernel
theorem dL_law_152 : decode cL_law 152 = .ok (.iaload, 1) := by decide +kernel
theorem dL_law_153 : decode cL_law 153 = .ok (.i2l, 1) := by decide +kernel
theorem dL_law_154 : decode cL_law 154 = .ok (.bipush 32, 2) := by decide +kernel
theorem dL_law_156 : decode cL_law 156 = .ok (.lshl, 1) := by decide +kernel
theorem dL_law_157 : decode cL_law 157 = .ok (.aload_n 0, 1) := by decide +kernel
theorem dL_law_158 : decode cL_law 158 = .ok (.iload 4, 2) := by decide +kernel
theorem dL_law_160 : decode cL_law 160 = .ok (.iconst 4, 1) := by decide +kernel
theorem dL_law_161 : decode cL_law 161 = .ok (.iadd, 1) := by decide +kernel
theorem dL_law_162 : decode cL_law 162 = .ok (.iaload, 1) := by decide +kernel
theorem dL_law_163 : decode cL_law 163 = .ok (.i2l, 1) := by decide +kernel
theorem dL_law_164 : decode cL_law 164 = .ok (.ldc2_w 19, 3) := by decide +kernel
theorem dL_law_167 : decode cL_law 167 = .ok (.land, 1) := by decide +kernel
theorem dL_law_168 : decode cL_law 168 = .ok (.lor, 1) := by decide +kernel
theorem dL_law_169 : decode cL_law 169 = .ok (.invokevirtual 25, 3) := by decide +kernel
theorem dL_law_172 : decode cL_law 172 = .ok (.if_icmp .eq 260, 3) := by decide +kernel
theorem dL_law_175 : decode cL_law 175 = .ok (.iconst 0, 1) := by decide +kernel
theorem dL_law_176 : decode cL_law 176 = .ok (.ireturn, 1) := by decide +kernel
theorem dL_law_177 : decode cL_law 177 = .ok (.aload_n 1, 1) := by decide +kernel
theorem dL_law_178 : decode cL_law 178 = .ok (.aload_n 0, 1) := by decide +kernel
theorem dL_law_179 : decode cL_law 179 = .ok (.iload 4, 2) := by decide +kernel
theorem dL_law_181 : decode cL_law 181 = .ok (.iconst 1, 1) := by decide +kernel
theorem dL_law_182 : decode cL_law 182 = .ok (.iadd, 1) := by decide +kernel
theorem dL_law_183 : decode cL_law 183 = .ok (.iaload, 1) := by decide +kernel
theorem dL_law_184 : decode cL_law 184 = .ok (.invokevirtual 26, 3) := by decide +kernel
theorem dL_law_187 : decode cL_law 187 = .ok (.aload_n 2, 1) := by decide +kernel
theorem dL_law_188 : decode cL_law 188 = .ok (.aload_n 0, 1) := by decide +kernel
theorem dL_law_189 : decode cL_law 189 = .ok (.iload 4, 2) := by decide +kernel
theorem dL_law_191 : decode cL_law 191 = .ok (.iconst 1, 1) := by decide +kernel
theorem dL_law_192 : decode cL_law 192 = .ok (.iadd, 1) := by decide +kernel
theorem dL_law_193 : decode cL_law 193 = .ok (.iaload, 1) := by decide +kernel
theorem dL_law_194 : decode cL_law 194 = .ok (.invokevirtual 29, 3) := by decide +kernel
theorem dL_law_197 : decode cL_law 197 = .ok (.if_icmp .eq 235, 3) := by decide +kernel
theorem dL_law_200 : decode cL_law 200 = .ok (.iconst 0, 1) := by decide +kernel
theorem dL_law_201 : decode cL_law 201 = .ok (.ireturn, 1) := by decide +kernel
theorem dL_law_202 : decode cL_law 202 = .ok (.aload_n 1, 1) := by decide +kernel
theorem dL_law_203 : decode cL_law 203 = .ok (.aload_n 0, 1) := by decide +kernel
theorem dL_law_204 : decode cL_law 204 = .ok (.iload 4, 2) := by decide +kernel
theorem dL_law_206 : decode cL_law 206 = .ok (.iconst 1, 1) := by decide +kernel
theorem dL_law_207 : decode cL_law 207 = .ok (.iadd, 1) := by decide +kernel
theorem dL_law_208 : decode cL_law 208 = .ok (.iaload, 1) := by decide +kernel
theorem dL_law_209 : decode cL_law 209 = .ok (.aload_n 0, 1) := by decide +kernel
theorem dL_law_210 : decode cL_law 210 = .ok (.iload 4, 2) := by decide +kernel
theorem dL_law_212 : decode cL_law 212 = .ok (.iconst 2, 1) := by decide +kernel
theorem dL_law_213 : decode cL_law 213 = .ok (.iadd, 1) := by decide +kernel
theorem dL_law_214 : decode cL_law 214 = .ok (.iaload, 1) := by decide +kernel
theorem dL_law_215 : decode cL_law 215 = .ok (.invokevirtual 30, 3) := by decide +kernel
theorem dL_law_218 : decode cL_law 218 = .ok (.aload_n 2, 1) := by decide +kernel
theorem dL_law_219 : decode cL_law 219 = .ok (.aload_n 0, 1) := by decide +kernel
theorem dL_law_220 : decode cL_law 220 = .ok (.iload 4, 2) := by decide +kernel
theorem dL_law_222 : decode cL_law 222 = .ok (.iconst 1, 1) := by decide +kernel
theorem dL_law_223 : decode cL_law 223 = .ok (.iadd, 1) := by decide +kernel
theorem dL_law_224 : decode cL_law 224 = .ok (.iaload, 1) := by decide +kernel
theorem dL_law_225 : decode cL_law 225 = .ok (.aload_n 0, 1) := by decide +kernel
theorem dL_law_226 : decode cL_law 226 = .ok (.iload 4, 2) := by decide +kernel
theorem dL_law_228 : decode cL_law 228 = .ok (.iconst 2, 1) := by decide +kernel
theorem dL_law_229 : decode cL_law 229 = .ok (.iadd, 1) := by decide +kernel
theorem dL_law_230 : decode cL_law 230 = .ok (.iaload, 1) := by decide +kernel
theorem dL_law_231 : decode cL_law 231 = .ok (.invokevirtual 34, 3) := by decide +kernel
theorem dL_law_234 : decode cL_law 234 = .ok (.if_icmp .eq 198, 3) := by decide +kernel
theorem dL_law_237 : decode cL_law 237 = .ok (.iconst 0, 1) := by decide +kernel
theorem dL_law_238 : decode cL_law 238 = .ok (.ireturn, 1) := by decide +kernel
theorem dL_law_239 : decode cL_law 239 = .ok (.aload_n 1, 1) := by decide +kernel
theorem dL_law_240 : decode cL_law 240 = .ok (.aload_n 0, 1) := by decide +kernel
theorem dL_law_241 : decode cL_law 241 = .ok (.iload 4, 2) := by decide +kernel
theorem dL_law_243 : decode cL_law 243 = .ok (.iconst 1, 1) := by decide +kernel
theorem dL_law_244 : decode cL_law 244 = .ok (.iadd, 1) := by decide +kernel
theorem dL_law_245 : decode cL_law 245 = .ok (.iaload, 1) := by decide +kernel
theorem dL_law_246 : decode cL_law 246 = .ok (.aload_n 0, 1) := by decide +kernel
theorem dL_law_247 : decode cL_law 247 = .ok (.iload 4, 2) := by decide +kernel
theorem dL_law_249 : decode cL_law 249 = .ok (.iconst 2, 1) := by decide +kernel
theorem dL_law_250 : decode cL_law 250 = .ok (.iadd, 1) := by decide +kernel
theorem dL_law_251 : decode cL_law 251 = .ok (.iaload, 1) := by decide +kernel
theorem dL_law_252 : decode cL_law 252 = .ok (.invokevirtual 35, 3) := by decide +kernel
theorem dL_law_255 : decode cL_law 255 = .ok (.aload_n 2, 1) := by decide +kernel
theorem dL_law_256 : decode cL_law 256 = .ok (.aload_n 0, 1) := by decide +kernel
theorem dL_law_257 : decode cL_law 257 = .ok (.iload 4, 2) := by decide +kernel
theorem dL_law_259 : decode cL_law 259 = .ok (.iconst 1, 1) := by decide +kernel
theorem dL_law_260 : decode cL_law 260 = .ok (.iadd, 1) := by decide +kernel
theorem dL_law_261 : decode cL_law 261 = .ok (.iaload, 1) := by decide +kernel
theorem dL_law_262 : decode cL_law 262 = .ok (.aload_n 0, 1) := by decide +kernel
theorem dL_law_263 : decode cL_law 263 = .ok (.iload 4, 2) := by decide +kernel
theorem dL_law_265 : decode cL_law 265 = .ok (.iconst 2, 1) := by decide +kernel
theorem dL_law_266 : decode cL_law 266 = .ok (.iadd, 1) := by decide +kernel
theorem dL_law_267 : decode cL_law 267 = .ok (.iaload, 1) := by decide +kernel
theorem dL_law_268 : decode cL_law 268 = .ok (.invokevirtual 38, 3) := by decide +kernel
theorem dL_law_271 : decode cL_law 271 = .ok (.if_icmp .eq 161, 3) := by decide +kernel
theorem dL_law_274 : decode cL_law 274 = .ok (.iconst 0, 1) := by decide +kernel
theorem dL_law_275 : decode cL_law 275 = .ok (.ireturn, 1) := by decide +kernel
theorem dL_law_276 : decode cL_law 276 = .ok (.aload_n 1, 1) := by decide +kernel
theorem dL_law_277 : decode cL_law 277 = .ok (.aload_n 0, 1) := by decide +kernel
theorem dL_law_278 : decode cL_law 278 = .ok (.iload 4, 2) := by decide +kernel
theorem dL_law_280 : decode cL_law 280 = .ok (.iconst 1, 1) := by decide +kernel
theorem dL_law_281 : decode cL_law 281 = .ok (.iadd, 1) := by decide +kernel
theorem dL_law_282 : decode cL_law 282 = .ok (.iaload, 1) := by decide +kernel
theorem dL_law_283 : decode cL_law 283 = .ok (.invokevirtual 39, 3) := by decide +kernel
theorem dL_law_286 : decode cL_law 286 = .ok (.aload_n 2, 1) := by decide +kernel
theorem dL_law_287 : decode cL_law 287 = .ok (.aload_n 0, 1) := by decide +kernel
theorem dL_law_288 : decode cL_law 288 = .ok (.iload 4, 2) := by decide +kernel
theorem dL_law_290 : decode cL_law 290 = .ok (.iconst 1, 1) := by decide +kernel
theorem dL_law_291 : decode cL_law 291 = .ok (.iadd, 1) := by decide +kernel
theorem dL_law_292 : decode cL_law 292 = .ok (.iaload, 1) := by decide +kernel
theorem dL_law_293 : decode cL_law 293 = .ok (.invokevirtual 42, 3) := by decide +kernel
theorem dL_law_296 : decode cL_law 296 = .ok (.if_icmp .eq 136, 3) := by decide +kernel
theorem dL_law_299 : decode cL_law 299 = .ok (.iconst 0, 1) := by decide +kernel
theorem dL_law_300 : decode cL_law 300 = .ok (.ireturn, 1) := by decide +kernel
theorem dL_law_301 : decode cL_law 301 = .ok (.aload_n 1, 1) := by decide +kernel
theorem dL_law_302 : decode cL_law 302 = .ok (.aload_n 0, 1) := by decide +kernel
theorem dL_law_303 : decode cL_law 303 = .ok (.iload 4, 2) := by decide +kernel
theorem dL_law_305 : decode cL_law 305 = .ok (.iconst 1, 1) := by decide +kernel
theorem dL_law_306 : decode cL_law 306 = .ok (.iadd, 1) := by decide +kernel
theorem dL_law_307 : decode cL_law 307 = .ok (.iaload, 1) := by decide +kernel
theorem dL_law_308 : decode cL_law 308 = .ok (.invokevirtual 43, 3) := by decide +kernel
theorem dL_law_311 : decode cL_law 311 = .ok (.aload_n 2, 1) := by decide +kernel
theorem dL_law_312 : decode cL_law 312 = .ok (.aload_n 0, 1) := by decide +kernel
theorem dL_law_313 : decode cL_law 313 = .ok (.iload 4, 2) := by decide +kernel
theorem dL_law_315 : decode cL_law 315 = .ok (.iconst 1, 1) := by decide +kernel
theorem dL_law_316 : decode cL_law 316 = .ok (.iadd, 1) := by decide +kernel
theorem dL_law_317 : decode cL_law 317 = .ok (.iaload, 1) := by decide +kernel
theorem dL_law_318 : decode cL_law 318 = .ok (.invokevirtual 47, 3) := by decide +kernel
theorem dL_law_321 : decode cL_law 321 = .ok (.goto 111, 3) := by decide +kernel
theorem dL_law_324 : decode cL_law 324 = .ok (.aload_n 1, 1) := by decide +kernel
theorem dL_law_325 : decode cL_law 325 = .ok (.invokevirtual 48, 3) := by decide +kernel
theorem dL_law_328 : decode cL_law 328 = .ok (.aload_n 2, 1) := by decide +kernel
theorem dL_law_329 : decode cL_law 329 = .ok (.invokevirtual 52, 3) := by decide +kernel
theorem dL_law_332 : decode cL_law 332 = .ok (.if_icmp .eq 100, 3) := by decide +kernel
theorem dL_law_335 : decode cL_law 335 = .ok (.iconst 0, 1) := by decide +kernel
theorem dL_law_336 : decode cL_law 336 = .ok (.ireturn, 1) := by decide +kernel
theorem dL_law_337 : decode cL_law 337 = .ok (.aload_n 1, 1) := by decide +kernel
theorem dL_law_338 : decode cL_law 338 = .ok (.aload_n 0, 1) := by decide +kernel
theorem dL_law_339 : decode cL_law 339 = .ok (.iload 4, 2) := by decide +kernel
theorem dL_law_341 : decode cL_law 341 = .ok (.iconst 1, 1) := by decide +kernel
theorem dL_law_342 : decode cL_law 342 = .ok (.iadd, 1) := by decide +kernel
theorem dL_law_343 : decode cL_law 343 = .ok (.iaload, 1) := by decide +kernel
theorem dL_law_344 : decode cL_law 344 = .ok (.aload_n 3, 1) := by decide +kernel
theorem dL_law_345 : decode cL_law 345 = .ok (.invokestatic 53, 3) := by decide +kernel
theorem dL_law_348 : decode cL_law 348 = .ok (.istore 5, 2) := by decide +kernel
theorem dL_law_350 : decode cL_law 350 = .ok (.aload_n 2, 1) := by decide +kernel
theorem dL_law_351 : decode cL_law 351 = .ok (.aload_n 0, 1) := by decide +kernel
theorem dL_law_352 : decode cL_law 352 = .ok (.iload 4, 2) := by decide +kernel
theorem dL_law_354 : decode cL_law 354 = .ok (.iconst 1, 1) := by decide +kernel
theorem dL_law_355 : decode cL_law 355 = .ok (.iadd, 1) := by decide +kernel
theorem dL_law_356 : decode cL_law 356 = .ok (.iaload, 1) := by decide +kernel
theorem dL_law_357 : decode cL_law 357 = .ok (.invokevirtual 58, 3) := by decide +kernel
theorem dL_law_360 : decode cL_law 360 = .ok (.istore 6, 2) := by decide +kernel
theorem dL_law_362 : decode cL_law 362 = .ok (.aload_n 2, 1) := by decide +kernel
theorem dL_law_363 : decode cL_law 363 = .ok (.invokevirtual 59, 3) := by decide +kernel
theorem dL_law_366 : decode cL_law 366 = .ok (.iload 5, 2) := by decide +kernel
theorem dL_law_368 : decode cL_law 368 = .ok (.if_icmp .eq 5, 3) := by decide +kernel
theorem dL_law_371 : decode cL_law 371 = .ok (.iconst 0, 1) := by decide +kernel
theorem dL_law_372 : decode cL_law 372 = .ok (.ireturn, 1) := by decide +kernel
theorem dL_law_373 : decode cL_law 373 = .ok (.iload 5, 2) := by decide +kernel
theorem dL_law_375 : decode cL_law 375 = .ok (.ifCond .ne 15, 3) := by decide +kernel
theorem dL_law_378 : decode cL_law 378 = .ok (.aload_n 3, 1) := by decide +kernel
theorem dL_law_379 : decode cL_law 379 = .ok (.iconst 0, 1) := by decide +kernel
theorem dL_law_380 : decode cL_law 380 = .ok (.laload, 1) := by decide +kernel
theorem dL_law_381 : decode cL_law 381 = .ok (.iload 6, 2) := by decide +kernel
theorem dL_law_383 : decode cL_law 383 = .ok (.i2l, 1) := by decide +kernel
theorem dL_law_384 : decode cL_law 384 = .ok (.lcmp, 1) := by decide +kernel
theorem dL_law_385 : decode cL_law 385 = .ok (.ifCond .eq 5, 3) := by decide +kernel
theorem dL_law_388 : decode cL_law 388 = .ok (.iconst 0, 1) := by decide +kernel
theorem dL_law_389 : decode cL_law 389 = .ok (.ireturn, 1) := by decide +kernel
theorem dL_law_390 : decode cL_law 390 = .ok (.goto 42, 3) := by decide +kernel
theorem dL_law_393 : decode cL_law 393 = .ok (.aload_n 1, 1) := by decide +kernel
theorem dL_law_394 : decode cL_law 394 = .ok (.invokevirtual 62, 3) := by decide +kernel
theorem dL_law_397 : decode cL_law 397 = .ok (.aload_n 2, 1) := by decide +kernel
theorem dL_law_398 : decode cL_law 398 = .ok (.invokevirtual 65, 3) := by decide +kernel
theorem dL_law_401 : decode cL_law 401 = .ok (.if_icmp .eq 31, 3) := by decide +kernel
theorem dL_law_404 : decode cL_law 404 = .ok (.iconst 0, 1) := by decide +kernel
theorem dL_law_405 : decode cL_law 405 = .ok (.ireturn, 1) := by decide +kernel
theorem dL_law_406 : decode cL_law 406 = .ok (.aload_n 1, 1) := by decide +kernel
theorem dL_law_407 : decode cL_law 407 = .ok (.invokevirtual 66, 3) := by decide +kernel
theorem dL_law_410 : decode cL_law 410 = .ok (.aload_n 2, 1) := by decide +kernel
theorem dL_law_411 : decode cL_law 411 = .ok (.invokevirtual 69, 3) := by decide +kernel
theorem dL_law_414 : decode cL_law 414 = .ok (.if_icmp .eq 18, 3) := by decide +kernel
theorem dL_law_417 : decode cL_law 417 = .ok (.iconst 0, 1) := by decide +kernel
theorem dL_law_418 : decode cL_law 418 = .ok (.ireturn, 1) := by decide +kernel
theorem dL_law_419 : decode cL_law 419 = .ok (.aload_n 1, 1) := by decide +kernel
theorem dL_law_420 : decode cL_law 420 = .ok (.invokevirtual 70, 3) := by decide +kernel
theorem dL_law_423 : decode cL_law 423 = .ok (.aload_n 2, 1) := by decide +kernel
theorem dL_law_424 : decode cL_law 424 = .ok (.invokevirtual 73, 3) := by decide +kernel
theorem dL_law_427 : decode cL_law 427 = .ok (.if_icmp .eq 5, 3) := by decide +kernel
theorem dL_law_430 : decode cL_law 430 = .ok (.iconst 0, 1) := by decide +kernel
theorem dL_law_431 : decode cL_law 431 = .ok (.ireturn, 1) := by decide +kernel
theorem dL_law_432 : decode cL_law 432 = .ok (.iinc 4 5, 3) := by decide +kernel
theorem dL_law_435 : decode cL_law 435 = .ok (.goto (-412), 3) := by decide +kernel
theorem dL_law_438 : decode cL_law 438 = .ok (.iconst 1, 1) := by decide +kernel
theorem dL_law_439 : decode cL_law 439 = .ok (.ireturn, 1) := by decide +kernel
end
section
theorem lv_loop {n : Nat} (P : Nat → Heap → List Loc → Array Slot → Prop) (Wg : Heap → List Loc → Array Slot → Prop) (step : ∀ (j : Nat) (H : Heap) (locs : List Loc) (ls : Array Slot), j ≤ n → P j H locs ls → (∀ (H' : Heap) (locs' : List Loc) (ls' : Array Slot), j < n → P (j + 1) H' locs' ls' → Wg H' locs' ls') → Wg H locs ls) : ∀ (k j : Nat) (H : Heap) (locs : List Loc) (ls : Array Slot), n - j ≤ k → j ≤ n → P j H locs ls → Wg H locs ls := by
  intro k
  induction k with
  | zero =>
    intro j H locs ls hk hj hp
    exact step j H locs ls hj hp (fun _ _ _ h _ => absurd h (by omega))
  | succ k ih =>
    intro j H locs ls hk hj hp
    exact step j H locs ls hj hp (fun H' locs' ls' h hp' => ih (j + 1) H' locs' ls' (by omega) (by omega) hp')
def F_partD  (a1 : Int32) : Int32 :=
  ((a1.toUInt32 >>> ((7 : Int32).toUInt32 &&& Int32.toUInt32 31)).toInt32) &&& 31
set_option maxHeartbeats 4000000 in
set_option maxRecDepth 100000 in
theorem c_partD (l : Launch) (a1 : Int32) : Met l yX0_partD wsX0_partD ({ frames := 0, cells := 0, slots := 0, locals := 0 }) (fun v _ => v = ([.int a1] : List Value).toArray) (vp_Si (fun r : Int32 => r = F_partD a1)) 0 0 (fun _ => False) := by
  refine Met.ofW (cc := cX0_partD) (maxL := 1) (ret := (some .int)) (by decide) rfl ?_
  intro p e s m args below meth c s₁ B hml hv
  obtain rfl := hv
  have hx := B.exec
  have hb := B.bytes
  have hr := B.returns
  have hts := atoms_spec (ws := wsX0_partD) B.pre
  have hown : s.vm.findClass RX0 = some m.cls := findClass_of_methodNamed B.named
  have hlocks := B.notSynchronized
  have hl := lv_entry ([.int a1]) (n := 1) (Nat.le_of_ble_eq_true rfl)
  rw [lg_entry_eq]
  generalize (lg_sl ([.int a1]) ++ List.replicate (1 - (lg_sl ([.int a1])).length) Slot.unset).toArray = ls at hl ⊢
  have hl : lv_has ls 1 [(0, .int a1)] := hl
  refine lv_iload_n hx hb dX0_partD_0 rfl (lv_at hl 0 rfl) ?_
  refine lv_bipush (v := 7) hx hb dX0_partD_1 (by decide) ?_
  refine lv_iushr (v := (a1.toUInt32 >>> ((7 : Int32).toUInt32 &&& Int32.toUInt32 31)).toInt32) hx hb dX0_partD_3 rfl ?_
  refine lv_bipush (v := 31) hx hb dX0_partD_4 (by decide) ?_
  refine lv_iand hx hb dX0_partD_6 ?_
  exact W.iret (v := ((a1.toUInt32 >>> ((7 : Int32).toUInt32 &&& Int32.toUInt32 31)).toInt32) &&& 31) hx hb hr (fun t ht hW => ⟨_, rfl, (by unfold F_partD; rfl), ht⟩) (fun _ h => by cases h) dX0_partD_7

def F_partF  (a1 : Int32) : Int32 :=
  ((a1.toUInt32 >>> ((12 : Int32).toUInt32 &&& Int32.toUInt32 31)).toInt32) &&& 7
set_option maxHeartbeats 4000000 in
set_option maxRecDepth 100000 in
theorem c_partF (l : Launch) (a1 : Int32) : Met l yX0_partF wsX0_partF ({ frames := 0, cells := 0, slots := 0, locals := 0 }) (fun v _ => v = ([.int a1] : List Value).toArray) (vp_Si (fun r : Int32 => r = F_partF a1)) 0 0 (fun _ => False) := by
  refine Met.ofW (cc := cX0_partF) (maxL := 1) (ret := (some .int)) (by decide) rfl ?_
  intro p e s m args below meth c s₁ B hml hv
  obtain rfl := hv
  have hx := B.exec
  have hb := B.bytes
  have hr := B.returns
  have hts := atoms_spec (ws := wsX0_partF) B.pre
  have hown : s.vm.findClass RX0 = some m.cls := findClass_of_methodNamed B.named
  have hlocks := B.notSynchronized
  have hl := lv_entry ([.int a1]) (n := 1) (Nat.le_of_ble_eq_true rfl)
  rw [lg_entry_eq]
  generalize (lg_sl ([.int a1]) ++ List.replicate (1 - (lg_sl ([.int a1])).length) Slot.unset).toArray = ls at hl ⊢
  have hl : lv_has ls 1 [(0, .int a1)] := hl
  refine lv_iload_n hx hb dX0_partF_0 rfl (lv_at hl 0 rfl) ?_
  refine lv_bipush (v := 12) hx hb dX0_partF_1 (by decide) ?_
  refine lv_iushr (v := (a1.toUInt32 >>> ((12 : Int32).toUInt32 &&& Int32.toUInt32 31)).toInt32) hx hb dX0_partF_3 rfl ?_
  refine lv_bipush (v := 7) hx hb dX0_partF_4 (by decide) ?_
  refine lv_iand hx hb dX0_partF_6 ?_
  exact W.iret (v := ((a1.toUInt32 >>> ((12 : Int32).toUInt32 &&& Int32.toUInt32 31)).toInt32) &&& 7) hx hb hr (fun t ht hW => ⟨_, rfl, (by unfold F_partF; rfl), ht⟩) (fun _ h => by cases h) dX0_partF_7

def F_partB  (a1 : Int32) : Int32 :=
  ((a1.toUInt32 >>> ((20 : Int32).toUInt32 &&& Int32.toUInt32 31)).toInt32) &&& 31
set_option maxHeartbeats 4000000 in
set_option maxRecDepth 100000 in
theorem c_partB (l : Launch) (a1 : Int32) : Met l yX0_partB wsX0_partB ({ frames := 0, cells := 0, slots := 0, locals := 0 }) (fun v _ => v = ([.int a1] : List Value).toArray) (vp_Si (fun r : Int32 => r = F_partB a1)) 0 0 (fun _ => False) := by
  refine Met.ofW (cc := cX0_partB) (maxL := 1) (ret := (some .int)) (by decide) rfl ?_
  intro p e s m args below meth c s₁ B hml hv
  obtain rfl := hv
  have hx := B.exec
  have hb := B.bytes
  have hr := B.returns
  have hts := atoms_spec (ws := wsX0_partB) B.pre
  have hown : s.vm.findClass RX0 = some m.cls := findClass_of_methodNamed B.named
  have hlocks := B.notSynchronized
  have hl := lv_entry ([.int a1]) (n := 1) (Nat.le_of_ble_eq_true rfl)
  rw [lg_entry_eq]
  generalize (lg_sl ([.int a1]) ++ List.replicate (1 - (lg_sl ([.int a1])).length) Slot.unset).toArray = ls at hl ⊢
  have hl : lv_has ls 1 [(0, .int a1)] := hl
  refine lv_iload_n hx hb dX0_partB_0 rfl (lv_at hl 0 rfl) ?_
  refine lv_bipush (v := 20) hx hb dX0_partB_1 (by decide) ?_
  refine lv_iushr (v := (a1.toUInt32 >>> ((20 : Int32).toUInt32 &&& Int32.toUInt32 31)).toInt32) hx hb dX0_partB_3 rfl ?_
  refine lv_bipush (v := 31) hx hb dX0_partB_4 (by decide) ?_
  refine lv_iand hx hb dX0_partB_6 ?_
  exact W.iret (v := ((a1.toUInt32 >>> ((20 : Int32).toUInt32 &&& Int32.toUInt32 31)).toInt32) &&& 31) hx hb hr (fun t ht hW => ⟨_, rfl, (by unfold F_partB; rfl), ht⟩) (fun _ h => by cases h) dX0_partB_7

def F_partG  (a1 : Int32) : Int32 :=
  (a1.toUInt32 >>> ((25 : Int32).toUInt32 &&& Int32.toUInt32 31)).toInt32
set_option maxHeartbeats 4000000 in
set_option maxRecDepth 100000 in
theorem c_partG (l : Launch) (a1 : Int32) : Met l yX0_partG wsX0_partG ({ frames := 0, cells := 0, slots := 0, locals := 0 }) (fun v _ => v = ([.int a1] : List Value).toArray) (vp_Si (fun r : Int32 => r = F_partG a1)) 0 0 (fun _ => False) := by
  refine Met.ofW (cc := cX0_partG) (maxL := 1) (ret := (some .int)) (by decide) rfl ?_
  intro p e s m args below meth c s₁ B hml hv
  obtain rfl := hv
  have hx := B.exec
  have hb := B.bytes
  have hr := B.returns
  have hts := atoms_spec (ws := wsX0_partG) B.pre
  have hown : s.vm.findClass RX0 = some m.cls := findClass_of_methodNamed B.named
  have hlocks := B.notSynchronized
  have hl := lv_entry ([.int a1]) (n := 1) (Nat.le_of_ble_eq_true rfl)
  rw [lg_entry_eq]
  generalize (lg_sl ([.int a1]) ++ List.replicate (1 - (lg_sl ([.int a1])).length) Slot.unset).toArray = ls at hl ⊢
  have hl : lv_has ls 1 [(0, .int a1)] := hl
  refine lv_iload_n hx hb dX0_partG_0 rfl (lv_at hl 0 rfl) ?_
  refine lv_bipush (v := 25) hx hb dX0_partG_1 (by decide) ?_
  refine lv_iushr (v := (a1.toUInt32 >>> ((25 : Int32).toUInt32 &&& Int32.toUInt32 31)).toInt32) hx hb dX0_partG_3 rfl ?_
  exact W.iret (v := (a1.toUInt32 >>> ((25 : Int32).toUInt32 &&& Int32.toUInt32 31)).toInt32) hx hb hr (fun t ht hW => ⟨_, rfl, (by unfold F_partG; rfl), ht⟩) (fun _ h => by cases h) dX0_partG_4

def F_lowImmediate  (a1 : Int32) : Int32 :=
  a1 >>> ((20 : Int32) &&& 31)
set_option maxHeartbeats 4000000 in
set_option maxRecDepth 100000 in
theorem c_lowImmediate (l : Launch) (a1 : Int32) : Met l yX0_lowImmediate wsX0_lowImmediate ({ frames := 0, cells := 0, slots := 0, locals := 0 }) (fun v _ => v = ([.int a1] : List Value).toArray) (vp_Si (fun r : Int32 => r = F_lowImmediate a1)) 0 0 (fun _ => False) := by
  refine Met.ofW (cc := cX0_lowImmediate) (maxL := 1) (ret := (some .int)) (by decide) rfl ?_
  intro p e s m args below meth c s₁ B hml hv
  obtain rfl := hv
  have hx := B.exec
  have hb := B.bytes
  have hr := B.returns
  have hts := atoms_spec (ws := wsX0_lowImmediate) B.pre
  have hown : s.vm.findClass RX0 = some m.cls := findClass_of_methodNamed B.named
  have hlocks := B.notSynchronized
  have hl := lv_entry ([.int a1]) (n := 1) (Nat.le_of_ble_eq_true rfl)
  rw [lg_entry_eq]
  generalize (lg_sl ([.int a1]) ++ List.replicate (1 - (lg_sl ([.int a1])).length) Slot.unset).toArray = ls at hl ⊢
  have hl : lv_has ls 1 [(0, .int a1)] := hl
  refine lv_iload_n hx hb dX0_lowImmediate_0 rfl (lv_at hl 0 rfl) ?_
  refine lv_bipush (v := 20) hx hb dX0_lowImmediate_1 (by decide) ?_
  refine lv_ishr hx hb dX0_lowImmediate_3 ?_
  exact W.iret (v := a1 >>> ((20 : Int32) &&& 31)) hx hb hr (fun t ht hW => ⟨_, rfl, (by unfold F_lowImmediate; rfl), ht⟩) (fun _ h => by cases h) dX0_lowImmediate_4

def F_storeImmediate  (a1 : Int32) : Int32 :=
  ((a1 >>> ((25 : Int32) &&& 31)) <<< ((5 : Int32) &&& 31)) ||| (F_partD a1)
set_option maxHeartbeats 4000000 in
set_option maxRecDepth 100000 in
theorem c_storeImmediate (l : Launch) (a1 : Int32) : Met l yX0_storeImmediate wsX0_storeImmediate ({ frames := 1, cells := 0, slots := 0, locals := 20 }) (fun v _ => v = ([.int a1] : List Value).toArray) (vp_Si (fun r : Int32 => r = F_storeImmediate a1)) 0 0 (fun _ => False) := by
  refine Met.ofW (cc := cX0_storeImmediate) (maxL := 1) (ret := (some .int)) (by decide) rfl ?_
  intro p e s m args below meth c s₁ B hml hv
  obtain rfl := hv
  have hx := B.exec
  have hb := B.bytes
  have hr := B.returns
  have hts := atoms_spec (ws := wsX0_storeImmediate) B.pre
  have hown : s.vm.findClass RX0 = some m.cls := findClass_of_methodNamed B.named
  have hlocks := B.notSynchronized
  have hl := lv_entry ([.int a1]) (n := 1) (Nat.le_of_ble_eq_true rfl)
  rw [lg_entry_eq]
  generalize (lg_sl ([.int a1]) ++ List.replicate (1 - (lg_sl ([.int a1])).length) Slot.unset).toArray = ls at hl ⊢
  have hl : lv_has ls 1 [(0, .int a1)] := hl
  refine lv_iload_n hx hb dX0_storeImmediate_0 rfl (lv_at hl 0 rfl) ?_
  refine lv_bipush (v := 25) hx hb dX0_storeImmediate_1 (by decide) ?_
  refine lv_ishr hx hb dX0_storeImmediate_3 ?_
  refine lv_iconst (v := 5) hx hb dX0_storeImmediate_4 (by decide) ?_
  refine lv_ishl hx hb dX0_storeImmediate_5 ?_
  refine lv_iload_n hx hb dX0_storeImmediate_6 rfl (lv_at hl 0 rfl) ?_
  refine vp_callSi (W.runS (As := [.int a1]) (rest := [.int ((a1 >>> ((25 : Int32) &&& 31)) <<< ((5 : Int32) &&& 31))]) ⟨hx, hb, hml, hown, hts⟩ (c_partD l a1) (cwS 1 hts (gS mL_X0_154 mS_X0_partD mN_X0 mC_X0_partD) rfl rfl rfl (by decide +kernel) ⟨Nat.le_of_ble_eq_true rfl, Nat.le_of_ble_eq_true rfl⟩) preEq rfl rfl hl.1 rfl (lv_room (Nat.le_of_ble_eq_true rfl)) dX0_storeImmediate_7 ⟨Nat.zero_le _, Nat.zero_le _⟩) (fun r_1 hw => ?_)
  subst hw
  refine lv_ior hx hb dX0_storeImmediate_10 ?_
  exact W.iret (v := ((a1 >>> ((25 : Int32) &&& 31)) <<< ((5 : Int32) &&& 31)) ||| (F_partD a1)) hx hb hr (fun t ht hW => ⟨_, rfl, (by unfold F_storeImmediate; rfl), ht⟩) (fun _ h => by cases h) dX0_storeImmediate_11

def F_branchImmediate  (a1 : Int32) : Int32 :=
  ((((a1 >>> ((31 : Int32) &&& 31)) <<< ((12 : Int32) &&& 31)) ||| ((((a1.toUInt32 >>> ((7 : Int32).toUInt32 &&& Int32.toUInt32 31)).toInt32) &&& 1) <<< ((11 : Int32) &&& 31))) ||| ((((a1.toUInt32 >>> ((25 : Int32).toUInt32 &&& Int32.toUInt32 31)).toInt32) &&& 63) <<< ((5 : Int32) &&& 31))) ||| ((((a1.toUInt32 >>> ((8 : Int32).toUInt32 &&& Int32.toUInt32 31)).toInt32) &&& 15) <<< ((1 : Int32) &&& 31))
set_option maxHeartbeats 4000000 in
set_option maxRecDepth 100000 in
theorem c_branchImmediate (l : Launch) (a1 : Int32) : Met l yX0_branchImmediate wsX0_branchImmediate ({ frames := 0, cells := 0, slots := 0, locals := 0 }) (fun v _ => v = ([.int a1] : List Value).toArray) (vp_Si (fun r : Int32 => r = F_branchImmediate a1)) 0 0 (fun _ => False) := by
  refine Met.ofW (cc := cX0_branchImmediate) (maxL := 1) (ret := (some .int)) (by decide) rfl ?_
  intro p e s m args below meth c s₁ B hml hv
  obtain rfl := hv
  have hx := B.exec
  have hb := B.bytes
  have hr := B.returns
  have hts := atoms_spec (ws := wsX0_branchImmediate) B.pre
  have hown : s.vm.findClass RX0 = some m.cls := findClass_of_methodNamed B.named
  have hlocks := B.notSynchronized
  have hl := lv_entry ([.int a1]) (n := 1) (Nat.le_of_ble_eq_true rfl)
  rw [lg_entry_eq]
  generalize (lg_sl ([.int a1]) ++ List.replicate (1 - (lg_sl ([.int a1])).length) Slot.unset).toArray = ls at hl ⊢
  have hl : lv_has ls 1 [(0, .int a1)] := hl
  refine lv_iload_n hx hb dX0_branchImmediate_0 rfl (lv_at hl 0 rfl) ?_
  refine lv_bipush (v := 31) hx hb dX0_branchImmediate_1 (by decide) ?_
  refine lv_ishr hx hb dX0_branchImmediate_3 ?_
  refine lv_bipush (v := 12) hx hb dX0_branchImmediate_4 (by decide) ?_
  refine lv_ishl hx hb dX0_branchImmediate_6 ?_
  refine lv_iload_n hx hb dX0_branchImmediate_7 rfl (lv_at hl 0 rfl) ?_
  refine lv_bipush (v := 7) hx hb dX0_branchImmediate_8 (by decide) ?_
  refine lv_iushr (v := (a1.toUInt32 >>> ((7 : Int32).toUInt32 &&& Int32.toUInt32 31)).toInt32) hx hb dX0_branchImmediate_10 rfl ?_
  refine lv_iconst (v := 1) hx hb dX0_branchImmediate_11 (by decide) ?_
  refine lv_iand hx hb dX0_branchImmediate_12 ?_
  refine lv_bipush (v := 11) hx hb dX0_branchImmediate_13 (by decide) ?_
  refine lv_ishl hx hb dX0_branchImmediate_15 ?_
  refine lv_ior hx hb dX0_branchImmediate_16 ?_
  refine lv_iload_n hx hb dX0_branchImmediate_17 rfl (lv_at hl 0 rfl) ?_
  refine lv_bipush (v := 25) hx hb dX0_branchImmediate_18 (by decide) ?_
  refine lv_iushr (v := (a1.toUInt32 >>> ((25 : Int32).toUInt32 &&& Int32.toUInt32 31)).toInt32) hx hb dX0_branchImmediate_20 rfl ?_
  refine lv_bipush (v := 63) hx hb dX0_branchImmediate_21 (by decide) ?_
  refine lv_iand hx hb dX0_branchImmediate_23 ?_
  refine lv_iconst (v := 5) hx hb dX0_branchImmediate_24 (by decide) ?_
  refine lv_ishl hx hb dX0_branchImmediate_25 ?_
  refine lv_ior hx hb dX0_branchImmediate_26 ?_
  refine lv_iload_n hx hb dX0_branchImmediate_27 rfl (lv_at hl 0 rfl) ?_
  refine lv_bipush (v := 8) hx hb dX0_branchImmediate_28 (by decide) ?_
  refine lv_iushr (v := (a1.toUInt32 >>> ((8 : Int32).toUInt32 &&& Int32.toUInt32 31)).toInt32) hx hb dX0_branchImmediate_30 rfl ?_
  refine lv_bipush (v := 15) hx hb dX0_branchImmediate_31 (by decide) ?_
  refine lv_iand hx hb dX0_branchImmediate_33 ?_
  refine lv_iconst (v := 1) hx hb dX0_branchImmediate_34 (by decide) ?_
  refine lv_ishl hx hb dX0_branchImmediate_35 ?_
  refine lv_ior hx hb dX0_branchImmediate_36 ?_
  exact W.iret (v := ((((a1 >>> ((31 : Int32) &&& 31)) <<< ((12 : Int32) &&& 31)) ||| ((((a1.toUInt32 >>> ((7 : Int32).toUInt32 &&& Int32.toUInt32 31)).toInt32) &&& 1) <<< ((11 : Int32) &&& 31))) ||| ((((a1.toUInt32 >>> ((25 : Int32).toUInt32 &&& Int32.toUInt32 31)).toInt32) &&& 63) <<< ((5 : Int32) &&& 31))) ||| ((((a1.toUInt32 >>> ((8 : Int32).toUInt32 &&& Int32.toUInt32 31)).toInt32) &&& 15) <<< ((1 : Int32) &&& 31))) hx hb hr (fun t ht hW => ⟨_, rfl, (by unfold F_branchImmediate; rfl), ht⟩) (fun _ h => by cases h) dX0_branchImmediate_37

def F_upperImmediate  (a1 : Int32) : Int32 :=
  ((a1.toUInt32 >>> ((12 : Int32).toUInt32 &&& Int32.toUInt32 31)).toInt32) <<< ((12 : Int32) &&& 31)
set_option maxHeartbeats 4000000 in
set_option maxRecDepth 100000 in
theorem c_upperImmediate (l : Launch) (a1 : Int32) : Met l yX0_upperImmediate wsX0_upperImmediate ({ frames := 0, cells := 0, slots := 0, locals := 0 }) (fun v _ => v = ([.int a1] : List Value).toArray) (vp_Si (fun r : Int32 => r = F_upperImmediate a1)) 0 0 (fun _ => False) := by
  refine Met.ofW (cc := cX0_upperImmediate) (maxL := 1) (ret := (some .int)) (by decide) rfl ?_
  intro p e s m args below meth c s₁ B hml hv
  obtain rfl := hv
  have hx := B.exec
  have hb := B.bytes
  have hr := B.returns
  have hts := atoms_spec (ws := wsX0_upperImmediate) B.pre
  have hown : s.vm.findClass RX0 = some m.cls := findClass_of_methodNamed B.named
  have hlocks := B.notSynchronized
  have hl := lv_entry ([.int a1]) (n := 1) (Nat.le_of_ble_eq_true rfl)
  rw [lg_entry_eq]
  generalize (lg_sl ([.int a1]) ++ List.replicate (1 - (lg_sl ([.int a1])).length) Slot.unset).toArray = ls at hl ⊢
  have hl : lv_has ls 1 [(0, .int a1)] := hl
  refine lv_iload_n hx hb dX0_upperImmediate_0 rfl (lv_at hl 0 rfl) ?_
  refine lv_bipush (v := 12) hx hb dX0_upperImmediate_1 (by decide) ?_
  refine lv_iushr (v := (a1.toUInt32 >>> ((12 : Int32).toUInt32 &&& Int32.toUInt32 31)).toInt32) hx hb dX0_upperImmediate_3 rfl ?_
  refine lv_bipush (v := 12) hx hb dX0_upperImmediate_4 (by decide) ?_
  refine lv_ishl hx hb dX0_upperImmediate_6 ?_
  exact W.iret (v := ((a1.toUInt32 >>> ((12 : Int32).toUInt32 &&& Int32.toUInt32 31)).toInt32) <<< ((12 : Int32) &&& 31)) hx hb hr (fun t ht hW => ⟨_, rfl, (by unfold F_upperImmediate; rfl), ht⟩) (fun _ h => by cases h) dX0_upperImmediate_7

def F_jumpImmediate  (a1 : Int32) : Int32 :=
  ((((a1 >>> ((31 : Int32) &&& 31)) <<< ((20 : Int32) &&& 31)) ||| ((((a1.toUInt32 >>> ((12 : Int32).toUInt32 &&& Int32.toUInt32 31)).toInt32) &&& 255) <<< ((12 : Int32) &&& 31))) ||| ((((a1.toUInt32 >>> ((20 : Int32).toUInt32 &&& Int32.toUInt32 31)).toInt32) &&& 1) <<< ((11 : Int32) &&& 31))) ||| ((((a1.toUInt32 >>> ((21 : Int32).toUInt32 &&& Int32.toUInt32 31)).toInt32) &&& 1023) <<< ((1 : Int32) &&& 31))
set_option maxHeartbeats 4000000 in
set_option maxRecDepth 100000 in
theorem c_jumpImmediate (l : Launch) (a1 : Int32) : Met l yX0_jumpImmediate wsX0_jumpImmediate ({ frames := 0, cells := 0, slots := 0, locals := 0 }) (fun v _ => v = ([.int a1] : List Value).toArray) (vp_Si (fun r : Int32 => r = F_jumpImmediate a1)) 0 0 (fun _ => False) := by
  refine Met.ofW (cc := cX0_jumpImmediate) (maxL := 1) (ret := (some .int)) (by decide) rfl ?_
  intro p e s m args below meth c s₁ B hml hv
  obtain rfl := hv
  have hx := B.exec
  have hb := B.bytes
  have hr := B.returns
  have hts := atoms_spec (ws := wsX0_jumpImmediate) B.pre
  have hown : s.vm.findClass RX0 = some m.cls := findClass_of_methodNamed B.named
  have hlocks := B.notSynchronized
  have hl := lv_entry ([.int a1]) (n := 1) (Nat.le_of_ble_eq_true rfl)
  rw [lg_entry_eq]
  generalize (lg_sl ([.int a1]) ++ List.replicate (1 - (lg_sl ([.int a1])).length) Slot.unset).toArray = ls at hl ⊢
  have hl : lv_has ls 1 [(0, .int a1)] := hl
  refine lv_iload_n hx hb dX0_jumpImmediate_0 rfl (lv_at hl 0 rfl) ?_
  refine lv_bipush (v := 31) hx hb dX0_jumpImmediate_1 (by decide) ?_
  refine lv_ishr hx hb dX0_jumpImmediate_3 ?_
  refine lv_bipush (v := 20) hx hb dX0_jumpImmediate_4 (by decide) ?_
  refine lv_ishl hx hb dX0_jumpImmediate_6 ?_
  refine lv_iload_n hx hb dX0_jumpImmediate_7 rfl (lv_at hl 0 rfl) ?_
  refine lv_bipush (v := 12) hx hb dX0_jumpImmediate_8 (by decide) ?_
  refine lv_iushr (v := (a1.toUInt32 >>> ((12 : Int32).toUInt32 &&& Int32.toUInt32 31)).toInt32) hx hb dX0_jumpImmediate_10 rfl ?_
  refine lv_sipush (v := 255) hx hb dX0_jumpImmediate_11 (by decide) ?_
  refine lv_iand hx hb dX0_jumpImmediate_14 ?_
  refine lv_bipush (v := 12) hx hb dX0_jumpImmediate_15 (by decide) ?_
  refine lv_ishl hx hb dX0_jumpImmediate_17 ?_
  refine lv_ior hx hb dX0_jumpImmediate_18 ?_
  refine lv_iload_n hx hb dX0_jumpImmediate_19 rfl (lv_at hl 0 rfl) ?_
  refine lv_bipush (v := 20) hx hb dX0_jumpImmediate_20 (by decide) ?_
  refine lv_iushr (v := (a1.toUInt32 >>> ((20 : Int32).toUInt32 &&& Int32.toUInt32 31)).toInt32) hx hb dX0_jumpImmediate_22 rfl ?_
  refine lv_iconst (v := 1) hx hb dX0_jumpImmediate_23 (by decide) ?_
  refine lv_iand hx hb dX0_jumpImmediate_24 ?_
  refine lv_bipush (v := 11) hx hb dX0_jumpImmediate_25 (by decide) ?_
  refine lv_ishl hx hb dX0_jumpImmediate_27 ?_
  refine lv_ior hx hb dX0_jumpImmediate_28 ?_
  refine lv_iload_n hx hb dX0_jumpImmediate_29 rfl (lv_at hl 0 rfl) ?_
  refine lv_bipush (v := 21) hx hb dX0_jumpImmediate_30 (by decide) ?_
  refine lv_iushr (v := (a1.toUInt32 >>> ((21 : Int32).toUInt32 &&& Int32.toUInt32 31)).toInt32) hx hb dX0_jumpImmediate_32 rfl ?_
  refine lv_sipush (v := 1023) hx hb dX0_jumpImmediate_33 (by decide) ?_
  refine lv_iand hx hb dX0_jumpImmediate_36 ?_
  refine lv_iconst (v := 1) hx hb dX0_jumpImmediate_37 (by decide) ?_
  refine lv_ishl hx hb dX0_jumpImmediate_38 ?_
  refine lv_ior hx hb dX0_jumpImmediate_39 ?_
  exact W.iret (v := ((((a1 >>> ((31 : Int32) &&& 31)) <<< ((20 : Int32) &&& 31)) ||| ((((a1.toUInt32 >>> ((12 : Int32).toUInt32 &&& Int32.toUInt32 31)).toInt32) &&& 255) <<< ((12 : Int32) &&& 31))) ||| ((((a1.toUInt32 >>> ((20 : Int32).toUInt32 &&& Int32.toUInt32 31)).toInt32) &&& 1) <<< ((11 : Int32) &&& 31))) ||| ((((a1.toUInt32 >>> ((21 : Int32).toUInt32 &&& Int32.toUInt32 31)).toInt32) &&& 1023) <<< ((1 : Int32) &&& 31))) hx hb hr (fun t ht hW => ⟨_, rfl, (by unfold F_jumpImmediate; rfl), ht⟩) (fun _ h => by cases h) dX0_jumpImmediate_40

def F_isRegister  (a1 : Int32) : Int32 :=
  if a1 < 0 then
    0
  else
    if (32 : Int32) ≤ a1 then
      0
    else
      1
set_option maxHeartbeats 4000000 in
set_option maxRecDepth 100000 in
theorem c_isRegister (l : Launch) (a1 : Int32) : Met l yX0_isRegister wsX0_isRegister ({ frames := 0, cells := 0, slots := 0, locals := 0 }) (fun v _ => v = ([.int a1] : List Value).toArray) (vp_Si (fun r : Int32 => narrow .boolean (.int r) = .int r ∧ r = F_isRegister a1)) 0 0 (fun _ => False) := by
  refine Met.ofW (cc := cX0_isRegister) (maxL := 1) (ret := (some .boolean)) (by decide) rfl ?_
  intro p e s m args below meth c s₁ B hml hv
  obtain rfl := hv
  have hx := B.exec
  have hb := B.bytes
  have hr := B.returns
  have hts := atoms_spec (ws := wsX0_isRegister) B.pre
  have hown : s.vm.findClass RX0 = some m.cls := findClass_of_methodNamed B.named
  have hlocks := B.notSynchronized
  have hl := lv_entry ([.int a1]) (n := 1) (Nat.le_of_ble_eq_true rfl)
  rw [lg_entry_eq]
  generalize (lg_sl ([.int a1]) ++ List.replicate (1 - (lg_sl ([.int a1])).length) Slot.unset).toArray = ls at hl ⊢
  have hl : lv_has ls 1 [(0, .int a1)] := hl
  refine lv_iload_n hx hb dX0_isRegister_0 rfl (lv_at hl 0 rfl) ?_
  refine lv_if_lt (tgt := 14) hx hb dX0_isRegister_1 (by decide) (fun c_1 => ?_) (fun c_1 => ?_)
  · refine lv_iconst (v := 0) hx hb dX0_isRegister_14 (by decide) ?_
    exact W.zret (v := 0) (ty := .boolean) hx hb hr rfl (fun t ht hW => ⟨_, rfl, ⟨rfl, (by unfold F_isRegister; rw [if_pos c_1])⟩, ht⟩) (fun _ h => by cases h) dX0_isRegister_15
  · refine lv_iload_n hx hb dX0_isRegister_4 rfl (lv_at hl 0 rfl) ?_
    refine lv_bipush (v := 32) hx hb dX0_isRegister_5 (by decide) ?_
    refine lv_icmp_ge (tgt := 14) hx hb dX0_isRegister_7 (by decide) (fun c_2 => ?_) (fun c_2 => ?_)
    · refine lv_iconst (v := 0) hx hb dX0_isRegister_14 (by decide) ?_
      exact W.zret (v := 0) (ty := .boolean) hx hb hr rfl (fun t ht hW => ⟨_, rfl, ⟨rfl, (by unfold F_isRegister; rw [if_neg c_1, if_pos c_2])⟩, ht⟩) (fun _ h => by cases h) dX0_isRegister_15
    · refine lv_iconst (v := 1) hx hb dX0_isRegister_10 (by decide) ?_
      refine lv_goto (tgt := 15) hx hb dX0_isRegister_11 (by decide) ?_
      exact W.zret (v := 1) (ty := .boolean) hx hb hr rfl (fun t ht hW => ⟨_, rfl, ⟨rfl, (by unfold F_isRegister; rw [if_neg c_1, if_neg c_2])⟩, ht⟩) (fun _ h => by cases h) dX0_isRegister_15

def F_isInPages  (a1 : Int32) : Int32 :=
  if a1 < 0 then
    0
  else
    if (16384 : Int32) ≤ a1 then
      0
    else
      1
set_option maxHeartbeats 4000000 in
set_option maxRecDepth 100000 in
theorem c_isInPages (l : Launch) (a1 : Int32) : Met l yX0_isInPages wsX0_isInPages ({ frames := 0, cells := 0, slots := 0, locals := 0 }) (fun v _ => v = ([.int a1] : List Value).toArray) (vp_Si (fun r : Int32 => narrow .boolean (.int r) = .int r ∧ r = F_isInPages a1)) 0 0 (fun _ => False) := by
  refine Met.ofW (cc := cX0_isInPages) (maxL := 1) (ret := (some .boolean)) (by decide) rfl ?_
  intro p e s m args below meth c s₁ B hml hv
  obtain rfl := hv
  have hx := B.exec
  have hb := B.bytes
  have hr := B.returns
  have hts := atoms_spec (ws := wsX0_isInPages) B.pre
  have hown : s.vm.findClass RX0 = some m.cls := findClass_of_methodNamed B.named
  have hlocks := B.notSynchronized
  have hl := lv_entry ([.int a1]) (n := 1) (Nat.le_of_ble_eq_true rfl)
  rw [lg_entry_eq]
  generalize (lg_sl ([.int a1]) ++ List.replicate (1 - (lg_sl ([.int a1])).length) Slot.unset).toArray = ls at hl ⊢
  have hl : lv_has ls 1 [(0, .int a1)] := hl
  refine lv_iload_n hx hb dX0_isInPages_0 rfl (lv_at hl 0 rfl) ?_
  refine lv_if_lt (tgt := 15) hx hb dX0_isInPages_1 (by decide) (fun c_1 => ?_) (fun c_1 => ?_)
  · refine lv_iconst (v := 0) hx hb dX0_isInPages_15 (by decide) ?_
    exact W.zret (v := 0) (ty := .boolean) hx hb hr rfl (fun t ht hW => ⟨_, rfl, ⟨rfl, (by unfold F_isInPages; rw [if_pos c_1])⟩, ht⟩) (fun _ h => by cases h) dX0_isInPages_16
  · refine lv_iload_n hx hb dX0_isInPages_4 rfl (lv_at hl 0 rfl) ?_
    refine lv_sipush (v := 16384) hx hb dX0_isInPages_5 (by decide) ?_
    refine lv_icmp_ge (tgt := 15) hx hb dX0_isInPages_8 (by decide) (fun c_2 => ?_) (fun c_2 => ?_)
    · refine lv_iconst (v := 0) hx hb dX0_isInPages_15 (by decide) ?_
      exact W.zret (v := 0) (ty := .boolean) hx hb hr rfl (fun t ht hW => ⟨_, rfl, ⟨rfl, (by unfold F_isInPages; rw [if_neg c_1, if_pos c_2])⟩, ht⟩) (fun _ h => by cases h) dX0_isInPages_16
    · refine lv_iconst (v := 1) hx hb dX0_isInPages_11 (by decide) ?_
      refine lv_goto (tgt := 16) hx hb dX0_isInPages_12 (by decide) ?_
      exact W.zret (v := 1) (ty := .boolean) hx hb hr rfl (fun t ht hW => ⟨_, rfl, ⟨rfl, (by unfold F_isInPages; rw [if_neg c_1, if_neg c_2])⟩, ht⟩) (fun _ h => by cases h) dX0_isInPages_16

def F_isCrooked  (a1 : Int32) (a2 : Int32) : Int32 :=
  if (a1 &&& (a2 - 1)) = 0 then
    0
  else
    1
set_option maxHeartbeats 4000000 in
set_option maxRecDepth 100000 in
theorem c_isCrooked (l : Launch) (a1 : Int32) (a2 : Int32) : Met l yX0_isCrooked wsX0_isCrooked ({ frames := 0, cells := 0, slots := 0, locals := 0 }) (fun v _ => v = ([.int a1, .int a2] : List Value).toArray) (vp_Si (fun r : Int32 => narrow .boolean (.int r) = .int r ∧ r = F_isCrooked a1 a2)) 0 0 (fun _ => False) := by
  refine Met.ofW (cc := cX0_isCrooked) (maxL := 2) (ret := (some .boolean)) (by decide) rfl ?_
  intro p e s m args below meth c s₁ B hml hv
  obtain rfl := hv
  have hx := B.exec
  have hb := B.bytes
  have hr := B.returns
  have hts := atoms_spec (ws := wsX0_isCrooked) B.pre
  have hown : s.vm.findClass RX0 = some m.cls := findClass_of_methodNamed B.named
  have hlocks := B.notSynchronized
  have hl := lv_entry ([.int a1, .int a2]) (n := 2) (Nat.le_of_ble_eq_true rfl)
  rw [lg_entry_eq]
  generalize (lg_sl ([.int a1, .int a2]) ++ List.replicate (2 - (lg_sl ([.int a1, .int a2])).length) Slot.unset).toArray = ls at hl ⊢
  have hl : lv_has ls 2 [(0, .int a1), (1, .int a2)] := hl
  refine lv_iload_n hx hb dX0_isCrooked_0 rfl (lv_at hl 0 rfl) ?_
  refine lv_iload_n hx hb dX0_isCrooked_1 rfl (lv_at hl 1 rfl) ?_
  refine lv_iconst (v := 1) hx hb dX0_isCrooked_2 (by decide) ?_
  refine lv_isub hx hb dX0_isCrooked_3 ?_
  refine lv_iand hx hb dX0_isCrooked_4 ?_
  refine lv_if_eq (tgt := 12) hx hb dX0_isCrooked_5 (by decide) (fun c_1 => ?_) (fun c_1 => ?_)
  · refine lv_iconst (v := 0) hx hb dX0_isCrooked_12 (by decide) ?_
    exact W.zret (v := 0) (ty := .boolean) hx hb hr rfl (fun t ht hW => ⟨_, rfl, ⟨rfl, (by unfold F_isCrooked; rw [if_pos c_1])⟩, ht⟩) (fun _ h => by cases h) dX0_isCrooked_13
  · refine lv_iconst (v := 1) hx hb dX0_isCrooked_8 (by decide) ?_
    refine lv_goto (tgt := 13) hx hb dX0_isCrooked_9 (by decide) ?_
    exact W.zret (v := 1) (ty := .boolean) hx hb hr rfl (fun t ht hW => ⟨_, rfl, ⟨rfl, (by unfold F_isCrooked; rw [if_neg c_1])⟩, ht⟩) (fun _ h => by cases h) dX0_isCrooked_13

def F_unsigned  (a1 : Int32) : Int64 :=
  a1.toInt64 &&& 4294967295
set_option maxHeartbeats 4000000 in
set_option maxRecDepth 100000 in
theorem c_unsigned (l : Launch) (a1 : Int32) : Met l yX0_unsigned wsX0_unsigned ({ frames := 0, cells := 0, slots := 0, locals := 0 }) (fun v _ => v = ([.int a1] : List Value).toArray) (vp_Sl (fun r : Int64 => r = F_unsigned a1)) 0 0 (fun _ => False) := by
  refine Met.ofW (cc := cX0_unsigned) (maxL := 1) (ret := (some .long)) (by decide) rfl ?_
  intro p e s m args below meth c s₁ B hml hv
  obtain rfl := hv
  have hx := B.exec
  have hb := B.bytes
  have hr := B.returns
  have hts := atoms_spec (ws := wsX0_unsigned) B.pre
  have hown : s.vm.findClass RX0 = some m.cls := findClass_of_methodNamed B.named
  have hlocks := B.notSynchronized
  have hl := lv_entry ([.int a1]) (n := 1) (Nat.le_of_ble_eq_true rfl)
  rw [lg_entry_eq]
  generalize (lg_sl ([.int a1]) ++ List.replicate (1 - (lg_sl ([.int a1])).length) Slot.unset).toArray = ls at hl ⊢
  have hl : lv_has ls 1 [(0, .int a1)] := hl
  refine lv_iload_n hx hb dX0_unsigned_0 rfl (lv_at hl 0 rfl) ?_
  refine lv_i2l (v := a1.toInt64) hx hb dX0_unsigned_1 rfl ?_
  refine lv_ldc2 (v := 4294967295) hx hb hown (hts _ (gcons mK_X0_157)) dX0_unsigned_2 ?_
  refine lv_land hx hb dX0_unsigned_5 ?_
  exact W.lret (v := a1.toInt64 &&& 4294967295) hx hb hr (fun t ht hW => ⟨_, rfl, (by unfold F_unsigned; rfl), ht⟩) (fun _ h => by cases h) dX0_unsigned_6

def F_compare  (a1 : Int32) (a2 : Int32) (a3 : Int32) : Int32 :=
  if a1 = 0 then
    if a2 = a3 then
      1
    else
      0
  else
    if a1 = 4 then
      if a3 ≤ a2 then
        0
      else
        1
    else
      if 0 ≤ (lg_cmp (F_unsigned a2) (F_unsigned a3)) then
        0
      else
        1
set_option maxHeartbeats 4000000 in
set_option maxRecDepth 100000 in
theorem c_compare (l : Launch) (a1 : Int32) (a2 : Int32) (a3 : Int32) : Met l yX0_compare wsX0_compare ({ frames := 1, cells := 0, slots := 0, locals := 20 }) (fun v _ => v = ([.int a1, .int a2, .int a3] : List Value).toArray) (vp_Si (fun r : Int32 => narrow .boolean (.int r) = .int r ∧ r = F_compare a1 a2 a3)) 0 0 (fun _ => False) := by
  refine Met.ofW (cc := cX0_compare) (maxL := 3) (ret := (some .boolean)) (by decide) rfl ?_
  intro p e s m args below meth c s₁ B hml hv
  obtain rfl := hv
  have hx := B.exec
  have hb := B.bytes
  have hr := B.returns
  have hts := atoms_spec (ws := wsX0_compare) B.pre
  have hown : s.vm.findClass RX0 = some m.cls := findClass_of_methodNamed B.named
  have hlocks := B.notSynchronized
  have hl := lv_entry ([.int a1, .int a2, .int a3]) (n := 3) (Nat.le_of_ble_eq_true rfl)
  rw [lg_entry_eq]
  generalize (lg_sl ([.int a1, .int a2, .int a3]) ++ List.replicate (3 - (lg_sl ([.int a1, .int a2, .int a3])).length) Slot.unset).toArray = ls at hl ⊢
  have hl : lv_has ls 3 [(0, .int a1), (1, .int a2), (2, .int a3)] := hl
  refine lv_iload_n hx hb dX0_compare_0 rfl (lv_at hl 0 rfl) ?_
  by_cases c_1 : a1 = 0
  · refine lv_lookup (tgt := 28) (off := 27) hx hb dX0_compare_1 (by decide) (by rw [c_1] <;> rfl) (by decide) ?_
    refine lv_iload_n hx hb dX0_compare_28 rfl (lv_at hl 1 rfl) ?_
    refine lv_iload_n hx hb dX0_compare_29 rfl (lv_at hl 2 rfl) ?_
    refine lv_icmp_ne (tgt := 37) hx hb dX0_compare_30 (by decide) (fun c_2 => ?_) (fun c_2 => ?_)
    · refine lv_iconst (v := 0) hx hb dX0_compare_37 (by decide) ?_
      exact W.zret (v := 0) (ty := .boolean) hx hb hr rfl (fun t ht hW => ⟨_, rfl, ⟨rfl, (by unfold F_compare; rw [if_pos c_1, if_neg c_2])⟩, ht⟩) (fun _ h => by cases h) dX0_compare_38
    · refine lv_iconst (v := 1) hx hb dX0_compare_33 (by decide) ?_
      refine lv_goto (tgt := 38) hx hb dX0_compare_34 (by decide) ?_
      exact W.zret (v := 1) (ty := .boolean) hx hb hr rfl (fun t ht hW => ⟨_, rfl, ⟨rfl, (by unfold F_compare; rw [if_pos c_1, if_pos c_2])⟩, ht⟩) (fun _ h => by cases h) dX0_compare_38
  · by_cases c_3 : a1 = 4
    · refine lv_lookup (tgt := 39) (off := 38) hx hb dX0_compare_1 (by decide) (by rw [c_3] <;> rfl) (by decide) ?_
      refine lv_iload_n hx hb dX0_compare_39 rfl (lv_at hl 1 rfl) ?_
      refine lv_iload_n hx hb dX0_compare_40 rfl (lv_at hl 2 rfl) ?_
      refine lv_icmp_ge (tgt := 48) hx hb dX0_compare_41 (by decide) (fun c_4 => ?_) (fun c_4 => ?_)
      · refine lv_iconst (v := 0) hx hb dX0_compare_48 (by decide) ?_
        exact W.zret (v := 0) (ty := .boolean) hx hb hr rfl (fun t ht hW => ⟨_, rfl, ⟨rfl, (by unfold F_compare; rw [if_neg c_1, if_pos c_3, if_pos c_4])⟩, ht⟩) (fun _ h => by cases h) dX0_compare_49
      · refine lv_iconst (v := 1) hx hb dX0_compare_44 (by decide) ?_
        refine lv_goto (tgt := 49) hx hb dX0_compare_45 (by decide) ?_
        exact W.zret (v := 1) (ty := .boolean) hx hb hr rfl (fun t ht hW => ⟨_, rfl, ⟨rfl, (by unfold F_compare; rw [if_neg c_1, if_pos c_3, if_neg c_4])⟩, ht⟩) (fun _ h => by cases h) dX0_compare_49
    · refine lv_lookup (tgt := 50) (off := 49) hx hb dX0_compare_1 (by decide) (by rw [lv_osw c_1 (by decide), lv_osw c_3 (by decide)] <;> rfl) (by decide) ?_
      refine lv_iload_n hx hb dX0_compare_50 rfl (lv_at hl 1 rfl) ?_
      refine vp_callSl (W.runS (As := [.int a2]) (rest := []) ⟨hx, hb, hml, hown, hts⟩ (c_unsigned l a2) (cwS 1 hts (gS mL_X0_159 mS_X0_unsigned mN_X0 mC_X0_unsigned) rfl rfl rfl (by decide +kernel) ⟨Nat.le_of_ble_eq_true rfl, Nat.le_of_ble_eq_true rfl⟩) preEq rfl rfl hl.1 rfl (lv_room (Nat.le_of_ble_eq_true rfl)) dX0_compare_51 ⟨Nat.zero_le _, Nat.zero_le _⟩) (fun r_5 hw => ?_)
      subst hw
      refine lv_iload_n hx hb dX0_compare_54 rfl (lv_at hl 2 rfl) ?_
      refine vp_callSl (W.runS (As := [.int a3]) (rest := [.long (F_unsigned a2)]) ⟨hx, hb, hml, hown, hts⟩ (c_unsigned l a3) (cwS 1 hts (gS mL_X0_159 mS_X0_unsigned mN_X0 mC_X0_unsigned) rfl rfl rfl (by decide +kernel) ⟨Nat.le_of_ble_eq_true rfl, Nat.le_of_ble_eq_true rfl⟩) preEq rfl rfl hl.1 rfl (lv_room (Nat.le_of_ble_eq_true rfl)) dX0_compare_55 ⟨Nat.zero_le _, Nat.zero_le _⟩) (fun r_6 hw => ?_)
      subst hw
      refine W.lcmp hx hb dX0_compare_58 ?_
      refine lv_if_ge (tgt := 66) hx hb dX0_compare_59 (by decide) (fun c_7 => ?_) (fun c_7 => ?_)
      · refine lv_iconst (v := 0) hx hb dX0_compare_66 (by decide) ?_
        exact W.zret (v := 0) (ty := .boolean) hx hb hr rfl (fun t ht hW => ⟨_, rfl, ⟨rfl, (by unfold F_compare; rw [if_neg c_1, if_neg c_3, if_pos c_7])⟩, ht⟩) (fun _ h => by cases h) dX0_compare_67
      · refine lv_iconst (v := 1) hx hb dX0_compare_62 (by decide) ?_
        refine lv_goto (tgt := 67) hx hb dX0_compare_63 (by decide) ?_
        exact W.zret (v := 1) (ty := .boolean) hx hb hr rfl (fun t ht hW => ⟨_, rfl, ⟨rfl, (by unfold F_compare; rw [if_neg c_1, if_neg c_3, if_neg c_7])⟩, ht⟩) (fun _ h => by cases h) dX0_compare_67

def F_narrow  (a1 : Int32) (a2 : Int32) : Int32 :=
  if a1 = 0 then
    a2.toInt8.toInt32
  else
    if a1 = 1 then
      a2.toInt16.toInt32
    else
      if a1 = 2 then
        a2
      else
        if a1 = 3 then
          a2
        else
          if a1 = 4 then
            a2 &&& 255
          else
            if a1 = 5 then
              a2 &&& 65535
            else
              a2
set_option maxHeartbeats 4000000 in
set_option maxRecDepth 100000 in
theorem c_narrow (l : Launch) (a1 : Int32) (a2 : Int32) : Met l yX0_narrow wsX0_narrow ({ frames := 0, cells := 0, slots := 0, locals := 0 }) (fun v _ => v = ([.int a1, .int a2] : List Value).toArray) (vp_Si (fun r : Int32 => r = F_narrow a1 a2)) 0 0 (fun _ => False) := by
  refine Met.ofW (cc := cX0_narrow) (maxL := 2) (ret := (some .int)) (by decide) rfl ?_
  intro p e s m args below meth c s₁ B hml hv
  obtain rfl := hv
  have hx := B.exec
  have hb := B.bytes
  have hr := B.returns
  have hts := atoms_spec (ws := wsX0_narrow) B.pre
  have hown : s.vm.findClass RX0 = some m.cls := findClass_of_methodNamed B.named
  have hlocks := B.notSynchronized
  have hl := lv_entry ([.int a1, .int a2]) (n := 2) (Nat.le_of_ble_eq_true rfl)
  rw [lg_entry_eq]
  generalize (lg_sl ([.int a1, .int a2]) ++ List.replicate (2 - (lg_sl ([.int a1, .int a2])).length) Slot.unset).toArray = ls at hl ⊢
  have hl : lv_has ls 2 [(0, .int a1), (1, .int a2)] := hl
  refine lv_iload_n hx hb dX0_narrow_0 rfl (lv_at hl 0 rfl) ?_
  by_cases c_1 : a1 = 0
  · refine lv_tableIn (tgt := 40) (off := 39) hx hb dX0_narrow_1 (by rw [c_1]; decide) (by rw [c_1]; decide) (by rw [c_1] <;> rfl) (by decide) ?_
    refine lv_iload_n hx hb dX0_narrow_40 rfl (lv_at hl 1 rfl) ?_
    refine lv_i2b (v := a2.toInt8.toInt32) hx hb dX0_narrow_41 rfl ?_
    exact W.iret (v := a2.toInt8.toInt32) hx hb hr (fun t ht hW => ⟨_, rfl, (by unfold F_narrow; rw [if_pos c_1]), ht⟩) (fun _ h => by cases h) dX0_narrow_42
  · by_cases c_2 : a1 = 1
    · refine lv_tableIn (tgt := 43) (off := 42) hx hb dX0_narrow_1 (by rw [c_2]; decide) (by rw [c_2]; decide) (by rw [c_2] <;> rfl) (by decide) ?_
      refine lv_iload_n hx hb dX0_narrow_43 rfl (lv_at hl 1 rfl) ?_
      refine lv_i2s (v := a2.toInt16.toInt32) hx hb dX0_narrow_44 rfl ?_
      exact W.iret (v := a2.toInt16.toInt32) hx hb hr (fun t ht hW => ⟨_, rfl, (by unfold F_narrow; rw [if_neg c_1, if_pos c_2]), ht⟩) (fun _ h => by cases h) dX0_narrow_45
    · by_cases c_3 : a1 = 2
      · refine lv_tableIn (tgt := 57) (off := 56) hx hb dX0_narrow_1 (by rw [c_3]; decide) (by rw [c_3]; decide) (by rw [c_3] <;> rfl) (by decide) ?_
        refine lv_iload_n hx hb dX0_narrow_57 rfl (lv_at hl 1 rfl) ?_
        exact W.iret (v := a2) hx hb hr (fun t ht hW => ⟨_, rfl, (by unfold F_narrow; rw [if_neg c_1, if_neg c_2, if_pos c_3]), ht⟩) (fun _ h => by cases h) dX0_narrow_58
      · by_cases c_4 : a1 = 3
        · refine lv_tableIn (tgt := 57) (off := 56) hx hb dX0_narrow_1 (by rw [c_4]; decide) (by rw [c_4]; decide) (by rw [c_4] <;> rfl) (by decide) ?_
          refine lv_iload_n hx hb dX0_narrow_57 rfl (lv_at hl 1 rfl) ?_
          exact W.iret (v := a2) hx hb hr (fun t ht hW => ⟨_, rfl, (by unfold F_narrow; rw [if_neg c_1, if_neg c_2, if_neg c_3, if_pos c_4]), ht⟩) (fun _ h => by cases h) dX0_narrow_58
        · by_cases c_5 : a1 = 4
          · refine lv_tableIn (tgt := 46) (off := 45) hx hb dX0_narrow_1 (by rw [c_5]; decide) (by rw [c_5]; decide) (by rw [c_5] <;> rfl) (by decide) ?_
            refine lv_iload_n hx hb dX0_narrow_46 rfl (lv_at hl 1 rfl) ?_
            refine lv_sipush (v := 255) hx hb dX0_narrow_47 (by decide) ?_
            refine lv_iand hx hb dX0_narrow_50 ?_
            exact W.iret (v := a2 &&& 255) hx hb hr (fun t ht hW => ⟨_, rfl, (by unfold F_narrow; rw [if_neg c_1, if_neg c_2, if_neg c_3, if_neg c_4, if_pos c_5]), ht⟩) (fun _ h => by cases h) dX0_narrow_51
          · by_cases c_6 : a1 = 5
            · refine lv_tableIn (tgt := 52) (off := 51) hx hb dX0_narrow_1 (by rw [c_6]; decide) (by rw [c_6]; decide) (by rw [c_6] <;> rfl) (by decide) ?_
              refine lv_iload_n hx hb dX0_narrow_52 rfl (lv_at hl 1 rfl) ?_
              refine lv_ldc (v := 65535) hx hb hown (hts _ (gcons mK_X0_163)) dX0_narrow_53 ?_
              refine lv_iand hx hb dX0_narrow_55 ?_
              exact W.iret (v := a2 &&& 65535) hx hb hr (fun t ht hW => ⟨_, rfl, (by unfold F_narrow; rw [if_neg c_1, if_neg c_2, if_neg c_3, if_neg c_4, if_neg c_5, if_pos c_6]), ht⟩) (fun _ h => by cases h) dX0_narrow_56
            · have tc_1 := lv_neT (a := 0) c_1 (by decide)
              have tc_2 := lv_neT (a := 1) c_2 (by decide)
              have tc_3 := lv_neT (a := 2) c_3 (by decide)
              have tc_4 := lv_neT (a := 3) c_4 (by decide)
              have tc_5 := lv_neT (a := 4) c_5 (by decide)
              have tc_6 := lv_neT (a := 5) c_6 (by decide)
              refine lv_tableOut (tgt := 57) hx hb dX0_narrow_1 (by omega) (by decide) ?_
              refine lv_iload_n hx hb dX0_narrow_57 rfl (lv_at hl 1 rfl) ?_
              exact W.iret (v := a2) hx hb hr (fun t ht hW => ⟨_, rfl, (by unfold F_narrow; rw [if_neg c_1, if_neg c_2, if_neg c_3, if_neg c_4, if_neg c_5, if_neg c_6]), ht⟩) (fun _ h => by cases h) dX0_narrow_58

def F_compute  (a1 : Int32) (a2 : Int32) (a3 : Int32) : Int32 :=
  if a1 = 0 then
    a2 + a3
  else
    if a1 = 1 then
      a2 <<< ((a3 &&& 31) &&& 31)
    else
      if a1 = 2 then
        if a3 ≤ a2 then
          0
        else
          1
      else
        if a1 = 3 then
          if 0 ≤ (lg_cmp (F_unsigned a2) (F_unsigned a3)) then
            0
          else
            1
        else
          if a1 = 4 then
            a2 ^^^ a3
          else
            if a1 = 5 then
              (a2.toUInt32 >>> ((a3 &&& 31).toUInt32 &&& Int32.toUInt32 31)).toInt32
            else
              if a1 = 6 then
                a2 ||| a3
              else
                a2 &&& a3
set_option maxHeartbeats 4000000 in
set_option maxRecDepth 100000 in
theorem c_compute (l : Launch) (a1 : Int32) (a2 : Int32) (a3 : Int32) : Met l yX0_compute wsX0_compute ({ frames := 1, cells := 0, slots := 0, locals := 20 }) (fun v _ => v = ([.int a1, .int a2, .int a3] : List Value).toArray) (vp_Si (fun r : Int32 => r = F_compute a1 a2 a3)) 0 0 (fun _ => False) := by
  refine Met.ofW (cc := cX0_compute) (maxL := 3) (ret := (some .int)) (by decide) rfl ?_
  intro p e s m args below meth c s₁ B hml hv
  obtain rfl := hv
  have hx := B.exec
  have hb := B.bytes
  have hr := B.returns
  have hts := atoms_spec (ws := wsX0_compute) B.pre
  have hown : s.vm.findClass RX0 = some m.cls := findClass_of_methodNamed B.named
  have hlocks := B.notSynchronized
  have hl := lv_entry ([.int a1, .int a2, .int a3]) (n := 3) (Nat.le_of_ble_eq_true rfl)
  rw [lg_entry_eq]
  generalize (lg_sl ([.int a1, .int a2, .int a3]) ++ List.replicate (3 - (lg_sl ([.int a1, .int a2, .int a3])).length) Slot.unset).toArray = ls at hl ⊢
  have hl : lv_has ls 3 [(0, .int a1), (1, .int a2), (2, .int a3)] := hl
  refine lv_iload_n hx hb dX0_compute_0 rfl (lv_at hl 0 rfl) ?_
  by_cases c_1 : a1 = 0
  · refine lv_tableIn (tgt := 44) (off := 43) hx hb dX0_compute_1 (by rw [c_1]; decide) (by rw [c_1]; decide) (by rw [c_1] <;> rfl) (by decide) ?_
    refine lv_iload_n hx hb dX0_compute_44 rfl (lv_at hl 1 rfl) ?_
    refine lv_iload_n hx hb dX0_compute_45 rfl (lv_at hl 2 rfl) ?_
    refine lv_iadd hx hb dX0_compute_46 ?_
    exact W.iret (v := a2 + a3) hx hb hr (fun t ht hW => ⟨_, rfl, (by unfold F_compute; rw [if_pos c_1]), ht⟩) (fun _ h => by cases h) dX0_compute_47
  · by_cases c_2 : a1 = 1
    · refine lv_tableIn (tgt := 48) (off := 47) hx hb dX0_compute_1 (by rw [c_2]; decide) (by rw [c_2]; decide) (by rw [c_2] <;> rfl) (by decide) ?_
      refine lv_iload_n hx hb dX0_compute_48 rfl (lv_at hl 1 rfl) ?_
      refine lv_iload_n hx hb dX0_compute_49 rfl (lv_at hl 2 rfl) ?_
      refine lv_bipush (v := 31) hx hb dX0_compute_50 (by decide) ?_
      refine lv_iand hx hb dX0_compute_52 ?_
      refine lv_ishl hx hb dX0_compute_53 ?_
      exact W.iret (v := a2 <<< ((a3 &&& 31) &&& 31)) hx hb hr (fun t ht hW => ⟨_, rfl, (by unfold F_compute; rw [if_neg c_1, if_pos c_2]), ht⟩) (fun _ h => by cases h) dX0_compute_54
    · by_cases c_3 : a1 = 2
      · refine lv_tableIn (tgt := 55) (off := 54) hx hb dX0_compute_1 (by rw [c_3]; decide) (by rw [c_3]; decide) (by rw [c_3] <;> rfl) (by decide) ?_
        refine lv_iload_n hx hb dX0_compute_55 rfl (lv_at hl 1 rfl) ?_
        refine lv_iload_n hx hb dX0_compute_56 rfl (lv_at hl 2 rfl) ?_
        refine lv_icmp_ge (tgt := 64) hx hb dX0_compute_57 (by decide) (fun c_4 => ?_) (fun c_4 => ?_)
        · refine lv_iconst (v := 0) hx hb dX0_compute_64 (by decide) ?_
          exact W.iret (v := 0) hx hb hr (fun t ht hW => ⟨_, rfl, (by unfold F_compute; rw [if_neg c_1, if_neg c_2, if_pos c_3, if_pos c_4]), ht⟩) (fun _ h => by cases h) dX0_compute_65
        · refine lv_iconst (v := 1) hx hb dX0_compute_60 (by decide) ?_
          refine lv_goto (tgt := 65) hx hb dX0_compute_61 (by decide) ?_
          exact W.iret (v := 1) hx hb hr (fun t ht hW => ⟨_, rfl, (by unfold F_compute; rw [if_neg c_1, if_neg c_2, if_pos c_3, if_neg c_4]), ht⟩) (fun _ h => by cases h) dX0_compute_65
      · by_cases c_5 : a1 = 3
        · refine lv_tableIn (tgt := 66) (off := 65) hx hb dX0_compute_1 (by rw [c_5]; decide) (by rw [c_5]; decide) (by rw [c_5] <;> rfl) (by decide) ?_
          refine lv_iload_n hx hb dX0_compute_66 rfl (lv_at hl 1 rfl) ?_
          refine vp_callSl (W.runS (As := [.int a2]) (rest := []) ⟨hx, hb, hml, hown, hts⟩ (c_unsigned l a2) (cwS 1 hts (gS mL_X0_159 mS_X0_unsigned mN_X0 mC_X0_unsigned) rfl rfl rfl (by decide +kernel) ⟨Nat.le_of_ble_eq_true rfl, Nat.le_of_ble_eq_true rfl⟩) preEq rfl rfl hl.1 rfl (lv_room (Nat.le_of_ble_eq_true rfl)) dX0_compute_67 ⟨Nat.zero_le _, Nat.zero_le _⟩) (fun r_6 hw => ?_)
          subst hw
          refine lv_iload_n hx hb dX0_compute_70 rfl (lv_at hl 2 rfl) ?_
          refine vp_callSl (W.runS (As := [.int a3]) (rest := [.long (F_unsigned a2)]) ⟨hx, hb, hml, hown, hts⟩ (c_unsigned l a3) (cwS 1 hts (gS mL_X0_159 mS_X0_unsigned mN_X0 mC_X0_unsigned) rfl rfl rfl (by decide +kernel) ⟨Nat.le_of_ble_eq_true rfl, Nat.le_of_ble_eq_true rfl⟩) preEq rfl rfl hl.1 rfl (lv_room (Nat.le_of_ble_eq_true rfl)) dX0_compute_71 ⟨Nat.zero_le _, Nat.zero_le _⟩) (fun r_7 hw => ?_)
          subst hw
          refine W.lcmp hx hb dX0_compute_74 ?_
          refine lv_if_ge (tgt := 82) hx hb dX0_compute_75 (by decide) (fun c_8 => ?_) (fun c_8 => ?_)
          · refine lv_iconst (v := 0) hx hb dX0_compute_82 (by decide) ?_
            exact W.iret (v := 0) hx hb hr (fun t ht hW => ⟨_, rfl, (by unfold F_compute; rw [if_neg c_1, if_neg c_2, if_neg c_3, if_pos c_5, if_pos c_8]), ht⟩) (fun _ h => by cases h) dX0_compute_83
          · refine lv_iconst (v := 1) hx hb dX0_compute_78 (by decide) ?_
            refine lv_goto (tgt := 83) hx hb dX0_compute_79 (by decide) ?_
            exact W.iret (v := 1) hx hb hr (fun t ht hW => ⟨_, rfl, (by unfold F_compute; rw [if_neg c_1, if_neg c_2, if_neg c_3, if_pos c_5, if_neg c_8]), ht⟩) (fun _ h => by cases h) dX0_compute_83
        · by_cases c_9 : a1 = 4
          · refine lv_tableIn (tgt := 84) (off := 83) hx hb dX0_compute_1 (by rw [c_9]; decide) (by rw [c_9]; decide) (by rw [c_9] <;> rfl) (by decide) ?_
            refine lv_iload_n hx hb dX0_compute_84 rfl (lv_at hl 1 rfl) ?_
            refine lv_iload_n hx hb dX0_compute_85 rfl (lv_at hl 2 rfl) ?_
            refine lv_ixor hx hb dX0_compute_86 ?_
            exact W.iret (v := a2 ^^^ a3) hx hb hr (fun t ht hW => ⟨_, rfl, (by unfold F_compute; rw [if_neg c_1, if_neg c_2, if_neg c_3, if_neg c_5, if_pos c_9]), ht⟩) (fun _ h => by cases h) dX0_compute_87
          · by_cases c_10 : a1 = 5
            · refine lv_tableIn (tgt := 88) (off := 87) hx hb dX0_compute_1 (by rw [c_10]; decide) (by rw [c_10]; decide) (by rw [c_10] <;> rfl) (by decide) ?_
              refine lv_iload_n hx hb dX0_compute_88 rfl (lv_at hl 1 rfl) ?_
              refine lv_iload_n hx hb dX0_compute_89 rfl (lv_at hl 2 rfl) ?_
              refine lv_bipush (v := 31) hx hb dX0_compute_90 (by decide) ?_
              refine lv_iand hx hb dX0_compute_92 ?_
              refine lv_iushr (v := (a2.toUInt32 >>> ((a3 &&& 31).toUInt32 &&& Int32.toUInt32 31)).toInt32) hx hb dX0_compute_93 rfl ?_
              exact W.iret (v := (a2.toUInt32 >>> ((a3 &&& 31).toUInt32 &&& Int32.toUInt32 31)).toInt32) hx hb hr (fun t ht hW => ⟨_, rfl, (by unfold F_compute; rw [if_neg c_1, if_neg c_2, if_neg c_3, if_neg c_5, if_neg c_9, if_pos c_10]), ht⟩) (fun _ h => by cases h) dX0_compute_94
            · by_cases c_11 : a1 = 6
              · refine lv_tableIn (tgt := 95) (off := 94) hx hb dX0_compute_1 (by rw [c_11]; decide) (by rw [c_11]; decide) (by rw [c_11] <;> rfl) (by decide) ?_
                refine lv_iload_n hx hb dX0_compute_95 rfl (lv_at hl 1 rfl) ?_
                refine lv_iload_n hx hb dX0_compute_96 rfl (lv_at hl 2 rfl) ?_
                refine lv_ior hx hb dX0_compute_97 ?_
                exact W.iret (v := a2 ||| a3) hx hb hr (fun t ht hW => ⟨_, rfl, (by unfold F_compute; rw [if_neg c_1, if_neg c_2, if_neg c_3, if_neg c_5, if_neg c_9, if_neg c_10, if_pos c_11]), ht⟩) (fun _ h => by cases h) dX0_compute_98
              · have tc_1 := lv_neT (a := 0) c_1 (by decide)
                have tc_2 := lv_neT (a := 1) c_2 (by decide)
                have tc_3 := lv_neT (a := 2) c_3 (by decide)
                have tc_5 := lv_neT (a := 3) c_5 (by decide)
                have tc_9 := lv_neT (a := 4) c_9 (by decide)
                have tc_10 := lv_neT (a := 5) c_10 (by decide)
                have tc_11 := lv_neT (a := 6) c_11 (by decide)
                refine lv_tableOut (tgt := 99) hx hb dX0_compute_1 (by omega) (by decide) ?_
                refine lv_iload_n hx hb dX0_compute_99 rfl (lv_at hl 1 rfl) ?_
                refine lv_iload_n hx hb dX0_compute_100 rfl (lv_at hl 2 rfl) ?_
                refine lv_iand hx hb dX0_compute_101 ?_
                exact W.iret (v := a2 &&& a3) hx hb hr (fun t ht hW => ⟨_, rfl, (by unfold F_compute; rw [if_neg c_1, if_neg c_2, if_neg c_3, if_neg c_5, if_neg c_9, if_neg c_10, if_neg c_11]), ht⟩) (fun _ h => by cases h) dX0_compute_102

def F_upperHalf  (a1 : Int64) : Int32 :=
  ((a1.toUInt64 >>> ((32 : Int32).toInt64.toUInt64 &&& Int64.toUInt64 63)).toInt64).toInt32
set_option maxHeartbeats 4000000 in
set_option maxRecDepth 100000 in
theorem c_upperHalf (l : Launch) (a1 : Int64) : Met l yX0_upperHalf wsX0_upperHalf ({ frames := 0, cells := 0, slots := 0, locals := 0 }) (fun v _ => v = ([.long a1] : List Value).toArray) (vp_Si (fun r : Int32 => r = F_upperHalf a1)) 0 0 (fun _ => False) := by
  refine Met.ofW (cc := cX0_upperHalf) (maxL := 2) (ret := (some .int)) (by decide) rfl ?_
  intro p e s m args below meth c s₁ B hml hv
  obtain rfl := hv
  have hx := B.exec
  have hb := B.bytes
  have hr := B.returns
  have hts := atoms_spec (ws := wsX0_upperHalf) B.pre
  have hown : s.vm.findClass RX0 = some m.cls := findClass_of_methodNamed B.named
  have hlocks := B.notSynchronized
  have hl := lv_entry ([.long a1]) (n := 2) (Nat.le_of_ble_eq_true rfl)
  rw [lg_entry_eq]
  generalize (lg_sl ([.long a1]) ++ List.replicate (2 - (lg_sl ([.long a1])).length) Slot.unset).toArray = ls at hl ⊢
  have hl : lv_has ls 2 [(0, .long a1)] := hl
  refine lv_lload_n hx hb dX0_upperHalf_0 rfl (lv_at hl 0 rfl) ?_
  refine lv_bipush (v := 32) hx hb dX0_upperHalf_1 (by decide) ?_
  refine lv_lushr (v := (a1.toUInt64 >>> ((32 : Int32).toInt64.toUInt64 &&& Int64.toUInt64 63)).toInt64) hx hb dX0_upperHalf_3 rfl ?_
  refine lv_l2i (v := ((a1.toUInt64 >>> ((32 : Int32).toInt64.toUInt64 &&& Int64.toUInt64 63)).toInt64).toInt32) hx hb dX0_upperHalf_4 rfl ?_
  exact W.iret (v := ((a1.toUInt64 >>> ((32 : Int32).toInt64.toUInt64 &&& Int64.toUInt64 63)).toInt64).toInt32) hx hb hr (fun t ht hW => ⟨_, rfl, (by unfold F_upperHalf; rfl), ht⟩) (fun _ h => by cases h) dX0_upperHalf_5
end
section
theorem pages_of {a : Int32} (h : ¬ F_isInPages a = 0) : ∃ n : Nat, n < 16384 ∧ a = nI n := by
  unfold F_isInPages at h
  by_cases h1 : a < 0
  · rw [if_pos h1] at h; exact absurd rfl h
  · rw [if_neg h1] at h
    by_cases h2 : (16384 : Int32) ≤ a
    · rw [if_pos h2] at h; exact absurd rfl h
    · obtain ⟨j, hj, rfl⟩ := nI_of h1
      refine ⟨j, ?_, rfl⟩
      rcases Nat.lt_or_ge j 16384 with q | q
      · exact q
      · exact absurd (show nI 16384 ≤ nI j from nI_le q hj) h2
theorem in_partB (w : Int32) : vp_in (F_partB w) 32 := by
  unfold F_partB
  exact pk_andIn _ 5 (by decide) (by decide)
theorem in_word {a : Int32} (h : ¬ F_isInPages a = 0) : vp_in ((a.toUInt32 >>> ((2 : Int32).toUInt32 &&& Int32.toUInt32 31)).toInt32) 4096 := by
  obtain ⟨n, hn, rfl⟩ := pages_of h
  rw [pk_ushrN (by omega) 2 2 (by decide)]
  exact vp_in_nI (by omega) (by decide)
theorem in_right {a : Int32} (h : ¬ F_isInPages a = 0) : vp_in ((a.toUInt32 >>> ((12 : Int32).toUInt32 &&& Int32.toUInt32 31)).toInt32) 4 := by
  obtain ⟨n, hn, rfl⟩ := pages_of h
  rw [pk_ushrN (by omega) 12 12 (by decide)]
  exact vp_in_nI (by omega) (by decide)
theorem in_reg {a : Int32} (h1 : ¬ a ≤ 0) (h2 : ¬ (32 : Int32) ≤ a) : vp_in a 32 := by
  rw [vp_in_iff]
  rw [Int32.le_iff_toInt_le] at h1 h2
  have e0 : (0 : Int32).toInt = 0 := rfl
  have e1 : (32 : Int32).toInt = 32 := rfl
  rw [e0] at h1
  rw [e1] at h2
  omega
theorem un_ne {q : Int32} (h : ¬ q = 0) : ¬ F_unsigned q = 0 := by
  intro z
  unfold F_unsigned at z
  have z1 := congrArg Int64.toInt32 z
  rw [Int64.toInt32_and, Int32.toInt32_toInt64] at z1
  apply h
  have e1 : (4294967295 : Int64).toInt32 = -1 := by decide
  rw [e1, Int32.and_neg_one] at z1
  rw [z1]
  decide
theorem nI_of_toInt {x : Int32} (h : 0 ≤ x.toInt) : ∃ j : Nat, j < 2 ^ 31 ∧ x = nI j ∧ x.toInt = j := by
  obtain ⟨j, hj, rfl⟩ := nI_of (x := x) (by
    rw [Int32.lt_iff_toInt_lt]
    have e0 : (0 : Int32).toInt = 0 := rfl
    rw [e0]
    omega)
  exact ⟨j, hj, rfl, nI_toInt hj⟩
theorem pb_n {a1 a2 : Int32} (h : 0 ≤ a1.toInt ∧ 0 ≤ a2.toInt ∧ a2.toInt ≤ 8 ∧ a1.toInt + a2.toInt ≤ 16384) : ∃ n : Nat, n ≤ 8 ∧ a2 = nI n := by
  obtain ⟨j, hj, e1, e2⟩ := nI_of_toInt h.2.1
  exact ⟨j, by omega, e1⟩
theorem pb_lt {n j : Nat} (hn : n ≤ 8) (hj : j ≤ n) (h : ¬ nI n ≤ nI j) : j < n := by
  rcases Nat.lt_or_ge j n with q | q
  · exact q
  · exact absurd (nI_le q (by omega)) h
theorem pb_eq {n j : Nat} (hn : n ≤ 8) (hj : j ≤ n) (h : nI n ≤ nI j) : n = j := by
  rcases Nat.lt_or_ge j n with q | q
  · exact absurd h (nI_ge q (by omega))
  · omega
theorem in_pb {a1 : Int32} {n j : Nat} (hn : n ≤ 8) (h : 0 ≤ a1.toInt ∧ 0 ≤ (nI n).toInt ∧ (nI n).toInt ≤ 8 ∧ a1.toInt + (nI n).toInt ≤ 16384) (hlt : j < n) : vp_in (((a1 + nI j).toUInt32 >>> ((2 : Int32).toUInt32 &&& Int32.toUInt32 31)).toInt32) 4096 := by
  obtain ⟨a, ha, e1, e2⟩ := nI_of_toInt h.1
  have e3 : (nI n).toInt = (n : Int) := nI_toInt (by omega)
  have h4 := h.2.2.2
  rw [e2, e3] at h4
  rw [e1, nI_add, pk_ushrN (by omega) 2 2 (by decide)]
  exact vp_in_nI (by omega) (by decide)
theorem in_poke {a1 a2 : Int32} (h1 : ¬ a2 < 1) (h2 : a2 ≤ 8) (h3 : ¬ a1 < 0) (h4 : a1 ≤ 16384 - a2) : 0 ≤ a1.toInt ∧ 0 ≤ a2.toInt ∧ a2.toInt ≤ 8 ∧ a1.toInt + a2.toInt ≤ 16384 := by
  rw [Int32.lt_iff_toInt_lt] at h1 h3
  rw [Int32.le_iff_toInt_le] at h2 h4
  have e0 : (0 : Int32).toInt = 0 := rfl
  have e1 : (1 : Int32).toInt = 1 := rfl
  have e8 : (8 : Int32).toInt = 8 := rfl
  rw [e1] at h1
  rw [e8] at h2
  rw [e0] at h3
  obtain ⟨n, hn, en, tn⟩ := nI_of_toInt (x := a2) (by omega)
  have e5 : (16384 : Int32) - a2 = nI (16384 - n) := by rw [en]; exact pk_sub (a := 16384) (by omega)
  rw [e5, nI_toInt (by omega)] at h4
  omega
theorem in_page {a : Int32} (h1 : ¬ a < 0) (h2 : ¬ (4 : Int32) ≤ a) : vp_in a 4 := by
  rw [vp_in_iff]
  rw [Int32.lt_iff_toInt_lt] at h1
  rw [Int32.le_iff_toInt_le] at h2
  have e0 : (0 : Int32).toInt = 0 := rfl
  have e1 : (4 : Int32).toInt = 4 := rfl
  rw [e0] at h1
  rw [e1] at h2
  omega
theorem in_isreg {a : Int32} (h : ¬ F_isRegister a = 0) : vp_in a 32 := by
  unfold F_isRegister at h
  by_cases h1 : a < 0
  · rw [if_pos h1] at h; exact absurd rfl h
  · rw [if_neg h1] at h
    by_cases h2 : (32 : Int32) ≤ a
    · rw [if_pos h2] at h; exact absurd rfl h
    · rw [vp_in_iff]
      rw [Int32.lt_iff_toInt_lt] at h1
      rw [Int32.le_iff_toInt_le] at h2
      have e0 : (0 : Int32).toInt = 0 := rfl
      have e1 : (32 : Int32).toInt = 32 := rfl
      rw [e0] at h1
      rw [e1] at h2
      omega
def F_divide  (a1 : Int32) (a2 : Int32) (a3 : Int32) : Int32 :=
  if a3 = 0 then
    if (6 : Int32) ≤ a1 then
      a2
    else
      (-1)
  else
    if a1 = 4 then
      a2 / a3
    else
      if a1 = 5 then
        ((F_unsigned a2) / (F_unsigned a3)).toInt32
      else
        if a1 = 6 then
          a2 - a2 / a3 * a3
        else
          ((F_unsigned a2) - (F_unsigned a2) / (F_unsigned a3) * (F_unsigned a3)).toInt32
set_option maxHeartbeats 4000000 in
set_option maxRecDepth 100000 in
theorem c_divide (l : Launch) (a1 : Int32) (a2 : Int32) (a3 : Int32) : Met l yX0_divide wsX0_divide ({ frames := 1, cells := 0, slots := 0, locals := 20 }) (fun v _ => v = ([.int a1, .int a2, .int a3] : List Value).toArray) (vp_Si (fun r : Int32 => r = F_divide a1 a2 a3)) 0 0 (fun _ => False) := by
  refine Met.ofW (cc := cX0_divide) (maxL := 3) (ret := (some .int)) (by decide) rfl ?_
  intro p e s m args below meth c s₁ B hml hv
  obtain rfl := hv
  have hx := B.exec
  have hb := B.bytes
  have hr := B.returns
  have hts := atoms_spec (ws := wsX0_divide) B.pre
  have hown : s.vm.findClass RX0 = some m.cls := findClass_of_methodNamed B.named
  have hlocks := B.notSynchronized
  have hl := lv_entry ([.int a1, .int a2, .int a3]) (n := 3) (Nat.le_of_ble_eq_true rfl)
  rw [lg_entry_eq]
  generalize (lg_sl ([.int a1, .int a2, .int a3]) ++ List.replicate (3 - (lg_sl ([.int a1, .int a2, .int a3])).length) Slot.unset).toArray = ls at hl ⊢
  have hl : lv_has ls 3 [(0, .int a1), (1, .int a2), (2, .int a3)] := hl
  refine lv_iload_n hx hb dX0_divide_0 rfl (lv_at hl 2 rfl) ?_
  refine lv_if_ne (tgt := 16) hx hb dX0_divide_1 (by decide) (fun c_1 => ?_) (fun c_1 => ?_)
  · refine lv_iload_n hx hb dX0_divide_16 rfl (lv_at hl 0 rfl) ?_
    by_cases c_2 : a1 = 4
    · refine lv_tableIn (tgt := 44) (off := 27) hx hb dX0_divide_17 (by rw [c_2]; decide) (by rw [c_2]; decide) (by rw [c_2] <;> rfl) (by decide) ?_
      refine lv_iload_n hx hb dX0_divide_44 rfl (lv_at hl 1 rfl) ?_
      refine lv_iload_n hx hb dX0_divide_45 rfl (lv_at hl 2 rfl) ?_
      refine lv_idiv hx hb dX0_divide_46 c_1 ?_
      exact W.iret (v := a2 / a3) hx hb hr (fun t ht hW => ⟨_, rfl, (by unfold F_divide; rw [if_neg c_1, if_pos c_2]), ht⟩) (fun _ h => by cases h) dX0_divide_47
    · by_cases c_3 : a1 = 5
      · refine lv_tableIn (tgt := 48) (off := 31) hx hb dX0_divide_17 (by rw [c_3]; decide) (by rw [c_3]; decide) (by rw [c_3] <;> rfl) (by decide) ?_
        refine lv_iload_n hx hb dX0_divide_48 rfl (lv_at hl 1 rfl) ?_
        refine vp_callSl (W.runS (As := [.int a2]) (rest := []) ⟨hx, hb, hml, hown, hts⟩ (c_unsigned l a2) (cwS 1 hts (gS mL_X0_159 mS_X0_unsigned mN_X0 mC_X0_unsigned) rfl rfl rfl (by decide +kernel) ⟨Nat.le_of_ble_eq_true rfl, Nat.le_of_ble_eq_true rfl⟩) preEq rfl rfl hl.1 rfl (lv_room (Nat.le_of_ble_eq_true rfl)) dX0_divide_49 ⟨Nat.zero_le _, Nat.zero_le _⟩) (fun r_4 hw => ?_)
        subst hw
        refine lv_iload_n hx hb dX0_divide_52 rfl (lv_at hl 2 rfl) ?_
        refine vp_callSl (W.runS (As := [.int a3]) (rest := [.long (F_unsigned a2)]) ⟨hx, hb, hml, hown, hts⟩ (c_unsigned l a3) (cwS 1 hts (gS mL_X0_159 mS_X0_unsigned mN_X0 mC_X0_unsigned) rfl rfl rfl (by decide +kernel) ⟨Nat.le_of_ble_eq_true rfl, Nat.le_of_ble_eq_true rfl⟩) preEq rfl rfl hl.1 rfl (lv_room (Nat.le_of_ble_eq_true rfl)) dX0_divide_53 ⟨Nat.zero_le _, Nat.zero_le _⟩) (fun r_5 hw => ?_)
        subst hw
        refine lv_ldiv hx hb dX0_divide_56 (un_ne c_1) ?_
        refine lv_l2i (v := ((F_unsigned a2) / (F_unsigned a3)).toInt32) hx hb dX0_divide_57 rfl ?_
        exact W.iret (v := ((F_unsigned a2) / (F_unsigned a3)).toInt32) hx hb hr (fun t ht hW => ⟨_, rfl, (by unfold F_divide; rw [if_neg c_1, if_neg c_2, if_pos c_3]), ht⟩) (fun _ h => by cases h) dX0_divide_58
      · by_cases c_6 : a1 = 6
        · refine lv_tableIn (tgt := 59) (off := 42) hx hb dX0_divide_17 (by rw [c_6]; decide) (by rw [c_6]; decide) (by rw [c_6] <;> rfl) (by decide) ?_
          refine lv_iload_n hx hb dX0_divide_59 rfl (lv_at hl 1 rfl) ?_
          refine lv_iload_n hx hb dX0_divide_60 rfl (lv_at hl 2 rfl) ?_
          refine lv_irem hx hb dX0_divide_61 c_1 ?_
          exact W.iret (v := a2 - a2 / a3 * a3) hx hb hr (fun t ht hW => ⟨_, rfl, (by unfold F_divide; rw [if_neg c_1, if_neg c_2, if_neg c_3, if_pos c_6]), ht⟩) (fun _ h => by cases h) dX0_divide_62
        · have tc_2 := lv_neT (a := 4) c_2 (by decide)
          have tc_3 := lv_neT (a := 5) c_3 (by decide)
          have tc_6 := lv_neT (a := 6) c_6 (by decide)
          refine lv_tableOut (tgt := 63) hx hb dX0_divide_17 (by omega) (by decide) ?_
          refine lv_iload_n hx hb dX0_divide_63 rfl (lv_at hl 1 rfl) ?_
          refine vp_callSl (W.runS (As := [.int a2]) (rest := []) ⟨hx, hb, hml, hown, hts⟩ (c_unsigned l a2) (cwS 1 hts (gS mL_X0_159 mS_X0_unsigned mN_X0 mC_X0_unsigned) rfl rfl rfl (by decide +kernel) ⟨Nat.le_of_ble_eq_true rfl, Nat.le_of_ble_eq_true rfl⟩) preEq rfl rfl hl.1 rfl (lv_room (Nat.le_of_ble_eq_true rfl)) dX0_divide_64 ⟨Nat.zero_le _, Nat.zero_le _⟩) (fun r_7 hw => ?_)
          subst hw
          refine lv_iload_n hx hb dX0_divide_67 rfl (lv_at hl 2 rfl) ?_
          refine vp_callSl (W.runS (As := [.int a3]) (rest := [.long (F_unsigned a2)]) ⟨hx, hb, hml, hown, hts⟩ (c_unsigned l a3) (cwS 1 hts (gS mL_X0_159 mS_X0_unsigned mN_X0 mC_X0_unsigned) rfl rfl rfl (by decide +kernel) ⟨Nat.le_of_ble_eq_true rfl, Nat.le_of_ble_eq_true rfl⟩) preEq rfl rfl hl.1 rfl (lv_room (Nat.le_of_ble_eq_true rfl)) dX0_divide_68 ⟨Nat.zero_le _, Nat.zero_le _⟩) (fun r_8 hw => ?_)
          subst hw
          refine lv_lrem hx hb dX0_divide_71 (un_ne c_1) ?_
          refine lv_l2i (v := ((F_unsigned a2) - (F_unsigned a2) / (F_unsigned a3) * (F_unsigned a3)).toInt32) hx hb dX0_divide_72 rfl ?_
          exact W.iret (v := ((F_unsigned a2) - (F_unsigned a2) / (F_unsigned a3) * (F_unsigned a3)).toInt32) hx hb hr (fun t ht hW => ⟨_, rfl, (by unfold F_divide; rw [if_neg c_1, if_neg c_2, if_neg c_3, if_neg c_6]), ht⟩) (fun _ h => by cases h) dX0_divide_73
  · refine lv_iload_n hx hb dX0_divide_4 rfl (lv_at hl 0 rfl) ?_
    refine lv_bipush (v := 6) hx hb dX0_divide_5 (by decide) ?_
    refine lv_icmp_ge (tgt := 14) hx hb dX0_divide_7 (by decide) (fun c_9 => ?_) (fun c_9 => ?_)
    · refine lv_iload_n hx hb dX0_divide_14 rfl (lv_at hl 1 rfl) ?_
      exact W.iret (v := a2) hx hb hr (fun t ht hW => ⟨_, rfl, (by unfold F_divide; rw [if_pos c_1, if_pos c_9]), ht⟩) (fun _ h => by cases h) dX0_divide_15
    · refine lv_iconst (v := (-1)) hx hb dX0_divide_10 (by decide) ?_
      refine lv_goto (tgt := 15) hx hb dX0_divide_11 (by decide) ?_
      exact W.iret (v := (-1)) hx hb hr (fun t ht hW => ⟨_, rfl, (by unfold F_divide; rw [if_pos c_1, if_neg c_9]), ht⟩) (fun _ h => by cases h) dX0_divide_15

def F_multiplyOrDivide  (a1 : Int32) (a2 : Int32) (a3 : Int32) : Int32 :=
  if a1 = 0 then
    a2 * a3
  else
    if a1 = 1 then
      F_upperHalf (a2.toInt64 * a3.toInt64)
    else
      if a1 = 2 then
        F_upperHalf (a2.toInt64 * (F_unsigned a3))
      else
        if a1 = 3 then
          F_upperHalf ((F_unsigned a2) * (F_unsigned a3))
        else
          F_divide a1 a2 a3
set_option maxHeartbeats 4000000 in
set_option maxRecDepth 100000 in
theorem c_multiplyOrDivide (l : Launch) (a1 : Int32) (a2 : Int32) (a3 : Int32) : Met l yX0_multiplyOrDivide wsX0_multiplyOrDivide ({ frames := 2, cells := 0, slots := 0, locals := 42 }) (fun v _ => v = ([.int a1, .int a2, .int a3] : List Value).toArray) (vp_Si (fun r : Int32 => r = F_multiplyOrDivide a1 a2 a3)) 0 0 (fun _ => False) := by
  refine Met.ofW (cc := cX0_multiplyOrDivide) (maxL := 3) (ret := (some .int)) (by decide) rfl ?_
  intro p e s m args below meth c s₁ B hml hv
  obtain rfl := hv
  have hx := B.exec
  have hb := B.bytes
  have hr := B.returns
  have hts := atoms_spec (ws := wsX0_multiplyOrDivide) B.pre
  have hown : s.vm.findClass RX0 = some m.cls := findClass_of_methodNamed B.named
  have hlocks := B.notSynchronized
  have hl := lv_entry ([.int a1, .int a2, .int a3]) (n := 3) (Nat.le_of_ble_eq_true rfl)
  rw [lg_entry_eq]
  generalize (lg_sl ([.int a1, .int a2, .int a3]) ++ List.replicate (3 - (lg_sl ([.int a1, .int a2, .int a3])).length) Slot.unset).toArray = ls at hl ⊢
  have hl : lv_has ls 3 [(0, .int a1), (1, .int a2), (2, .int a3)] := hl
  refine lv_iload_n hx hb dX0_multiplyOrDivide_0 rfl (lv_at hl 0 rfl) ?_
  by_cases c_1 : a1 = 0
  · refine lv_tableIn (tgt := 32) (off := 31) hx hb dX0_multiplyOrDivide_1 (by rw [c_1]; decide) (by rw [c_1]; decide) (by rw [c_1] <;> rfl) (by decide) ?_
    refine lv_iload_n hx hb dX0_multiplyOrDivide_32 rfl (lv_at hl 1 rfl) ?_
    refine lv_iload_n hx hb dX0_multiplyOrDivide_33 rfl (lv_at hl 2 rfl) ?_
    refine lv_imul hx hb dX0_multiplyOrDivide_34 ?_
    exact W.iret (v := a2 * a3) hx hb hr (fun t ht hW => ⟨_, rfl, (by unfold F_multiplyOrDivide; rw [if_pos c_1]), ht⟩) (fun _ h => by cases h) dX0_multiplyOrDivide_35
  · by_cases c_2 : a1 = 1
    · refine lv_tableIn (tgt := 36) (off := 35) hx hb dX0_multiplyOrDivide_1 (by rw [c_2]; decide) (by rw [c_2]; decide) (by rw [c_2] <;> rfl) (by decide) ?_
      refine lv_iload_n hx hb dX0_multiplyOrDivide_36 rfl (lv_at hl 1 rfl) ?_
      refine lv_i2l (v := a2.toInt64) hx hb dX0_multiplyOrDivide_37 rfl ?_
      refine lv_iload_n hx hb dX0_multiplyOrDivide_38 rfl (lv_at hl 2 rfl) ?_
      refine lv_i2l (v := a3.toInt64) hx hb dX0_multiplyOrDivide_39 rfl ?_
      refine lv_lmul hx hb dX0_multiplyOrDivide_40 ?_
      refine vp_callSi (W.runS (As := [.long (a2.toInt64 * a3.toInt64)]) (rest := []) ⟨hx, hb, hml, hown, hts⟩ (c_upperHalf l (a2.toInt64 * a3.toInt64)) (cwS 1 hts (gS mL_X0_164 mS_X0_upperHalf mN_X0 mC_X0_upperHalf) rfl rfl rfl (by decide +kernel) ⟨Nat.le_of_ble_eq_true rfl, Nat.le_of_ble_eq_true rfl⟩) preEq rfl rfl hl.1 rfl (lv_room (Nat.le_of_ble_eq_true rfl)) dX0_multiplyOrDivide_41 ⟨Nat.zero_le _, Nat.zero_le _⟩) (fun r_3 hw => ?_)
      subst hw
      exact W.iret (v := F_upperHalf (a2.toInt64 * a3.toInt64)) hx hb hr (fun t ht hW => ⟨_, rfl, (by unfold F_multiplyOrDivide; rw [if_neg c_1, if_pos c_2]), ht⟩) (fun _ h => by cases h) dX0_multiplyOrDivide_44
    · by_cases c_4 : a1 = 2
      · refine lv_tableIn (tgt := 45) (off := 44) hx hb dX0_multiplyOrDivide_1 (by rw [c_4]; decide) (by rw [c_4]; decide) (by rw [c_4] <;> rfl) (by decide) ?_
        refine lv_iload_n hx hb dX0_multiplyOrDivide_45 rfl (lv_at hl 1 rfl) ?_
        refine lv_i2l (v := a2.toInt64) hx hb dX0_multiplyOrDivide_46 rfl ?_
        refine lv_iload_n hx hb dX0_multiplyOrDivide_47 rfl (lv_at hl 2 rfl) ?_
        refine vp_callSl (W.runS (As := [.int a3]) (rest := [.long a2.toInt64]) ⟨hx, hb, hml, hown, hts⟩ (c_unsigned l a3) (cwS 1 hts (gS mL_X0_159 mS_X0_unsigned mN_X0 mC_X0_unsigned) rfl rfl rfl (by decide +kernel) ⟨Nat.le_of_ble_eq_true rfl, Nat.le_of_ble_eq_true rfl⟩) preEq rfl rfl hl.1 rfl (lv_room (Nat.le_of_ble_eq_true rfl)) dX0_multiplyOrDivide_48 ⟨Nat.zero_le _, Nat.zero_le _⟩) (fun r_5 hw => ?_)
        subst hw
        refine lv_lmul hx hb dX0_multiplyOrDivide_51 ?_
        refine vp_callSi (W.runS (As := [.long (a2.toInt64 * (F_unsigned a3))]) (rest := []) ⟨hx, hb, hml, hown, hts⟩ (c_upperHalf l (a2.toInt64 * (F_unsigned a3))) (cwS 1 hts (gS mL_X0_164 mS_X0_upperHalf mN_X0 mC_X0_upperHalf) rfl rfl rfl (by decide +kernel) ⟨Nat.le_of_ble_eq_true rfl, Nat.le_of_ble_eq_true rfl⟩) preEq rfl rfl hl.1 rfl (lv_room (Nat.le_of_ble_eq_true rfl)) dX0_multiplyOrDivide_52 ⟨Nat.zero_le _, Nat.zero_le _⟩) (fun r_6 hw => ?_)
        subst hw
        exact W.iret (v := F_upperHalf (a2.toInt64 * (F_unsigned a3))) hx hb hr (fun t ht hW => ⟨_, rfl, (by unfold F_multiplyOrDivide; rw [if_neg c_1, if_neg c_2, if_pos c_4]), ht⟩) (fun _ h => by cases h) dX0_multiplyOrDivide_55
      · by_cases c_7 : a1 = 3
        · refine lv_tableIn (tgt := 56) (off := 55) hx hb dX0_multiplyOrDivide_1 (by rw [c_7]; decide) (by rw [c_7]; decide) (by rw [c_7] <;> rfl) (by decide) ?_
          refine lv_iload_n hx hb dX0_multiplyOrDivide_56 rfl (lv_at hl 1 rfl) ?_
          refine vp_callSl (W.runS (As := [.int a2]) (rest := []) ⟨hx, hb, hml, hown, hts⟩ (c_unsigned l a2) (cwS 1 hts (gS mL_X0_159 mS_X0_unsigned mN_X0 mC_X0_unsigned) rfl rfl rfl (by decide +kernel) ⟨Nat.le_of_ble_eq_true rfl, Nat.le_of_ble_eq_true rfl⟩) preEq rfl rfl hl.1 rfl (lv_room (Nat.le_of_ble_eq_true rfl)) dX0_multiplyOrDivide_57 ⟨Nat.zero_le _, Nat.zero_le _⟩) (fun r_8 hw => ?_)
          subst hw
          refine lv_iload_n hx hb dX0_multiplyOrDivide_60 rfl (lv_at hl 2 rfl) ?_
          refine vp_callSl (W.runS (As := [.int a3]) (rest := [.long (F_unsigned a2)]) ⟨hx, hb, hml, hown, hts⟩ (c_unsigned l a3) (cwS 1 hts (gS mL_X0_159 mS_X0_unsigned mN_X0 mC_X0_unsigned) rfl rfl rfl (by decide +kernel) ⟨Nat.le_of_ble_eq_true rfl, Nat.le_of_ble_eq_true rfl⟩) preEq rfl rfl hl.1 rfl (lv_room (Nat.le_of_ble_eq_true rfl)) dX0_multiplyOrDivide_61 ⟨Nat.zero_le _, Nat.zero_le _⟩) (fun r_9 hw => ?_)
          subst hw
          refine lv_lmul hx hb dX0_multiplyOrDivide_64 ?_
          refine vp_callSi (W.runS (As := [.long ((F_unsigned a2) * (F_unsigned a3))]) (rest := []) ⟨hx, hb, hml, hown, hts⟩ (c_upperHalf l ((F_unsigned a2) * (F_unsigned a3))) (cwS 1 hts (gS mL_X0_164 mS_X0_upperHalf mN_X0 mC_X0_upperHalf) rfl rfl rfl (by decide +kernel) ⟨Nat.le_of_ble_eq_true rfl, Nat.le_of_ble_eq_true rfl⟩) preEq rfl rfl hl.1 rfl (lv_room (Nat.le_of_ble_eq_true rfl)) dX0_multiplyOrDivide_65 ⟨Nat.zero_le _, Nat.zero_le _⟩) (fun r_10 hw => ?_)
          subst hw
          exact W.iret (v := F_upperHalf ((F_unsigned a2) * (F_unsigned a3))) hx hb hr (fun t ht hW => ⟨_, rfl, (by unfold F_multiplyOrDivide; rw [if_neg c_1, if_neg c_2, if_neg c_4, if_pos c_7]), ht⟩) (fun _ h => by cases h) dX0_multiplyOrDivide_68
        · have tc_1 := lv_neT (a := 0) c_1 (by decide)
          have tc_2 := lv_neT (a := 1) c_2 (by decide)
          have tc_4 := lv_neT (a := 2) c_4 (by decide)
          have tc_7 := lv_neT (a := 3) c_7 (by decide)
          refine lv_tableOut (tgt := 69) hx hb dX0_multiplyOrDivide_1 (by omega) (by decide) ?_
          refine lv_iload_n hx hb dX0_multiplyOrDivide_69 rfl (lv_at hl 0 rfl) ?_
          refine lv_iload_n hx hb dX0_multiplyOrDivide_70 rfl (lv_at hl 1 rfl) ?_
          refine lv_iload_n hx hb dX0_multiplyOrDivide_71 rfl (lv_at hl 2 rfl) ?_
          refine vp_callSi (W.runS (As := [.int a1, .int a2, .int a3]) (rest := []) ⟨hx, hb, hml, hown, hts⟩ (c_divide l a1 a2 a3) (cwS 3 hts (gS mL_X0_168 mS_X0_divide mN_X0 mC_X0_divide) rfl rfl rfl (by decide +kernel) ⟨Nat.le_of_ble_eq_true rfl, Nat.le_of_ble_eq_true rfl⟩) preEq rfl rfl hl.1 rfl (lv_room (Nat.le_of_ble_eq_true rfl)) dX0_multiplyOrDivide_72 ⟨Nat.zero_le _, Nat.zero_le _⟩) (fun r_11 hw => ?_)
          subst hw
          exact W.iret (v := F_divide a1 a2 a3) hx hb hr (fun t ht hW => ⟨_, rfl, (by unfold F_multiplyOrDivide; rw [if_neg c_1, if_neg c_2, if_neg c_4, if_neg c_7]), ht⟩) (fun _ h => by cases h) dX0_multiplyOrDivide_75
end
section
def F_registerA (rs : Nat → Int32) (a1 : Int32) : Int32 :=
  rs (((a1.toUInt32 >>> ((15 : Int32).toUInt32 &&& Int32.toUInt32 31)).toInt32) &&& 31).toNatClampNeg
set_option maxHeartbeats 4000000 in
set_option maxRecDepth 100000 in
theorem c_registerA (l : Launch) (dC : Nat → ClassId) (dI : Nat → Nat → Nat) (x0 xw xr xg : Nat) (c1 c2 c3 : ClassId) (wd : Nat → Int32) (rg : Nat → Int32) (rs : Nat → Int32) (pcv : Int32) (trv : Int32) (vav : Int32) (dnv : Int32) (a1 : Int32)  : Met l yX0_registerA wsX0_registerA ({ frames := 0, cells := 0, slots := 0, locals := 0 }) (va_Pc [.ref x0, .int a1] (fun U => va_P (dC, dI) vwCl [(x0, .inr (0, [.ref xw, .ref xr, .ref xg, .int pcv, .int trv, .int vav, .int dnv])), (xw, .inl (c1, 4096, .inl wd)), (xr, .inl (c2, 4, .inl rg)), (xg, .inl (c3, 32, .inl rs))] U.heap ∧ va_K (dC, dI) vwCl [(c1, .int), (c2, .int), (c3, .int)] U)) (vp_Si (fun r : Int32 => r = F_registerA rs a1)) 0 0 (fun _ => False) := by
  refine Met.ofW (cc := cX0_registerA) (maxL := 2) (ret := (some .int)) (by decide) rfl ?_
  intro p e s m args below meth c s₁ B hml hv
  obtain ⟨rfl, hP, hK⟩ := hv
  have hx := B.exec
  have hb := B.bytes
  have hr := B.returns
  have hts := atoms_spec (ws := wsX0_registerA) B.pre
  have hown : s.vm.findClass RX0 = some m.cls := findClass_of_methodNamed B.named
  have hlocks := B.notSynchronized
  have hP : va_P (dC, dI) vwCl [(x0, .inr (0, [.ref xw, .ref xr, .ref xg, .int pcv, .int trv, .int vav, .int dnv])), (xw, .inl (c1, 4096, .inl wd)), (xr, .inl (c2, 4, .inl rg)), (xg, .inl (c3, 32, .inl rs))] s.heap := hP
  have hl := lv_entry ([.ref x0, .int a1]) (n := 2) (Nat.le_of_ble_eq_true rfl)
  rw [lg_entry_eq]
  generalize (lg_sl ([.ref x0, .int a1]) ++ List.replicate (2 - (lg_sl ([.ref x0, .int a1])).length) Slot.unset).toArray = ls at hl ⊢
  have hl : lv_has ls 2 [(0, .ref x0), (1, .int a1)] := hl
  refine lv_aload_n hx hb dX0_registerA_0 rfl (lv_at hl 0 rfl) ?_
  refine va_get (D := (dC, dI)) (ci := 0) (v := .ref xg) (C := RX0) (T := TX0) (N := 7) hx hb hts (gw_lay lay_X0) hown hK hP 0 rfl rfl 2 (by decide) (hts _ (gcons mF_X0_16)) (fun _ h9 => h9) rfl dX0_registerA_1 ?_
  refine lv_iload_n hx hb dX0_registerA_4 rfl (lv_at hl 1 rfl) ?_
  refine lv_bipush (v := 15) hx hb dX0_registerA_5 (by decide) ?_
  refine lv_iushr (v := (a1.toUInt32 >>> ((15 : Int32).toUInt32 &&& Int32.toUInt32 31)).toInt32) hx hb dX0_registerA_7 rfl ?_
  refine lv_bipush (v := 31) hx hb dX0_registerA_8 (by decide) ?_
  refine lv_iand hx hb dX0_registerA_10 ?_
  refine va_iald hx hb hK hP 3 2 rfl rfl (show vp_in _ 32 from pk_andIn _ 5 (by decide) (by decide)) dX0_registerA_11 ?_
  exact W.iret (v := rs (((a1.toUInt32 >>> ((15 : Int32).toUInt32 &&& Int32.toUInt32 31)).toInt32) &&& 31).toNatClampNeg) hx hb hr (fun t ht hW => ⟨_, rfl, (by unfold F_registerA; rfl), ht⟩) (fun _ h => by cases h) dX0_registerA_12
def F_registerB (rs : Nat → Int32) (a1 : Int32) : Int32 :=
  rs (F_partB a1).toNatClampNeg
set_option maxHeartbeats 4000000 in
set_option maxRecDepth 100000 in
theorem c_registerB (l : Launch) (dC : Nat → ClassId) (dI : Nat → Nat → Nat) (x0 xw xr xg : Nat) (c1 c2 c3 : ClassId) (wd : Nat → Int32) (rg : Nat → Int32) (rs : Nat → Int32) (pcv : Int32) (trv : Int32) (vav : Int32) (dnv : Int32) (a1 : Int32)  : Met l yX0_registerB wsX0_registerB ({ frames := 1, cells := 0, slots := 0, locals := 20 }) (va_Pc [.ref x0, .int a1] (fun U => va_P (dC, dI) vwCl [(x0, .inr (0, [.ref xw, .ref xr, .ref xg, .int pcv, .int trv, .int vav, .int dnv])), (xw, .inl (c1, 4096, .inl wd)), (xr, .inl (c2, 4, .inl rg)), (xg, .inl (c3, 32, .inl rs))] U.heap ∧ va_K (dC, dI) vwCl [(c1, .int), (c2, .int), (c3, .int)] U)) (vp_Si (fun r : Int32 => r = F_registerB rs a1)) 0 0 (fun _ => False) := by
  refine Met.ofW (cc := cX0_registerB) (maxL := 2) (ret := (some .int)) (by decide) rfl ?_
  intro p e s m args below meth c s₁ B hml hv
  obtain ⟨rfl, hP, hK⟩ := hv
  have hx := B.exec
  have hb := B.bytes
  have hr := B.returns
  have hts := atoms_spec (ws := wsX0_registerB) B.pre
  have hown : s.vm.findClass RX0 = some m.cls := findClass_of_methodNamed B.named
  have hlocks := B.notSynchronized
  have hP : va_P (dC, dI) vwCl [(x0, .inr (0, [.ref xw, .ref xr, .ref xg, .int pcv, .int trv, .int vav, .int dnv])), (xw, .inl (c1, 4096, .inl wd)), (xr, .inl (c2, 4, .inl rg)), (xg, .inl (c3, 32, .inl rs))] s.heap := hP
  have hl := lv_entry ([.ref x0, .int a1]) (n := 2) (Nat.le_of_ble_eq_true rfl)
  rw [lg_entry_eq]
  generalize (lg_sl ([.ref x0, .int a1]) ++ List.replicate (2 - (lg_sl ([.ref x0, .int a1])).length) Slot.unset).toArray = ls at hl ⊢
  have hl : lv_has ls 2 [(0, .ref x0), (1, .int a1)] := hl
  refine lv_aload_n hx hb dX0_registerB_0 rfl (lv_at hl 0 rfl) ?_
  refine va_get (D := (dC, dI)) (ci := 0) (v := .ref xg) (C := RX0) (T := TX0) (N := 7) hx hb hts (gw_lay lay_X0) hown hK hP 0 rfl rfl 2 (by decide) (hts _ (gcons mF_X0_16)) (fun _ h9 => h9) rfl dX0_registerB_1 ?_
  refine lv_iload_n hx hb dX0_registerB_4 rfl (lv_at hl 1 rfl) ?_
  refine vp_callSi (W.runS (As := [.int a1]) (rest := [.ref xg]) ⟨hx, hb, hml, hown, hts⟩ (c_partB l a1) (cwS 1 hts (gS mL_X0_143 mS_X0_partB mN_X0 mC_X0_partB) rfl rfl rfl (by decide +kernel) ⟨Nat.le_of_ble_eq_true rfl, Nat.le_of_ble_eq_true rfl⟩) preEq rfl rfl hl.1 rfl (lv_room (Nat.le_of_ble_eq_true rfl)) dX0_registerB_5 ⟨Nat.zero_le _, Nat.zero_le _⟩) (fun r_1 hw => ?_)
  subst hw
  refine va_iald hx hb hK hP 3 2 rfl rfl (in_partB _) dX0_registerB_8 ?_
  exact W.iret (v := rs (F_partB a1).toNatClampNeg) hx hb hr (fun t ht hW => ⟨_, rfl, (by unfold F_registerB; rfl), ht⟩) (fun _ h => by cases h) dX0_registerB_9
def F_hasRight (rg : Nat → Int32) (a1 : Int32) (a2 : Int32) : Int32 :=
  if (F_isInPages a1) = 0 then
    0
  else
    if ((rg ((a1.toUInt32 >>> ((12 : Int32).toUInt32 &&& Int32.toUInt32 31)).toInt32).toNatClampNeg) &&& a2) = 0 then
      0
    else
      1
set_option maxHeartbeats 4000000 in
set_option maxRecDepth 100000 in
theorem c_hasRight (l : Launch) (dC : Nat → ClassId) (dI : Nat → Nat → Nat) (x0 xw xr xg : Nat) (c1 c2 c3 : ClassId) (wd : Nat → Int32) (rg : Nat → Int32) (rs : Nat → Int32) (pcv : Int32) (trv : Int32) (vav : Int32) (dnv : Int32) (a1 : Int32) (a2 : Int32)  : Met l yX0_hasRight wsX0_hasRight ({ frames := 1, cells := 0, slots := 0, locals := 20 }) (va_Pc [.ref x0, .int a1, .int a2] (fun U => va_P (dC, dI) vwCl [(x0, .inr (0, [.ref xw, .ref xr, .ref xg, .int pcv, .int trv, .int vav, .int dnv])), (xw, .inl (c1, 4096, .inl wd)), (xr, .inl (c2, 4, .inl rg)), (xg, .inl (c3, 32, .inl rs))] U.heap ∧ va_K (dC, dI) vwCl [(c1, .int), (c2, .int), (c3, .int)] U)) (vp_Si (fun r : Int32 => narrow .boolean (.int r) = .int r ∧ r = F_hasRight rg a1 a2)) 0 0 (fun _ => False) := by
  refine Met.ofW (cc := cX0_hasRight) (maxL := 3) (ret := (some .boolean)) (by decide) rfl ?_
  intro p e s m args below meth c s₁ B hml hv
  obtain ⟨rfl, hP, hK⟩ := hv
  have hx := B.exec
  have hb := B.bytes
  have hr := B.returns
  have hts := atoms_spec (ws := wsX0_hasRight) B.pre
  have hown : s.vm.findClass RX0 = some m.cls := findClass_of_methodNamed B.named
  have hlocks := B.notSynchronized
  have hP : va_P (dC, dI) vwCl [(x0, .inr (0, [.ref xw, .ref xr, .ref xg, .int pcv, .int trv, .int vav, .int dnv])), (xw, .inl (c1, 4096, .inl wd)), (xr, .inl (c2, 4, .inl rg)), (xg, .inl (c3, 32, .inl rs))] s.heap := hP
  have hl := lv_entry ([.ref x0, .int a1, .int a2]) (n := 3) (Nat.le_of_ble_eq_true rfl)
  rw [lg_entry_eq]
  generalize (lg_sl ([.ref x0, .int a1, .int a2]) ++ List.replicate (3 - (lg_sl ([.ref x0, .int a1, .int a2])).length) Slot.unset).toArray = ls at hl ⊢
  have hl : lv_has ls 3 [(0, .ref x0), (1, .int a1), (2, .int a2)] := hl
  refine lv_iload_n hx hb dX0_hasRight_0 rfl (lv_at hl 1 rfl) ?_
  refine vp_callSi (W.runS (As := [.int a1]) (rest := []) ⟨hx, hb, hml, hown, hts⟩ (c_isInPages l a1) (cwS 1 hts (gS mL_X0_36 mS_X0_isInPages mN_X0 mC_X0_isInPages) rfl rfl rfl (by decide +kernel) ⟨Nat.le_of_ble_eq_true rfl, Nat.le_of_ble_eq_true rfl⟩) preEq rfl rfl hl.1 rfl (lv_room (Nat.le_of_ble_eq_true rfl)) dX0_hasRight_1 ⟨Nat.zero_le _, Nat.zero_le _⟩) (fun r_1 hw => ?_)
  obtain ⟨b_2, hw⟩ := hw
  subst hw
  refine lv_if_eq (tgt := 25) hx hb dX0_hasRight_4 (by decide) (fun c_3 => ?_) (fun c_3 => ?_)
  · refine lv_iconst (v := 0) hx hb dX0_hasRight_25 (by decide) ?_
    exact W.zret (v := 0) (ty := .boolean) hx hb hr rfl (fun t ht hW => ⟨_, rfl, ⟨rfl, (by unfold F_hasRight; rw [if_pos c_3])⟩, ht⟩) (fun _ h => by cases h) dX0_hasRight_26
  · refine lv_aload_n hx hb dX0_hasRight_7 rfl (lv_at hl 0 rfl) ?_
    refine va_get (D := (dC, dI)) (ci := 0) (v := .ref xr) (C := RX0) (T := TX0) (N := 7) hx hb hts (gw_lay lay_X0) hown hK hP 0 rfl rfl 1 (by decide) (hts _ (gcons mF_X0_13)) (fun _ h9 => h9) rfl dX0_hasRight_8 ?_
    refine lv_iload_n hx hb dX0_hasRight_11 rfl (lv_at hl 1 rfl) ?_
    refine lv_bipush (v := 12) hx hb dX0_hasRight_12 (by decide) ?_
    refine lv_iushr (v := (a1.toUInt32 >>> ((12 : Int32).toUInt32 &&& Int32.toUInt32 31)).toInt32) hx hb dX0_hasRight_14 rfl ?_
    refine va_iald hx hb hK hP 2 1 rfl rfl (in_right c_3) dX0_hasRight_15 ?_
    refine lv_iload_n hx hb dX0_hasRight_16 rfl (lv_at hl 2 rfl) ?_
    refine lv_iand hx hb dX0_hasRight_17 ?_
    refine lv_if_eq (tgt := 25) hx hb dX0_hasRight_18 (by decide) (fun c_4 => ?_) (fun c_4 => ?_)
    · refine lv_iconst (v := 0) hx hb dX0_hasRight_25 (by decide) ?_
      exact W.zret (v := 0) (ty := .boolean) hx hb hr rfl (fun t ht hW => ⟨_, rfl, ⟨rfl, (by unfold F_hasRight; rw [if_neg c_3, if_pos c_4])⟩, ht⟩) (fun _ h => by cases h) dX0_hasRight_26
    · refine lv_iconst (v := 1) hx hb dX0_hasRight_21 (by decide) ?_
      refine lv_goto (tgt := 26) hx hb dX0_hasRight_22 (by decide) ?_
      exact W.zret (v := 1) (ty := .boolean) hx hb hr rfl (fun t ht hW => ⟨_, rfl, ⟨rfl, (by unfold F_hasRight; rw [if_neg c_3, if_neg c_4])⟩, ht⟩) (fun _ h => by cases h) dX0_hasRight_26
theorem in_has {rg : Nat → Int32} {a k : Int32} (h : ¬ F_hasRight rg a k = 0) : ¬ F_isInPages a = 0 := fun q => h (by unfold F_hasRight; rw [if_pos q])
theorem in_step {rg : Nat → Int32} {a k : Int32} (h : ¬ F_hasRight rg a k = 0) : vp_in ((a.toUInt32 >>> ((2 : Int32).toUInt32 &&& Int32.toUInt32 31)).toInt32) 4096 := in_word (in_has h)
theorem crook_of {a n : Int32} (h : F_isCrooked a n = 0) : a &&& (n - 1) = 0 := by
  unfold F_isCrooked at h
  by_cases q : a &&& (n - 1) = 0
  · exact q
  · rw [if_neg q] at h; exact absurd h (by decide)
theorem in_put {w a : Int32} {rg : Nat → Int32} (h1 : F_partF w ≤ 2) (h2 : F_isCrooked a (1 <<< (F_partF w &&& 31)) = 0) (h3 : ¬ F_hasRight rg a 2 = 0) : 0 ≤ a.toInt ∧ 0 ≤ ((1 : Int32) <<< (F_partF w &&& 31)).toInt ∧ ((1 : Int32) <<< (F_partF w &&& 31)).toInt ≤ 8 ∧ a.toInt + ((1 : Int32) <<< (F_partF w &&& 31)).toInt ≤ 16384 := by
  obtain ⟨n, hn, rfl⟩ := pages_of (in_has h3)
  have h4 := crook_of h2
  obtain ⟨j, hj, ej⟩ : ∃ j : Nat, j < 2 ^ 3 ∧ F_partF w = nI j := by unfold F_partF; exact pk_andE _ 3 (by decide)
  rw [ej] at h1 h4 ⊢
  have hj2 : j ≤ 2 := by
    rcases Nat.lt_or_ge 2 j with q | q
    · exact absurd (show nI j ≤ nI 2 from h1) (nI_ge q (by omega))
    · exact q
  have tn : (nI n).toInt = (n : Int) := nI_toInt (by omega)
  rw [tn]
  rcases (show j = 0 ∨ j = 1 ∨ j = 2 by omega) with rfl | rfl | rfl
  · have e : (1 : Int32) <<< (nI 0 &&& 31) = 1 := by decide
    rw [e]
    have e1 : (1 : Int32).toInt = 1 := rfl
    rw [e1]
    omega
  · have e : (1 : Int32) <<< (nI 1 &&& 31) = 2 := by decide
    rw [e] at h4 ⊢
    have e1 : (2 : Int32).toInt = 2 := rfl
    rw [e1]
    have h5 : nI n &&& (2 - 1) = nI (n % 2 ^ 1) := pk_andN (by omega) 1 (by decide)
    rw [h5] at h4
    have h6 := nI_ne0 (n := n % 2 ^ 1)
    have h7 : n % 2 ^ 1 = 0 := by
      rcases Nat.eq_zero_or_pos (n % 2 ^ 1) with q | q
      · exact q
      · exact absurd h4 (h6 q (by omega))
    omega
  · have e : (1 : Int32) <<< (nI 2 &&& 31) = 4 := by decide
    rw [e] at h4 ⊢
    have e1 : (4 : Int32).toInt = 4 := rfl
    rw [e1]
    have h5 : nI n &&& (4 - 1) = nI (n % 2 ^ 2) := pk_andN (by omega) 2 (by decide)
    rw [h5] at h4
    have h6 := nI_ne0 (n := n % 2 ^ 2)
    have h7 : n % 2 ^ 2 = 0 := by
      rcases Nat.eq_zero_or_pos (n % 2 ^ 2) with q | q
      · exact q
      · exact absurd h4 (h6 q (by omega))
    omega
def F_bytesFrom (wd : Nat → Int32) (a1 : Int32) : Int32 :=
  ((wd ((a1.toUInt32 >>> ((2 : Int32).toUInt32 &&& Int32.toUInt32 31)).toInt32).toNatClampNeg).toUInt32 >>> (((a1 &&& 3) * 8).toUInt32 &&& Int32.toUInt32 31)).toInt32
set_option maxHeartbeats 4000000 in
set_option maxRecDepth 100000 in
theorem c_bytesFrom (l : Launch) (dC : Nat → ClassId) (dI : Nat → Nat → Nat) (x0 xw xr xg : Nat) (c1 c2 c3 : ClassId) (wd : Nat → Int32) (rg : Nat → Int32) (rs : Nat → Int32) (pcv : Int32) (trv : Int32) (vav : Int32) (dnv : Int32) (a1 : Int32) (hin : ¬ F_isInPages a1 = 0) : Met l yX0_bytesFrom wsX0_bytesFrom ({ frames := 0, cells := 0, slots := 0, locals := 0 }) (va_Pc [.ref x0, .int a1] (fun U => va_P (dC, dI) vwCl [(x0, .inr (0, [.ref xw, .ref xr, .ref xg, .int pcv, .int trv, .int vav, .int dnv])), (xw, .inl (c1, 4096, .inl wd)), (xr, .inl (c2, 4, .inl rg)), (xg, .inl (c3, 32, .inl rs))] U.heap ∧ va_K (dC, dI) vwCl [(c1, .int), (c2, .int), (c3, .int)] U)) (vp_Si (fun r : Int32 => r = F_bytesFrom wd a1)) 0 0 (fun _ => False) := by
  refine Met.ofW (cc := cX0_bytesFrom) (maxL := 2) (ret := (some .int)) (by decide) rfl ?_
  intro p e s m args below meth c s₁ B hml hv
  obtain ⟨rfl, hP, hK⟩ := hv
  have hx := B.exec
  have hb := B.bytes
  have hr := B.returns
  have hts := atoms_spec (ws := wsX0_bytesFrom) B.pre
  have hown : s.vm.findClass RX0 = some m.cls := findClass_of_methodNamed B.named
  have hlocks := B.notSynchronized
  have hP : va_P (dC, dI) vwCl [(x0, .inr (0, [.ref xw, .ref xr, .ref xg, .int pcv, .int trv, .int vav, .int dnv])), (xw, .inl (c1, 4096, .inl wd)), (xr, .inl (c2, 4, .inl rg)), (xg, .inl (c3, 32, .inl rs))] s.heap := hP
  have hl := lv_entry ([.ref x0, .int a1]) (n := 2) (Nat.le_of_ble_eq_true rfl)
  rw [lg_entry_eq]
  generalize (lg_sl ([.ref x0, .int a1]) ++ List.replicate (2 - (lg_sl ([.ref x0, .int a1])).length) Slot.unset).toArray = ls at hl ⊢
  have hl : lv_has ls 2 [(0, .ref x0), (1, .int a1)] := hl
  refine lv_aload_n hx hb dX0_bytesFrom_0 rfl (lv_at hl 0 rfl) ?_
  refine va_get (D := (dC, dI)) (ci := 0) (v := .ref xw) (C := RX0) (T := TX0) (N := 7) hx hb hts (gw_lay lay_X0) hown hK hP 0 rfl rfl 0 (by decide) (hts _ (gcons mF_X0_9)) (fun _ h9 => h9) rfl dX0_bytesFrom_1 ?_
  refine lv_iload_n hx hb dX0_bytesFrom_4 rfl (lv_at hl 1 rfl) ?_
  refine lv_iconst (v := 2) hx hb dX0_bytesFrom_5 (by decide) ?_
  refine lv_iushr (v := (a1.toUInt32 >>> ((2 : Int32).toUInt32 &&& Int32.toUInt32 31)).toInt32) hx hb dX0_bytesFrom_6 rfl ?_
  refine va_iald hx hb hK hP 1 0 rfl rfl (in_word hin) dX0_bytesFrom_7 ?_
  refine lv_iload_n hx hb dX0_bytesFrom_8 rfl (lv_at hl 1 rfl) ?_
  refine lv_iconst (v := 3) hx hb dX0_bytesFrom_9 (by decide) ?_
  refine lv_iand hx hb dX0_bytesFrom_10 ?_
  refine lv_bipush (v := 8) hx hb dX0_bytesFrom_11 (by decide) ?_
  refine lv_imul hx hb dX0_bytesFrom_13 ?_
  refine lv_iushr (v := ((wd ((a1.toUInt32 >>> ((2 : Int32).toUInt32 &&& Int32.toUInt32 31)).toInt32).toNatClampNeg).toUInt32 >>> (((a1 &&& 3) * 8).toUInt32 &&& Int32.toUInt32 31)).toInt32) hx hb dX0_bytesFrom_14 rfl ?_
  exact W.iret (v := ((wd ((a1.toUInt32 >>> ((2 : Int32).toUInt32 &&& Int32.toUInt32 31)).toInt32).toNatClampNeg).toUInt32 >>> (((a1 &&& 3) * 8).toUInt32 &&& Int32.toUInt32 31)).toInt32) hx hb hr (fun t ht hW => ⟨_, rfl, (by unfold F_bytesFrom; rfl), ht⟩) (fun _ h => by cases h) dX0_bytesFrom_15
end
section
def F_putRegister (rs : Nat → Int32) (a1 : Int32) (a2 : Int32) : (Nat → Int32) :=
  if a1 ≤ 0 then
    rs
  else
    if (32 : Int32) ≤ a1 then
      rs
    else
      upd rs a1.toNatClampNeg a2
set_option maxHeartbeats 4000000 in
set_option maxRecDepth 100000 in
theorem c_putRegister (l : Launch) (dC : Nat → ClassId) (dI : Nat → Nat → Nat) (x0 xw xr xg : Nat) (c1 c2 c3 : ClassId) (sz : Nat) (wd : Nat → Int32) (rg : Nat → Int32) (rs : Nat → Int32) (pcv : Int32) (trv : Int32) (vav : Int32) (dnv : Int32) (a1 : Int32) (a2 : Int32)  : Met l yX0_putRegister wsX0_putRegister ({ frames := 0, cells := 0, slots := 0, locals := 0 }) (va_Pc [.ref x0, .int a1, .int a2] (fun U => U.heap.size = sz ∧ va_P (dC, dI) vwCl [(x0, .inr (0, [.ref xw, .ref xr, .ref xg, .int pcv, .int trv, .int vav, .int dnv])), (xw, .inl (c1, 4096, .inl wd)), (xr, .inl (c2, 4, .inl rg)), (xg, .inl (c3, 32, .inl rs))] U.heap ∧ va_K (dC, dI) vwCl [(c1, .int), (c2, .int), (c3, .int)] U ∧ va_D (fun _ => True) [(x0, .inr (0, [.ref xw, .ref xr, .ref xg, .int pcv, .int trv, .int vav, .int dnv])), (xw, .inl (c1, 4096, .inl wd)), (xr, .inl (c2, 4, .inl rg)), (xg, .inl (c3, 32, .inl rs))])) (va_Qv (fun u : (Nat → Int32) => u = F_putRegister rs a1 a2) (fun (u : (Nat → Int32)) (t : State) => va_P (dC, dI) vwCl [(x0, .inr (0, [.ref xw, .ref xr, .ref xg, .int pcv, .int trv, .int vav, .int dnv])), (xw, .inl (c1, 4096, .inl wd)), (xr, .inl (c2, 4, .inl rg)), (xg, .inl (c3, 32, .inl u))] t.heap ∧ va_K (dC, dI) vwCl [(c1, .int), (c2, .int), (c3, .int)] t ∧ va_D (va_A [(x0, .inr (0, [.ref xw, .ref xr, .ref xg, .int pcv, .int trv, .int vav, .int dnv])), (xw, .inl (c1, 4096, .inl wd)), (xr, .inl (c2, 4, .inl rg)), (xg, .inl (c3, 32, .inl rs))] sz) [(x0, .inr (0, [.ref xw, .ref xr, .ref xg, .int pcv, .int trv, .int vav, .int dnv])), (xw, .inl (c1, 4096, .inl wd)), (xr, .inl (c2, 4, .inl rg)), (xg, .inl (c3, 32, .inl u))]) (va_A [(x0, .inr (0, [.ref xw, .ref xr, .ref xg, .int pcv, .int trv, .int vav, .int dnv])), (xw, .inl (c1, 4096, .inl wd)), (xr, .inl (c2, 4, .inl rg)), (xg, .inl (c3, 32, .inl rs))] sz)) 0 0 (va_A [(x0, .inr (0, [.ref xw, .ref xr, .ref xg, .int pcv, .int trv, .int vav, .int dnv])), (xw, .inl (c1, 4096, .inl wd)), (xr, .inl (c2, 4, .inl rg)), (xg, .inl (c3, 32, .inl rs))] sz) := by
  refine Met.ofW (cc := cX0_putRegister) (maxL := 3) (ret := none) (by decide) rfl ?_
  intro p e s m args below meth c s₁ B hml hv
  obtain ⟨rfl, hsz, hP, hK, hD0⟩ := hv
  have hx := B.exec
  have hb := B.bytes
  have hr := B.returns
  have hts := atoms_spec (ws := wsX0_putRegister) B.pre
  have hown : s.vm.findClass RX0 = some m.cls := findClass_of_methodNamed B.named
  have hlocks := B.notSynchronized
  subst hsz
  have hD := hD0.self (sz := s.heap.size)
  generalize hAe : va_A [(x0, .inr (0, [.ref xw, .ref xr, .ref xg, .int pcv, .int trv, .int vav, .int dnv])), (xw, .inl (c1, 4096, .inl wd)), (xr, .inl (c2, 4, .inl rg)), (xg, .inl (c3, 32, .inl rs))] s.heap.size = A at hD ⊢
  have hA : ∀ q : Nat, s.heap.size ≤ q → A q := fun q h => by rw [← hAe]; exact Or.inr h
  have hS : va_S A s.heap s.heap [] := va_S.rf
  have hP : va_P (dC, dI) vwCl [(x0, .inr (0, [.ref xw, .ref xr, .ref xg, .int pcv, .int trv, .int vav, .int dnv])), (xw, .inl (c1, 4096, .inl wd)), (xr, .inl (c2, 4, .inl rg)), (xg, .inl (c3, 32, .inl rs))] s.heap := hP
  have hl := lv_entry ([.ref x0, .int a1, .int a2]) (n := 3) (Nat.le_of_ble_eq_true rfl)
  rw [lg_entry_eq]
  generalize (lg_sl ([.ref x0, .int a1, .int a2]) ++ List.replicate (3 - (lg_sl ([.ref x0, .int a1, .int a2])).length) Slot.unset).toArray = ls at hl ⊢
  have hl : lv_has ls 3 [(0, .ref x0), (1, .int a1), (2, .int a2)] := hl
  refine lv_iload_n hx hb dX0_putRegister_0 rfl (lv_at hl 1 rfl) ?_
  refine lv_if_le (tgt := 17) hx hb dX0_putRegister_1 (by decide) (fun c_1 => ?_) (fun c_1 => ?_)
  · exact W.vret hx hb hr (fun t ht hW => ⟨⟨rs, rfl, (by unfold F_putRegister; rw [if_pos c_1]), by rw [ht]; exact hP, va_K.moved hW.alike hK, hD⟩, hS.F ht⟩) hS.2.2 dX0_putRegister_17
  · refine lv_iload_n hx hb dX0_putRegister_4 rfl (lv_at hl 1 rfl) ?_
    refine lv_bipush (v := 32) hx hb dX0_putRegister_5 (by decide) ?_
    refine lv_icmp_ge (tgt := 17) hx hb dX0_putRegister_7 (by decide) (fun c_2 => ?_) (fun c_2 => ?_)
    · exact W.vret hx hb hr (fun t ht hW => ⟨⟨rs, rfl, (by unfold F_putRegister; rw [if_neg c_1, if_pos c_2]), by rw [ht]; exact hP, va_K.moved hW.alike hK, hD⟩, hS.F ht⟩) hS.2.2 dX0_putRegister_17
    · refine lv_aload_n hx hb dX0_putRegister_10 rfl (lv_at hl 0 rfl) ?_
      refine va_get (D := (dC, dI)) (ci := 0) (v := .ref xg) (C := RX0) (T := TX0) (N := 7) hx hb hts (gw_lay lay_X0) hown hK hP 0 rfl rfl 2 (by decide) (hts _ (gcons mF_X0_16)) (fun _ h9 => h9) rfl dX0_putRegister_11 ?_
      refine lv_iload_n hx hb dX0_putRegister_14 rfl (lv_at hl 1 rfl) ?_
      refine lv_iload_n hx hb dX0_putRegister_15 rfl (lv_at hl 2 rfl) ?_
      refine va_iast hx hb hK hP hD hS 3 2 rfl rfl (in_reg c_1 c_2) dX0_putRegister_16 (fun H locs hP hD hS => ?_)
      have hP : va_P (dC, dI) vwCl [(x0, .inr (0, [.ref xw, .ref xr, .ref xg, .int pcv, .int trv, .int vav, .int dnv])), (xw, .inl (c1, 4096, .inl wd)), (xr, .inl (c2, 4, .inl rg)), (xg, .inl (c3, 32, .inl (upd rs a1.toNatClampNeg a2)))] H := hP
      have hD : va_D A [(x0, .inr (0, [.ref xw, .ref xr, .ref xg, .int pcv, .int trv, .int vav, .int dnv])), (xw, .inl (c1, 4096, .inl wd)), (xr, .inl (c2, 4, .inl rg)), (xg, .inl (c3, 32, .inl (upd rs a1.toNatClampNeg a2)))] := hD
      exact W.vret hx hb hr (fun t ht hW => ⟨⟨upd rs a1.toNatClampNeg a2, rfl, (by unfold F_putRegister; rw [if_neg c_1, if_neg c_2]), by rw [ht]; exact hP, va_K.moved hW.alike hK, hD⟩, hS.F ht⟩) hS.2.2 dX0_putRegister_17
/-- words behind j bytes -/
def pbN (wd : Nat → Int32) (a1 : Int32) (a3 : Int64) : Nat → (Nat → Int32)
  | 0 => wd
  | j + 1 => upd ((pbN wd a1 a3 j)) (((a1 + (nI j)).toUInt32 >>> ((2 : Int32).toUInt32 &&& Int32.toUInt32 31)).toInt32).toNatClampNeg (((((pbN wd a1 a3 j)) (((a1 + (nI j)).toUInt32 >>> ((2 : Int32).toUInt32 &&& Int32.toUInt32 31)).toInt32).toNatClampNeg) &&& ((255 <<< ((((a1 + (nI j)) &&& 3) * 8) &&& 31)) ^^^ ((-1)))) ||| (((((a3.toUInt64 >>> ((8 * (nI j)).toInt64.toUInt64 &&& Int64.toUInt64 63)).toInt64).toInt32) &&& 255) <<< ((((a1 + (nI j)) &&& 3) * 8) &&& 31)))
def F_putBytes (wd : Nat → Int32) (a1 : Int32) (a2 : Int32) (a3 : Int64) : Nat → Int32 := pbN wd a1 a3 a2.toNatClampNeg
set_option maxHeartbeats 4000000 in
set_option maxRecDepth 100000 in
theorem c_putBytes (l : Launch) (dC : Nat → ClassId) (dI : Nat → Nat → Nat) (x0 xw xr xg : Nat) (c1 c2 c3 : ClassId) (sz : Nat) (wd : Nat → Int32) (rg : Nat → Int32) (rs : Nat → Int32) (pcv : Int32) (trv : Int32) (vav : Int32) (dnv : Int32) (a1 : Int32) (a2 : Int32) (a3 : Int64) (hpb : 0 ≤ a1.toInt ∧ 0 ≤ a2.toInt ∧ a2.toInt ≤ 8 ∧ a1.toInt + a2.toInt ≤ 16384) : Met l yX0_putBytes wsX0_putBytes ({ frames := 0, cells := 0, slots := 0, locals := 0 }) (va_Pc [.ref x0, .int a1, .int a2, .long a3] (fun U => U.heap.size = sz ∧ va_P (dC, dI) vwCl [(x0, .inr (0, [.ref xw, .ref xr, .ref xg, .int pcv, .int trv, .int vav, .int dnv])), (xw, .inl (c1, 4096, .inl wd)), (xr, .inl (c2, 4, .inl rg)), (xg, .inl (c3, 32, .inl rs))] U.heap ∧ va_K (dC, dI) vwCl [(c1, .int), (c2, .int), (c3, .int)] U ∧ va_D (fun _ => True) [(x0, .inr (0, [.ref xw, .ref xr, .ref xg, .int pcv, .int trv, .int vav, .int dnv])), (xw, .inl (c1, 4096, .inl wd)), (xr, .inl (c2, 4, .inl rg)), (xg, .inl (c3, 32, .inl rs))])) (va_Qv (fun u : (Nat → Int32) => u = F_putBytes wd a1 a2 a3) (fun (u : (Nat → Int32)) (t : State) => va_P (dC, dI) vwCl [(x0, .inr (0, [.ref xw, .ref xr, .ref xg, .int pcv, .int trv, .int vav, .int dnv])), (xw, .inl (c1, 4096, .inl u)), (xr, .inl (c2, 4, .inl rg)), (xg, .inl (c3, 32, .inl rs))] t.heap ∧ va_K (dC, dI) vwCl [(c1, .int), (c2, .int), (c3, .int)] t ∧ va_D (va_A [(x0, .inr (0, [.ref xw, .ref xr, .ref xg, .int pcv, .int trv, .int vav, .int dnv])), (xw, .inl (c1, 4096, .inl wd)), (xr, .inl (c2, 4, .inl rg)), (xg, .inl (c3, 32, .inl rs))] sz) [(x0, .inr (0, [.ref xw, .ref xr, .ref xg, .int pcv, .int trv, .int vav, .int dnv])), (xw, .inl (c1, 4096, .inl u)), (xr, .inl (c2, 4, .inl rg)), (xg, .inl (c3, 32, .inl rs))]) (va_A [(x0, .inr (0, [.ref xw, .ref xr, .ref xg, .int pcv, .int trv, .int vav, .int dnv])), (xw, .inl (c1, 4096, .inl wd)), (xr, .inl (c2, 4, .inl rg)), (xg, .inl (c3, 32, .inl rs))] sz)) 0 0 (va_A [(x0, .inr (0, [.ref xw, .ref xr, .ref xg, .int pcv, .int trv, .int vav, .int dnv])), (xw, .inl (c1, 4096, .inl wd)), (xr, .inl (c2, 4, .inl rg)), (xg, .inl (c3, 32, .inl rs))] sz) := by
  refine Met.ofW (cc := cX0_putBytes) (maxL := 9) (ret := none) (by decide) rfl ?_
  intro p e s m args below meth c s₁ B hml hv
  obtain ⟨rfl, hsz, hP, hK, hD0⟩ := hv
  have hx := B.exec
  have hb := B.bytes
  have hr := B.returns
  have hts := atoms_spec (ws := wsX0_putBytes) B.pre
  have hown : s.vm.findClass RX0 = some m.cls := findClass_of_methodNamed B.named
  have hlocks := B.notSynchronized
  subst hsz
  have hD := hD0.self (sz := s.heap.size)
  generalize hAe : va_A [(x0, .inr (0, [.ref xw, .ref xr, .ref xg, .int pcv, .int trv, .int vav, .int dnv])), (xw, .inl (c1, 4096, .inl wd)), (xr, .inl (c2, 4, .inl rg)), (xg, .inl (c3, 32, .inl rs))] s.heap.size = A at hD ⊢
  have hA : ∀ q : Nat, s.heap.size ≤ q → A q := fun q h => by rw [← hAe]; exact Or.inr h
  have hS : va_S A s.heap s.heap [] := va_S.rf
  have hP : va_P (dC, dI) vwCl [(x0, .inr (0, [.ref xw, .ref xr, .ref xg, .int pcv, .int trv, .int vav, .int dnv])), (xw, .inl (c1, 4096, .inl wd)), (xr, .inl (c2, 4, .inl rg)), (xg, .inl (c3, 32, .inl rs))] s.heap := hP
  have hl := lv_entry ([.ref x0, .int a1, .int a2, .long a3]) (n := 9) (Nat.le_of_ble_eq_true rfl)
  rw [lg_entry_eq]
  generalize (lg_sl ([.ref x0, .int a1, .int a2, .long a3]) ++ List.replicate (9 - (lg_sl ([.ref x0, .int a1, .int a2, .long a3])).length) Slot.unset).toArray = ls at hl ⊢
  have hl : lv_has ls 9 [(0, .ref x0), (1, .int a1), (2, .int a2), (3, .long a3)] := hl
  obtain ⟨n, hn, rfl⟩ : ∃ n : Nat, n ≤ 8 ∧ a2 = nI n := pb_n hpb
  have hcl : (nI n).toNatClampNeg = n := nI_clamp (by omega)
  refine lv_iconst (v := 0) hx hb dX0_putBytes_0 (by decide) ?_
  refine lv_istore (lv' := [(5, .int 0), (0, .ref x0), (1, .int a1), (2, .int (nI n)), (3, .long a3)]) hx hb dX0_putBytes_1 hl (by decide) rfl (fun ls hl => ?_)
  refine lv_loop (n := n) (P := fun j H locs ls => va_P (dC, dI) vwCl [(x0, .inr (0, [.ref xw, .ref xr, .ref xg, .int pcv, .int trv, .int vav, .int dnv])), (xw, .inl (c1, 4096, .inl ((pbN wd a1 a3 j)))), (xr, .inl (c2, 4, .inl rg)), (xg, .inl (c3, 32, .inl rs))] H ∧ va_D A [(x0, .inr (0, [.ref xw, .ref xr, .ref xg, .int pcv, .int trv, .int vav, .int dnv])), (xw, .inl (c1, 4096, .inl ((pbN wd a1 a3 j)))), (xr, .inl (c2, 4, .inl rg)), (xg, .inl (c3, 32, .inl rs))] ∧ va_S A s.heap H locs ∧ lv_has ls 9 [(5, .int (nI j)), (0, .ref x0), (1, .int a1), (2, .int (nI n)), (3, .long a3)]) (Wg := fun H locs ls => W p l e _ s m _ below meth c H locs 0 0 _ (F0 m 3 ls [])) ?_ n 0 s.heap [] ls (by omega) (Nat.zero_le _) ⟨hP, hD, hS, hl⟩
  clear hP hD hS hl ls
  rintro j H locs ls hj ⟨hP, hD, hS, hl⟩ ih
  refine lv_iload hx hb dX0_putBytes_3 (lv_at hl 0 rfl) ?_
  refine lv_iload_n hx hb dX0_putBytes_5 rfl (lv_at hl 3 rfl) ?_
  refine lv_icmp_ge (tgt := 77) hx hb dX0_putBytes_6 (by decide) (fun c_1 => ?_) (fun c_1 => ?_)
  · exact W.vret hx hb hr (fun t ht hW => ⟨⟨(pbN wd a1 a3 j), rfl, (by unfold F_putBytes; rw [hcl, pb_eq hn hj c_1]), by rw [ht]; exact hP, va_K.moved hW.alike hK, hD⟩, hS.F ht⟩) hS.2.2 dX0_putBytes_77
  · have hlt : j < n := pb_lt hn hj c_1
    refine lv_iload_n hx hb dX0_putBytes_9 rfl (lv_at hl 2 rfl) ?_
    refine lv_iload hx hb dX0_putBytes_10 (lv_at hl 0 rfl) ?_
    refine lv_iadd hx hb dX0_putBytes_12 ?_
    refine lv_istore (lv' := [(6, .int (a1 + (nI j))), (5, .int (nI j)), (0, .ref x0), (1, .int a1), (2, .int (nI n)), (3, .long a3)]) hx hb dX0_putBytes_13 hl (by decide) rfl (fun ls hl => ?_)
    refine lv_iload hx hb dX0_putBytes_15 (lv_at hl 0 rfl) ?_
    refine lv_iconst (v := 3) hx hb dX0_putBytes_17 (by decide) ?_
    refine lv_iand hx hb dX0_putBytes_18 ?_
    refine lv_bipush (v := 8) hx hb dX0_putBytes_19 (by decide) ?_
    refine lv_imul hx hb dX0_putBytes_21 ?_
    refine lv_istore (lv' := [(7, .int (((a1 + (nI j)) &&& 3) * 8)), (6, .int (a1 + (nI j))), (5, .int (nI j)), (0, .ref x0), (1, .int a1), (2, .int (nI n)), (3, .long a3)]) hx hb dX0_putBytes_22 hl (by decide) rfl (fun ls hl => ?_)
    refine lv_lload_n hx hb dX0_putBytes_24 rfl (lv_at hl 6 rfl) ?_
    refine lv_bipush (v := 8) hx hb dX0_putBytes_25 (by decide) ?_
    refine lv_iload hx hb dX0_putBytes_27 (lv_at hl 2 rfl) ?_
    refine lv_imul hx hb dX0_putBytes_29 ?_
    refine lv_lushr (v := (a3.toUInt64 >>> ((8 * (nI j)).toInt64.toUInt64 &&& Int64.toUInt64 63)).toInt64) hx hb dX0_putBytes_30 rfl ?_
    refine lv_l2i (v := ((a3.toUInt64 >>> ((8 * (nI j)).toInt64.toUInt64 &&& Int64.toUInt64 63)).toInt64).toInt32) hx hb dX0_putBytes_31 rfl ?_
    refine lv_sipush (v := 255) hx hb dX0_putBytes_32 (by decide) ?_
    refine lv_iand hx hb dX0_putBytes_35 ?_
    refine lv_istore (lv' := [(8, .int ((((a3.toUInt64 >>> ((8 * (nI j)).toInt64.toUInt64 &&& Int64.toUInt64 63)).toInt64).toInt32) &&& 255)), (7, .int (((a1 + (nI j)) &&& 3) * 8)), (6, .int (a1 + (nI j))), (5, .int (nI j)), (0, .ref x0), (1, .int a1), (2, .int (nI n)), (3, .long a3)]) hx hb dX0_putBytes_36 hl (by decide) rfl (fun ls hl => ?_)
    refine lv_aload_n hx hb dX0_putBytes_38 rfl (lv_at hl 4 rfl) ?_
    refine va_get (D := (dC, dI)) (ci := 0) (v := .ref xw) (C := RX0) (T := TX0) (N := 7) hx hb hts (gw_lay lay_X0) hown hK hP 0 rfl rfl 0 (by decide) (hts _ (gcons mF_X0_9)) (fun _ h9 => h9) rfl dX0_putBytes_39 ?_
    refine lv_iload hx hb dX0_putBytes_42 (lv_at hl 2 rfl) ?_
    refine lv_iconst (v := 2) hx hb dX0_putBytes_44 (by decide) ?_
    refine lv_iushr (v := ((a1 + (nI j)).toUInt32 >>> ((2 : Int32).toUInt32 &&& Int32.toUInt32 31)).toInt32) hx hb dX0_putBytes_45 rfl ?_
    refine lv_aload_n hx hb dX0_putBytes_46 rfl (lv_at hl 4 rfl) ?_
    refine va_get (D := (dC, dI)) (ci := 0) (v := .ref xw) (C := RX0) (T := TX0) (N := 7) hx hb hts (gw_lay lay_X0) hown hK hP 0 rfl rfl 0 (by decide) (hts _ (gcons mF_X0_9)) (fun _ h9 => h9) rfl dX0_putBytes_47 ?_
    refine lv_iload hx hb dX0_putBytes_50 (lv_at hl 2 rfl) ?_
    refine lv_iconst (v := 2) hx hb dX0_putBytes_52 (by decide) ?_
    refine lv_iushr (v := ((a1 + (nI j)).toUInt32 >>> ((2 : Int32).toUInt32 &&& Int32.toUInt32 31)).toInt32) hx hb dX0_putBytes_53 rfl ?_
    refine va_iald hx hb hK hP 1 0 rfl rfl (in_pb hn hpb hlt) dX0_putBytes_54 ?_
    refine lv_sipush (v := 255) hx hb dX0_putBytes_55 (by decide) ?_
    refine lv_iload hx hb dX0_putBytes_58 (lv_at hl 1 rfl) ?_
    refine lv_ishl hx hb dX0_putBytes_60 ?_
    refine lv_iconst (v := (-1)) hx hb dX0_putBytes_61 (by decide) ?_
    refine lv_ixor hx hb dX0_putBytes_62 ?_
    refine lv_iand hx hb dX0_putBytes_63 ?_
    refine lv_iload hx hb dX0_putBytes_64 (lv_at hl 0 rfl) ?_
    refine lv_iload hx hb dX0_putBytes_66 (lv_at hl 1 rfl) ?_
    refine lv_ishl hx hb dX0_putBytes_68 ?_
    refine lv_ior hx hb dX0_putBytes_69 ?_
    refine va_iast hx hb hK hP hD hS 1 0 rfl rfl (in_pb hn hpb hlt) dX0_putBytes_70 (fun H locs hP hD hS => ?_)
    have hP : va_P (dC, dI) vwCl [(x0, .inr (0, [.ref xw, .ref xr, .ref xg, .int pcv, .int trv, .int vav, .int dnv])), (xw, .inl (c1, 4096, .inl (upd ((pbN wd a1 a3 j)) (((a1 + (nI j)).toUInt32 >>> ((2 : Int32).toUInt32 &&& Int32.toUInt32 31)).toInt32).toNatClampNeg (((((pbN wd a1 a3 j)) (((a1 + (nI j)).toUInt32 >>> ((2 : Int32).toUInt32 &&& Int32.toUInt32 31)).toInt32).toNatClampNeg) &&& ((255 <<< ((((a1 + (nI j)) &&& 3) * 8) &&& 31)) ^^^ ((-1)))) ||| (((((a3.toUInt64 >>> ((8 * (nI j)).toInt64.toUInt64 &&& Int64.toUInt64 63)).toInt64).toInt32) &&& 255) <<< ((((a1 + (nI j)) &&& 3) * 8) &&& 31)))))), (xr, .inl (c2, 4, .inl rg)), (xg, .inl (c3, 32, .inl rs))] H := hP
    have hD : va_D A [(x0, .inr (0, [.ref xw, .ref xr, .ref xg, .int pcv, .int trv, .int vav, .int dnv])), (xw, .inl (c1, 4096, .inl (upd ((pbN wd a1 a3 j)) (((a1 + (nI j)).toUInt32 >>> ((2 : Int32).toUInt32 &&& Int32.toUInt32 31)).toInt32).toNatClampNeg (((((pbN wd a1 a3 j)) (((a1 + (nI j)).toUInt32 >>> ((2 : Int32).toUInt32 &&& Int32.toUInt32 31)).toInt32).toNatClampNeg) &&& ((255 <<< ((((a1 + (nI j)) &&& 3) * 8) &&& 31)) ^^^ ((-1)))) ||| (((((a3.toUInt64 >>> ((8 * (nI j)).toInt64.toUInt64 &&& Int64.toUInt64 63)).toInt64).toInt32) &&& 255) <<< ((((a1 + (nI j)) &&& 3) * 8) &&& 31)))))), (xr, .inl (c2, 4, .inl rg)), (xg, .inl (c3, 32, .inl rs))] := hD
    refine lv_iinc (v := (nI j) + 1) (lv' := [(5, .int ((nI j) + 1)), (8, .int ((((a3.toUInt64 >>> ((8 * (nI j)).toInt64.toUInt64 &&& Int64.toUInt64 63)).toInt64).toInt32) &&& 255)), (7, .int (((a1 + (nI j)) &&& 3) * 8)), (6, .int (a1 + (nI j))), (0, .ref x0), (1, .int a1), (2, .int (nI n)), (3, .long a3)]) hx hb dX0_putBytes_71 hl (k := 3) rfl rfl (by decide) rfl (fun ls hl => ?_)
    refine lv_goto (tgt := 3) hx hb dX0_putBytes_74 (by decide) ?_
    have hl := lv_sub hl [0, 4, 5, 6, 7] rfl
    have hl : lv_has ls 9 [(5, .int (nI j + 1)), (0, .ref x0), (1, .int a1), (2, .int (nI n)), (3, .long a3)] := hl
    rw [nI_1] at hl
    exact ih H locs ls hlt ⟨hP, hD, hS, hl⟩
def F_trapWith (wd : Nat → Int32) (rg : Nat → Int32) (rs : Nat → Int32) (pcv : Int32) (trv : Int32) (vav : Int32) (a1 : Int32) (a2 : Int32) : Int32 × (Nat → Int32) × (Nat → Int32) × Int32 × Int32 × Int32 :=
  (0, (wd, rs, pcv, a1, a2))
set_option maxHeartbeats 4000000 in
set_option maxRecDepth 100000 in
theorem c_trapWith (l : Launch) (dC : Nat → ClassId) (dI : Nat → Nat → Nat) (x0 xw xr xg : Nat) (c1 c2 c3 : ClassId) (sz : Nat) (wd : Nat → Int32) (rg : Nat → Int32) (rs : Nat → Int32) (pcv : Int32) (trv : Int32) (vav : Int32) (dnv : Int32) (a1 : Int32) (a2 : Int32)  : Met l yX0_trapWith wsX0_trapWith ({ frames := 0, cells := 0, slots := 0, locals := 0 }) (va_Pc [.ref x0, .int a1, .int a2] (fun U => U.heap.size = sz ∧ va_P (dC, dI) vwCl [(x0, .inr (0, [.ref xw, .ref xr, .ref xg, .int pcv, .int trv, .int vav, .int dnv])), (xw, .inl (c1, 4096, .inl wd)), (xr, .inl (c2, 4, .inl rg)), (xg, .inl (c3, 32, .inl rs))] U.heap ∧ va_K (dC, dI) vwCl [(c1, .int), (c2, .int), (c3, .int)] U ∧ va_D (fun _ => True) [(x0, .inr (0, [.ref xw, .ref xr, .ref xg, .int pcv, .int trv, .int vav, .int dnv])), (xw, .inl (c1, 4096, .inl wd)), (xr, .inl (c2, 4, .inl rg)), (xg, .inl (c3, 32, .inl rs))])) (va_Qi (fun (r : Int32) (u : (Nat → Int32) × (Nat → Int32) × Int32 × Int32 × Int32) => narrow .boolean (.int r) = .int r ∧ (r, u) = F_trapWith wd rg rs pcv trv vav a1 a2) (fun (u : (Nat → Int32) × (Nat → Int32) × Int32 × Int32 × Int32) (t : State) => va_P (dC, dI) vwCl [(x0, .inr (0, [.ref xw, .ref xr, .ref xg, .int u.2.2.1, .int u.2.2.2.1, .int u.2.2.2.2, .int dnv])), (xw, .inl (c1, 4096, .inl u.1)), (xr, .inl (c2, 4, .inl rg)), (xg, .inl (c3, 32, .inl u.2.1))] t.heap ∧ va_K (dC, dI) vwCl [(c1, .int), (c2, .int), (c3, .int)] t ∧ va_D (va_A [(x0, .inr (0, [.ref xw, .ref xr, .ref xg, .int pcv, .int trv, .int vav, .int dnv])), (xw, .inl (c1, 4096, .inl wd)), (xr, .inl (c2, 4, .inl rg)), (xg, .inl (c3, 32, .inl rs))] sz) [(x0, .inr (0, [.ref xw, .ref xr, .ref xg, .int u.2.2.1, .int u.2.2.2.1, .int u.2.2.2.2, .int dnv])), (xw, .inl (c1, 4096, .inl u.1)), (xr, .inl (c2, 4, .inl rg)), (xg, .inl (c3, 32, .inl u.2.1))]) (va_A [(x0, .inr (0, [.ref xw, .ref xr, .ref xg, .int pcv, .int trv, .int vav, .int dnv])), (xw, .inl (c1, 4096, .inl wd)), (xr, .inl (c2, 4, .inl rg)), (xg, .inl (c3, 32, .inl rs))] sz)) 0 0 (va_A [(x0, .inr (0, [.ref xw, .ref xr, .ref xg, .int pcv, .int trv, .int vav, .int dnv])), (xw, .inl (c1, 4096, .inl wd)), (xr, .inl (c2, 4, .inl rg)), (xg, .inl (c3, 32, .inl rs))] sz) := by
  refine Met.ofW (cc := cX0_trapWith) (maxL := 3) (ret := (some .boolean)) (by decide) rfl ?_
  intro p e s m args below meth c s₁ B hml hv
  obtain ⟨rfl, hsz, hP, hK, hD0⟩ := hv
  have hx := B.exec
  have hb := B.bytes
  have hr := B.returns
  have hts := atoms_spec (ws := wsX0_trapWith) B.pre
  have hown : s.vm.findClass RX0 = some m.cls := findClass_of_methodNamed B.named
  have hlocks := B.notSynchronized
  subst hsz
  have hD := hD0.self (sz := s.heap.size)
  generalize hAe : va_A [(x0, .inr (0, [.ref xw, .ref xr, .ref xg, .int pcv, .int trv, .int vav, .int dnv])), (xw, .inl (c1, 4096, .inl wd)), (xr, .inl (c2, 4, .inl rg)), (xg, .inl (c3, 32, .inl rs))] s.heap.size = A at hD ⊢
  have hA : ∀ q : Nat, s.heap.size ≤ q → A q := fun q h => by rw [← hAe]; exact Or.inr h
  have hS : va_S A s.heap s.heap [] := va_S.rf
  have hP : va_P (dC, dI) vwCl [(x0, .inr (0, [.ref xw, .ref xr, .ref xg, .int pcv, .int trv, .int vav, .int dnv])), (xw, .inl (c1, 4096, .inl wd)), (xr, .inl (c2, 4, .inl rg)), (xg, .inl (c3, 32, .inl rs))] s.heap := hP
  have hl := lv_entry ([.ref x0, .int a1, .int a2]) (n := 3) (Nat.le_of_ble_eq_true rfl)
  rw [lg_entry_eq]
  generalize (lg_sl ([.ref x0, .int a1, .int a2]) ++ List.replicate (3 - (lg_sl ([.ref x0, .int a1, .int a2])).length) Slot.unset).toArray = ls at hl ⊢
  have hl : lv_has ls 3 [(0, .ref x0), (1, .int a1), (2, .int a2)] := hl
  refine lv_aload_n hx hb dX0_trapWith_0 rfl (lv_at hl 0 rfl) ?_
  refine lv_iload_n hx hb dX0_trapWith_1 rfl (lv_at hl 1 rfl) ?_
  refine va_put (D := (dC, dI)) (ci := 0) (v := .int a1) (ty := .int) (C := RX0) (T := TX0) (N := 7) hx hb hts (gw_lay lay_X0) tyX0 tyX0_ok nmX0 hown hK hP hD hS 0 rfl rfl 4 (by decide) (hts _ (gcons mF_X0_23)) (fun _ h9 => h9) rfl (by decide +kernel) rfl rfl (Nat.le_of_ble_eq_true rfl) dX0_trapWith_2 (fun H locs hP hD hS => ?_)
  have hP : va_P (dC, dI) vwCl [(x0, .inr (0, [.ref xw, .ref xr, .ref xg, .int pcv, .int a1, .int vav, .int dnv])), (xw, .inl (c1, 4096, .inl wd)), (xr, .inl (c2, 4, .inl rg)), (xg, .inl (c3, 32, .inl rs))] H := hP
  have hD : va_D A [(x0, .inr (0, [.ref xw, .ref xr, .ref xg, .int pcv, .int a1, .int vav, .int dnv])), (xw, .inl (c1, 4096, .inl wd)), (xr, .inl (c2, 4, .inl rg)), (xg, .inl (c3, 32, .inl rs))] := hD
  refine lv_aload_n hx hb dX0_trapWith_5 rfl (lv_at hl 0 rfl) ?_
  refine lv_iload_n hx hb dX0_trapWith_6 rfl (lv_at hl 2 rfl) ?_
  refine va_put (D := (dC, dI)) (ci := 0) (v := .int a2) (ty := .int) (C := RX0) (T := TX0) (N := 7) hx hb hts (gw_lay lay_X0) tyX0 tyX0_ok nmX0 hown hK hP hD hS 0 rfl rfl 5 (by decide) (hts _ (gcons mF_X0_26)) (fun _ h9 => h9) rfl (by decide +kernel) rfl rfl (Nat.le_of_ble_eq_true rfl) dX0_trapWith_7 (fun H locs hP hD hS => ?_)
  have hP : va_P (dC, dI) vwCl [(x0, .inr (0, [.ref xw, .ref xr, .ref xg, .int pcv, .int a1, .int a2, .int dnv])), (xw, .inl (c1, 4096, .inl wd)), (xr, .inl (c2, 4, .inl rg)), (xg, .inl (c3, 32, .inl rs))] H := hP
  have hD : va_D A [(x0, .inr (0, [.ref xw, .ref xr, .ref xg, .int pcv, .int a1, .int a2, .int dnv])), (xw, .inl (c1, 4096, .inl wd)), (xr, .inl (c2, 4, .inl rg)), (xg, .inl (c3, 32, .inl rs))] := hD
  refine lv_iconst (v := 0) hx hb dX0_trapWith_10 (by decide) ?_
  exact W.zret (v := 0) (ty := .boolean) hx hb hr rfl (fun t ht hW => ⟨⟨_, (wd, rs, pcv, a1, a2), rfl, ⟨rfl, (by unfold F_trapWith; rfl)⟩, by rw [ht]; exact hP, va_K.moved hW.alike hK, hD⟩, hS.F ht⟩) hS.2.2 dX0_trapWith_11
def F_refuse (wd : Nat → Int32) (rg : Nat → Int32) (rs : Nat → Int32) (pcv : Int32) (trv : Int32) (vav : Int32) (a1 : Int32) : Int32 × (Nat → Int32) × (Nat → Int32) × Int32 × Int32 × Int32 :=
  F_trapWith wd rg rs pcv trv vav 2 a1
set_option maxHeartbeats 4000000 in
set_option maxRecDepth 100000 in
theorem c_refuse (l : Launch) (dC : Nat → ClassId) (dI : Nat → Nat → Nat) (x0 xw xr xg : Nat) (c1 c2 c3 : ClassId) (sz : Nat) (wd : Nat → Int32) (rg : Nat → Int32) (rs : Nat → Int32) (pcv : Int32) (trv : Int32) (vav : Int32) (dnv : Int32) (a1 : Int32)  : Met l yX0_refuse wsX0_refuse ({ frames := 1, cells := 0, slots := 0, locals := 22 }) (va_Pc [.ref x0, .int a1] (fun U => U.heap.size = sz ∧ va_P (dC, dI) vwCl [(x0, .inr (0, [.ref xw, .ref xr, .ref xg, .int pcv, .int trv, .int vav, .int dnv])), (xw, .inl (c1, 4096, .inl wd)), (xr, .inl (c2, 4, .inl rg)), (xg, .inl (c3, 32, .inl rs))] U.heap ∧ va_K (dC, dI) vwCl [(c1, .int), (c2, .int), (c3, .int)] U ∧ va_D (fun _ => True) [(x0, .inr (0, [.ref xw, .ref xr, .ref xg, .int pcv, .int trv, .int vav, .int dnv])), (xw, .inl (c1, 4096, .inl wd)), (xr, .inl (c2, 4, .inl rg)), (xg, .inl (c3, 32, .inl rs))])) (va_Qi (fun (r : Int32) (u : (Nat → Int32) × (Nat → Int32) × Int32 × Int32 × Int32) => narrow .boolean (.int r) = .int r ∧ (r, u) = F_refuse wd rg rs pcv trv vav a1) (fun (u : (Nat → Int32) × (Nat → Int32) × Int32 × Int32 × Int32) (t : State) => va_P (dC, dI) vwCl [(x0, .inr (0, [.ref xw, .ref xr, .ref xg, .int u.2.2.1, .int u.2.2.2.1, .int u.2.2.2.2, .int dnv])), (xw, .inl (c1, 4096, .inl u.1)), (xr, .inl (c2, 4, .inl rg)), (xg, .inl (c3, 32, .inl u.2.1))] t.heap ∧ va_K (dC, dI) vwCl [(c1, .int), (c2, .int), (c3, .int)] t ∧ va_D (va_A [(x0, .inr (0, [.ref xw, .ref xr, .ref xg, .int pcv, .int trv, .int vav, .int dnv])), (xw, .inl (c1, 4096, .inl wd)), (xr, .inl (c2, 4, .inl rg)), (xg, .inl (c3, 32, .inl rs))] sz) [(x0, .inr (0, [.ref xw, .ref xr, .ref xg, .int u.2.2.1, .int u.2.2.2.1, .int u.2.2.2.2, .int dnv])), (xw, .inl (c1, 4096, .inl u.1)), (xr, .inl (c2, 4, .inl rg)), (xg, .inl (c3, 32, .inl u.2.1))]) (va_A [(x0, .inr (0, [.ref xw, .ref xr, .ref xg, .int pcv, .int trv, .int vav, .int dnv])), (xw, .inl (c1, 4096, .inl wd)), (xr, .inl (c2, 4, .inl rg)), (xg, .inl (c3, 32, .inl rs))] sz)) 0 0 (va_A [(x0, .inr (0, [.ref xw, .ref xr, .ref xg, .int pcv, .int trv, .int vav, .int dnv])), (xw, .inl (c1, 4096, .inl wd)), (xr, .inl (c2, 4, .inl rg)), (xg, .inl (c3, 32, .inl rs))] sz) := by
  refine Met.ofW (cc := cX0_refuse) (maxL := 2) (ret := (some .boolean)) (by decide) rfl ?_
  intro p e s m args below meth c s₁ B hml hv
  obtain ⟨rfl, hsz, hP, hK, hD0⟩ := hv
  have hx := B.exec
  have hb := B.bytes
  have hr := B.returns
  have hts := atoms_spec (ws := wsX0_refuse) B.pre
  have hown : s.vm.findClass RX0 = some m.cls := findClass_of_methodNamed B.named
  have hlocks := B.notSynchronized
  subst hsz
  have hD := hD0.self (sz := s.heap.size)
  generalize hAe : va_A [(x0, .inr (0, [.ref xw, .ref xr, .ref xg, .int pcv, .int trv, .int vav, .int dnv])), (xw, .inl (c1, 4096, .inl wd)), (xr, .inl (c2, 4, .inl rg)), (xg, .inl (c3, 32, .inl rs))] s.heap.size = A at hD ⊢
  have hA : ∀ q : Nat, s.heap.size ≤ q → A q := fun q h => by rw [← hAe]; exact Or.inr h
  have hS : va_S A s.heap s.heap [] := va_S.rf
  have hP : va_P (dC, dI) vwCl [(x0, .inr (0, [.ref xw, .ref xr, .ref xg, .int pcv, .int trv, .int vav, .int dnv])), (xw, .inl (c1, 4096, .inl wd)), (xr, .inl (c2, 4, .inl rg)), (xg, .inl (c3, 32, .inl rs))] s.heap := hP
  have hl := lv_entry ([.ref x0, .int a1]) (n := 2) (Nat.le_of_ble_eq_true rfl)
  rw [lg_entry_eq]
  generalize (lg_sl ([.ref x0, .int a1]) ++ List.replicate (2 - (lg_sl ([.ref x0, .int a1])).length) Slot.unset).toArray = ls at hl ⊢
  have hl : lv_has ls 2 [(0, .ref x0), (1, .int a1)] := hl
  refine lv_aload_n hx hb dX0_refuse_0 rfl (lv_at hl 0 rfl) ?_
  refine lv_iconst (v := 2) hx hb dX0_refuse_1 (by decide) ?_
  refine lv_iload_n hx hb dX0_refuse_2 rfl (lv_at hl 1 rfl) ?_
  have hFc := va_free (wc := [(x0, .inr (0, [.ref xw, .ref xr, .ref xg, .int pcv, .int trv, .int vav, .int dnv])), (xw, .inl (c1, 4096, .inl wd)), (xr, .inl (c2, 4, .inl rg)), (xg, .inl (c3, 32, .inl rs))]) hD hS hA [0, 1, 2, 3] rfl
  refine va_calli (va_runV (As := [.int 2, .int a1]) (rest := []) ⟨hx, hb, hml, hown, hts⟩ (c_trapWith l dC dI x0 xw xr xg c1 c2 c3 s.heap.size wd rg rs pcv trv vav dnv 2 a1) (cwV 2 hts (gV mL_X0_66 mI_X0_trapWith mE_X0_trapWith mN_X0 mC_X0_trapWith) rfl rfl rfl (by decide +kernel) ⟨Nat.le_of_ble_eq_true rfl, Nat.le_of_ble_eq_true rfl⟩) ⟨fun a U g mk q => by obtain ⟨q0, q1, qP, qK, qD⟩ := q; exact ⟨q0, q1, qP, va_K.moved (u := U) (U := U.calling g mk a) (Vm.Alike.refl U.vm) qK, qD⟩, va_recv hK hP (ci := 0) (q0 := 0) rfl rfl, fun U hU hW => ⟨rfl, by rw [hU], by rw [hU]; exact hP, va_K.moved hW.alike hK, hD.weaken (fun _ _ _ _ => trivial)⟩⟩ rfl rfl hl.1 rfl (lv_room (Nat.le_of_ble_eq_true rfl)) dX0_refuse_3 ⟨Nat.zero_le _, Nat.zero_le _⟩) hS (fun q _ h => hFc q h) hFc (fun r_1 u t H1 locs ht hvm hw hB hz1 hk1 hS => ?_)
  obtain ⟨b_2, hw⟩ := hw
  obtain ⟨wd_3, rs_4, pcv_5, trv_6, vav_7⟩ := u
  obtain ⟨hP1, hK1, hD1⟩ := hB
  rw [ht] at hP1
  obtain ⟨hP, hD⟩ := va_join (wr := []) (w1 := [(x0, .inr (0, [.ref xw, .ref xr, .ref xg, .int pcv_5, .int trv_6, .int vav_7, .int dnv])), (xw, .inl (c1, 4096, .inl wd_3)), (xr, .inl (c2, 4, .inl rg)), (xg, .inl (c3, 32, .inl rs_4))]) hP hD [0, 1, 2, 3] [] rfl rfl (by decide) (by decide) hk1 hFc hP1 hD1
  generalize H1 = H at hP hS ⊢
  have hP : va_P (dC, dI) vwCl [(x0, .inr (0, [.ref xw, .ref xr, .ref xg, .int pcv_5, .int trv_6, .int vav_7, .int dnv])), (xw, .inl (c1, 4096, .inl wd_3)), (xr, .inl (c2, 4, .inl rg)), (xg, .inl (c3, 32, .inl rs_4))] H := hP
  have hD : va_D A [(x0, .inr (0, [.ref xw, .ref xr, .ref xg, .int pcv_5, .int trv_6, .int vav_7, .int dnv])), (xw, .inl (c1, 4096, .inl wd_3)), (xr, .inl (c2, 4, .inl rg)), (xg, .inl (c3, 32, .inl rs_4))] := hD
  exact W.zret (v := r_1) (ty := .boolean) hx hb hr b_2 (fun t ht hW => ⟨⟨_, (wd_3, rs_4, pcv_5, trv_6, vav_7), rfl, ⟨b_2, (by unfold F_refuse; exact hw)⟩, by rw [ht]; exact hP, va_K.moved hW.alike hK, hD⟩, hS.F ht⟩) hS.2.2 dX0_refuse_6
def F_linkAndGo (wd : Nat → Int32) (rg : Nat → Int32) (rs : Nat → Int32) (pcv : Int32) (trv : Int32) (vav : Int32) (a1 : Int32) (a2 : Int32) : Int32 × (Nat → Int32) × (Nat → Int32) × Int32 × Int32 × Int32 :=
  if (F_isCrooked a2 4) = 0 then
    (1, (wd, F_putRegister rs (F_partD a1) (pcv + 4), a2, trv, vav))
  else
    F_trapWith wd rg rs pcv trv vav 0 a2
set_option maxHeartbeats 4000000 in
set_option maxRecDepth 100000 in
theorem c_linkAndGo (l : Launch) (dC : Nat → ClassId) (dI : Nat → Nat → Nat) (x0 xw xr xg : Nat) (c1 c2 c3 : ClassId) (sz : Nat) (wd : Nat → Int32) (rg : Nat → Int32) (rs : Nat → Int32) (pcv : Int32) (trv : Int32) (vav : Int32) (dnv : Int32) (a1 : Int32) (a2 : Int32)  : Met l yX0_linkAndGo wsX0_linkAndGo ({ frames := 1, cells := 0, slots := 0, locals := 22 }) (va_Pc [.ref x0, .int a1, .int a2] (fun U => U.heap.size = sz ∧ va_P (dC, dI) vwCl [(x0, .inr (0, [.ref xw, .ref xr, .ref xg, .int pcv, .int trv, .int vav, .int dnv])), (xw, .inl (c1, 4096, .inl wd)), (xr, .inl (c2, 4, .inl rg)), (xg, .inl (c3, 32, .inl rs))] U.heap ∧ va_K (dC, dI) vwCl [(c1, .int), (c2, .int), (c3, .int)] U ∧ va_D (fun _ => True) [(x0, .inr (0, [.ref xw, .ref xr, .ref xg, .int pcv, .int trv, .int vav, .int dnv])), (xw, .inl (c1, 4096, .inl wd)), (xr, .inl (c2, 4, .inl rg)), (xg, .inl (c3, 32, .inl rs))])) (va_Qi (fun (r : Int32) (u : (Nat → Int32) × (Nat → Int32) × Int32 × Int32 × Int32) => narrow .boolean (.int r) = .int r ∧ (r, u) = F_linkAndGo wd rg rs pcv trv vav a1 a2) (fun (u : (Nat → Int32) × (Nat → Int32) × Int32 × Int32 × Int32) (t : State) => va_P (dC, dI) vwCl [(x0, .inr (0, [.ref xw, .ref xr, .ref xg, .int u.2.2.1, .int u.2.2.2.1, .int u.2.2.2.2, .int dnv])), (xw, .inl (c1, 4096, .inl u.1)), (xr, .inl (c2, 4, .inl rg)), (xg, .inl (c3, 32, .inl u.2.1))] t.heap ∧ va_K (dC, dI) vwCl [(c1, .int), (c2, .int), (c3, .int)] t ∧ va_D (va_A [(x0, .inr (0, [.ref xw, .ref xr, .ref xg, .int pcv, .int trv, .int vav, .int dnv])), (xw, .inl (c1, 4096, .inl wd)), (xr, .inl (c2, 4, .inl rg)), (xg, .inl (c3, 32, .inl rs))] sz) [(x0, .inr (0, [.ref xw, .ref xr, .ref xg, .int u.2.2.1, .int u.2.2.2.1, .int u.2.2.2.2, .int dnv])), (xw, .inl (c1, 4096, .inl u.1)), (xr, .inl (c2, 4, .inl rg)), (xg, .inl (c3, 32, .inl u.2.1))]) (va_A [(x0, .inr (0, [.ref xw, .ref xr, .ref xg, .int pcv, .int trv, .int vav, .int dnv])), (xw, .inl (c1, 4096, .inl wd)), (xr, .inl (c2, 4, .inl rg)), (xg, .inl (c3, 32, .inl rs))] sz)) 0 0 (va_A [(x0, .inr (0, [.ref xw, .ref xr, .ref xg, .int pcv, .int trv, .int vav, .int dnv])), (xw, .inl (c1, 4096, .inl wd)), (xr, .inl (c2, 4, .inl rg)), (xg, .inl (c3, 32, .inl rs))] sz) := by
  refine Met.ofW (cc := cX0_linkAndGo) (maxL := 3) (ret := (some .boolean)) (by decide) rfl ?_
  intro p e s m args below meth c s₁ B hml hv
  obtain ⟨rfl, hsz, hP, hK, hD0⟩ := hv
  have hx := B.exec
  have hb := B.bytes
  have hr := B.returns
  have hts := atoms_spec (ws := wsX0_linkAndGo) B.pre
  have hown : s.vm.findClass RX0 = some m.cls := findClass_of_methodNamed B.named
  have hlocks := B.notSynchronized
  subst hsz
  have hD := hD0.self (sz := s.heap.size)
  generalize hAe : va_A [(x0, .inr (0, [.ref xw, .ref xr, .ref xg, .int pcv, .int trv, .int vav, .int dnv])), (xw, .inl (c1, 4096, .inl wd)), (xr, .inl (c2, 4, .inl rg)), (xg, .inl (c3, 32, .inl rs))] s.heap.size = A at hD ⊢
  have hA : ∀ q : Nat, s.heap.size ≤ q → A q := fun q h => by rw [← hAe]; exact Or.inr h
  have hS : va_S A s.heap s.heap [] := va_S.rf
  have hP : va_P (dC, dI) vwCl [(x0, .inr (0, [.ref xw, .ref xr, .ref xg, .int pcv, .int trv, .int vav, .int dnv])), (xw, .inl (c1, 4096, .inl wd)), (xr, .inl (c2, 4, .inl rg)), (xg, .inl (c3, 32, .inl rs))] s.heap := hP
  have hl := lv_entry ([.ref x0, .int a1, .int a2]) (n := 3) (Nat.le_of_ble_eq_true rfl)
  rw [lg_entry_eq]
  generalize (lg_sl ([.ref x0, .int a1, .int a2]) ++ List.replicate (3 - (lg_sl ([.ref x0, .int a1, .int a2])).length) Slot.unset).toArray = ls at hl ⊢
  have hl : lv_has ls 3 [(0, .ref x0), (1, .int a1), (2, .int a2)] := hl
  refine lv_iload_n hx hb dX0_linkAndGo_0 rfl (lv_at hl 2 rfl) ?_
  refine lv_iconst (v := 4) hx hb dX0_linkAndGo_1 (by decide) ?_
  refine vp_callSi (W.runS (As := [.int a2, .int 4]) (rest := []) ⟨hx, hb, hml, hown, hts⟩ (c_isCrooked l a2 4) (cwS 2 hts (gS mL_X0_62 mS_X0_isCrooked mN_X0 mC_X0_isCrooked) rfl rfl rfl (by decide +kernel) ⟨Nat.le_of_ble_eq_true rfl, Nat.le_of_ble_eq_true rfl⟩) preEq rfl rfl hl.1 rfl (lv_room (Nat.le_of_ble_eq_true rfl)) dX0_linkAndGo_2 ⟨Nat.zero_le _, Nat.zero_le _⟩) (fun r_1 hw => ?_)
  obtain ⟨b_2, hw⟩ := hw
  subst hw
  refine lv_if_eq (tgt := 15) hx hb dX0_linkAndGo_5 (by decide) (fun c_3 => ?_) (fun c_3 => ?_)
  · refine lv_aload_n hx hb dX0_linkAndGo_15 rfl (lv_at hl 0 rfl) ?_
    refine lv_iload_n hx hb dX0_linkAndGo_16 rfl (lv_at hl 1 rfl) ?_
    refine vp_callSi (W.runS (As := [.int a1]) (rest := [.ref x0]) ⟨hx, hb, hml, hown, hts⟩ (c_partD l a1) (cwS 1 hts (gS mL_X0_154 mS_X0_partD mN_X0 mC_X0_partD) rfl rfl rfl (by decide +kernel) ⟨Nat.le_of_ble_eq_true rfl, Nat.le_of_ble_eq_true rfl⟩) preEq rfl rfl hl.1 rfl (lv_room (Nat.le_of_ble_eq_true rfl)) dX0_linkAndGo_17 ⟨Nat.zero_le _, Nat.zero_le _⟩) (fun r_4 hw => ?_)
    subst hw
    refine lv_aload_n hx hb dX0_linkAndGo_20 rfl (lv_at hl 0 rfl) ?_
    refine va_get (D := (dC, dI)) (ci := 0) (v := .int pcv) (C := RX0) (T := TX0) (N := 7) hx hb hts (gw_lay lay_X0) hown hK hP 0 rfl rfl 3 (by decide) (hts _ (gcons mF_X0_19)) (fun _ h9 => h9) rfl dX0_linkAndGo_21 ?_
    refine lv_iconst (v := 4) hx hb dX0_linkAndGo_24 (by decide) ?_
    refine lv_iadd hx hb dX0_linkAndGo_25 ?_
    have hFc := va_free (wc := [(x0, .inr (0, [.ref xw, .ref xr, .ref xg, .int pcv, .int trv, .int vav, .int dnv])), (xw, .inl (c1, 4096, .inl wd)), (xr, .inl (c2, 4, .inl rg)), (xg, .inl (c3, 32, .inl rs))]) hD hS hA [0, 1, 2, 3] rfl
    refine va_callv (va_runV (As := [.int (F_partD a1), .int (pcv + 4)]) (rest := []) ⟨hx, hb, hml, hown, hts⟩ (c_putRegister l dC dI x0 xw xr xg c1 c2 c3 s.heap.size wd rg rs pcv trv vav dnv (F_partD a1) (pcv + 4)) (cwV 2 hts (gV mL_X0_47 mI_X0_putRegister mE_X0_putRegister mN_X0 mC_X0_putRegister) rfl rfl rfl (by decide +kernel) ⟨Nat.le_of_ble_eq_true rfl, Nat.le_of_ble_eq_true rfl⟩) ⟨fun a U g mk q => by obtain ⟨q0, q1, qP, qK, qD⟩ := q; exact ⟨q0, q1, qP, va_K.moved (u := U) (U := U.calling g mk a) (Vm.Alike.refl U.vm) qK, qD⟩, va_recv hK hP (ci := 0) (q0 := 0) rfl rfl, fun U hU hW => ⟨rfl, by rw [hU], by rw [hU]; exact hP, va_K.moved hW.alike hK, hD.weaken (fun _ _ _ _ => trivial)⟩⟩ rfl rfl hl.1 rfl (lv_room (Nat.le_of_ble_eq_true rfl)) dX0_linkAndGo_26 ⟨Nat.zero_le _, Nat.zero_le _⟩) hS (fun q _ h => hFc q h) hFc (fun u t H1 locs ht hvm hw hB hz1 hk1 hS => ?_)
    subst hw
    obtain ⟨hP1, hK1, hD1⟩ := hB
    rw [ht] at hP1
    obtain ⟨hP, hD⟩ := va_join (wr := []) (w1 := [(x0, .inr (0, [.ref xw, .ref xr, .ref xg, .int pcv, .int trv, .int vav, .int dnv])), (xw, .inl (c1, 4096, .inl wd)), (xr, .inl (c2, 4, .inl rg)), (xg, .inl (c3, 32, .inl (F_putRegister rs (F_partD a1) (pcv + 4))))]) hP hD [0, 1, 2, 3] [] rfl rfl (by decide) (by decide) hk1 hFc hP1 hD1
    generalize H1 = H at hP hS ⊢
    have hP : va_P (dC, dI) vwCl [(x0, .inr (0, [.ref xw, .ref xr, .ref xg, .int pcv, .int trv, .int vav, .int dnv])), (xw, .inl (c1, 4096, .inl wd)), (xr, .inl (c2, 4, .inl rg)), (xg, .inl (c3, 32, .inl (F_putRegister rs (F_partD a1) (pcv + 4))))] H := hP
    have hD : va_D A [(x0, .inr (0, [.ref xw, .ref xr, .ref xg, .int pcv, .int trv, .int vav, .int dnv])), (xw, .inl (c1, 4096, .inl wd)), (xr, .inl (c2, 4, .inl rg)), (xg, .inl (c3, 32, .inl (F_putRegister rs (F_partD a1) (pcv + 4))))] := hD
    refine lv_aload_n hx hb dX0_linkAndGo_29 rfl (lv_at hl 0 rfl) ?_
    refine lv_iload_n hx hb dX0_linkAndGo_30 rfl (lv_at hl 2 rfl) ?_
    refine va_put (D := (dC, dI)) (ci := 0) (v := .int a2) (ty := .int) (C := RX0) (T := TX0) (N := 7) hx hb hts (gw_lay lay_X0) tyX0 tyX0_ok nmX0 hown hK hP hD hS 0 rfl rfl 3 (by decide) (hts _ (gcons mF_X0_19)) (fun _ h9 => h9) rfl (by decide +kernel) rfl rfl (Nat.le_of_ble_eq_true rfl) dX0_linkAndGo_31 (fun H locs hP hD hS => ?_)
    have hP : va_P (dC, dI) vwCl [(x0, .inr (0, [.ref xw, .ref xr, .ref xg, .int a2, .int trv, .int vav, .int dnv])), (xw, .inl (c1, 4096, .inl wd)), (xr, .inl (c2, 4, .inl rg)), (xg, .inl (c3, 32, .inl (F_putRegister rs (F_partD a1) (pcv + 4))))] H := hP
    have hD : va_D A [(x0, .inr (0, [.ref xw, .ref xr, .ref xg, .int a2, .int trv, .int vav, .int dnv])), (xw, .inl (c1, 4096, .inl wd)), (xr, .inl (c2, 4, .inl rg)), (xg, .inl (c3, 32, .inl (F_putRegister rs (F_partD a1) (pcv + 4))))] := hD
    refine lv_iconst (v := 1) hx hb dX0_linkAndGo_34 (by decide) ?_
    exact W.zret (v := 1) (ty := .boolean) hx hb hr rfl (fun t ht hW => ⟨⟨_, (wd, F_putRegister rs (F_partD a1) (pcv + 4), a2, trv, vav), rfl, ⟨rfl, (by unfold F_linkAndGo; rw [if_pos c_3])⟩, by rw [ht]; exact hP, va_K.moved hW.alike hK, hD⟩, hS.F ht⟩) hS.2.2 dX0_linkAndGo_35
  · refine lv_aload_n hx hb dX0_linkAndGo_8 rfl (lv_at hl 0 rfl) ?_
    refine lv_iconst (v := 0) hx hb dX0_linkAndGo_9 (by decide) ?_
    refine lv_iload_n hx hb dX0_linkAndGo_10 rfl (lv_at hl 2 rfl) ?_
    have hFc := va_free (wc := [(x0, .inr (0, [.ref xw, .ref xr, .ref xg, .int pcv, .int trv, .int vav, .int dnv])), (xw, .inl (c1, 4096, .inl wd)), (xr, .inl (c2, 4, .inl rg)), (xg, .inl (c3, 32, .inl rs))]) hD hS hA [0, 1, 2, 3] rfl
    refine va_calli (va_runV (As := [.int 0, .int a2]) (rest := []) ⟨hx, hb, hml, hown, hts⟩ (c_trapWith l dC dI x0 xw xr xg c1 c2 c3 s.heap.size wd rg rs pcv trv vav dnv 0 a2) (cwV 2 hts (gV mL_X0_66 mI_X0_trapWith mE_X0_trapWith mN_X0 mC_X0_trapWith) rfl rfl rfl (by decide +kernel) ⟨Nat.le_of_ble_eq_true rfl, Nat.le_of_ble_eq_true rfl⟩) ⟨fun a U g mk q => by obtain ⟨q0, q1, qP, qK, qD⟩ := q; exact ⟨q0, q1, qP, va_K.moved (u := U) (U := U.calling g mk a) (Vm.Alike.refl U.vm) qK, qD⟩, va_recv hK hP (ci := 0) (q0 := 0) rfl rfl, fun U hU hW => ⟨rfl, by rw [hU], by rw [hU]; exact hP, va_K.moved hW.alike hK, hD.weaken (fun _ _ _ _ => trivial)⟩⟩ rfl rfl hl.1 rfl (lv_room (Nat.le_of_ble_eq_true rfl)) dX0_linkAndGo_11 ⟨Nat.zero_le _, Nat.zero_le _⟩) hS (fun q _ h => hFc q h) hFc (fun r_6 u t H1 locs ht hvm hw hB hz1 hk1 hS => ?_)
    obtain ⟨b_7, hw⟩ := hw
    obtain ⟨wd_8, rs_9, pcv_10, trv_11, vav_12⟩ := u
    obtain ⟨hP1, hK1, hD1⟩ := hB
    rw [ht] at hP1
    obtain ⟨hP, hD⟩ := va_join (wr := []) (w1 := [(x0, .inr (0, [.ref xw, .ref xr, .ref xg, .int pcv_10, .int trv_11, .int vav_12, .int dnv])), (xw, .inl (c1, 4096, .inl wd_8)), (xr, .inl (c2, 4, .inl rg)), (xg, .inl (c3, 32, .inl rs_9))]) hP hD [0, 1, 2, 3] [] rfl rfl (by decide) (by decide) hk1 hFc hP1 hD1
    generalize H1 = H at hP hS ⊢
    have hP : va_P (dC, dI) vwCl [(x0, .inr (0, [.ref xw, .ref xr, .ref xg, .int pcv_10, .int trv_11, .int vav_12, .int dnv])), (xw, .inl (c1, 4096, .inl wd_8)), (xr, .inl (c2, 4, .inl rg)), (xg, .inl (c3, 32, .inl rs_9))] H := hP
    have hD : va_D A [(x0, .inr (0, [.ref xw, .ref xr, .ref xg, .int pcv_10, .int trv_11, .int vav_12, .int dnv])), (xw, .inl (c1, 4096, .inl wd_8)), (xr, .inl (c2, 4, .inl rg)), (xg, .inl (c3, 32, .inl rs_9))] := hD
    exact W.zret (v := r_6) (ty := .boolean) hx hb hr b_7 (fun t ht hW => ⟨⟨_, (wd_8, rs_9, pcv_10, trv_11, vav_12), rfl, ⟨b_7, (by unfold F_linkAndGo; rw [if_neg c_3]; exact hw)⟩, by rw [ht]; exact hP, va_K.moved hW.alike hK, hD⟩, hS.F ht⟩) hS.2.2 dX0_linkAndGo_14
def F_finish (wd : Nat → Int32) (rg : Nat → Int32) (rs : Nat → Int32) (pcv : Int32) (trv : Int32) (vav : Int32) (a1 : Int32) (a2 : Int32) : Int32 × (Nat → Int32) × (Nat → Int32) × Int32 × Int32 × Int32 :=
  (1, (wd, F_putRegister rs (F_partD a1) a2, pcv + 4, trv, vav))
set_option maxHeartbeats 4000000 in
set_option maxRecDepth 100000 in
theorem c_finish (l : Launch) (dC : Nat → ClassId) (dI : Nat → Nat → Nat) (x0 xw xr xg : Nat) (c1 c2 c3 : ClassId) (sz : Nat) (wd : Nat → Int32) (rg : Nat → Int32) (rs : Nat → Int32) (pcv : Int32) (trv : Int32) (vav : Int32) (dnv : Int32) (a1 : Int32) (a2 : Int32)  : Met l yX0_finish wsX0_finish ({ frames := 1, cells := 0, slots := 0, locals := 22 }) (va_Pc [.ref x0, .int a1, .int a2] (fun U => U.heap.size = sz ∧ va_P (dC, dI) vwCl [(x0, .inr (0, [.ref xw, .ref xr, .ref xg, .int pcv, .int trv, .int vav, .int dnv])), (xw, .inl (c1, 4096, .inl wd)), (xr, .inl (c2, 4, .inl rg)), (xg, .inl (c3, 32, .inl rs))] U.heap ∧ va_K (dC, dI) vwCl [(c1, .int), (c2, .int), (c3, .int)] U ∧ va_D (fun _ => True) [(x0, .inr (0, [.ref xw, .ref xr, .ref xg, .int pcv, .int trv, .int vav, .int dnv])), (xw, .inl (c1, 4096, .inl wd)), (xr, .inl (c2, 4, .inl rg)), (xg, .inl (c3, 32, .inl rs))])) (va_Qi (fun (r : Int32) (u : (Nat → Int32) × (Nat → Int32) × Int32 × Int32 × Int32) => narrow .boolean (.int r) = .int r ∧ (r, u) = F_finish wd rg rs pcv trv vav a1 a2) (fun (u : (Nat → Int32) × (Nat → Int32) × Int32 × Int32 × Int32) (t : State) => va_P (dC, dI) vwCl [(x0, .inr (0, [.ref xw, .ref xr, .ref xg, .int u.2.2.1, .int u.2.2.2.1, .int u.2.2.2.2, .int dnv])), (xw, .inl (c1, 4096, .inl u.1)), (xr, .inl (c2, 4, .inl rg)), (xg, .inl (c3, 32, .inl u.2.1))] t.heap ∧ va_K (dC, dI) vwCl [(c1, .int), (c2, .int), (c3, .int)] t ∧ va_D (va_A [(x0, .inr (0, [.ref xw, .ref xr, .ref xg, .int pcv, .int trv, .int vav, .int dnv])), (xw, .inl (c1, 4096, .inl wd)), (xr, .inl (c2, 4, .inl rg)), (xg, .inl (c3, 32, .inl rs))] sz) [(x0, .inr (0, [.ref xw, .ref xr, .ref xg, .int u.2.2.1, .int u.2.2.2.1, .int u.2.2.2.2, .int dnv])), (xw, .inl (c1, 4096, .inl u.1)), (xr, .inl (c2, 4, .inl rg)), (xg, .inl (c3, 32, .inl u.2.1))]) (va_A [(x0, .inr (0, [.ref xw, .ref xr, .ref xg, .int pcv, .int trv, .int vav, .int dnv])), (xw, .inl (c1, 4096, .inl wd)), (xr, .inl (c2, 4, .inl rg)), (xg, .inl (c3, 32, .inl rs))] sz)) 0 0 (va_A [(x0, .inr (0, [.ref xw, .ref xr, .ref xg, .int pcv, .int trv, .int vav, .int dnv])), (xw, .inl (c1, 4096, .inl wd)), (xr, .inl (c2, 4, .inl rg)), (xg, .inl (c3, 32, .inl rs))] sz) := by
  refine Met.ofW (cc := cX0_finish) (maxL := 3) (ret := (some .boolean)) (by decide) rfl ?_
  intro p e s m args below meth c s₁ B hml hv
  obtain ⟨rfl, hsz, hP, hK, hD0⟩ := hv
  have hx := B.exec
  have hb := B.bytes
  have hr := B.returns
  have hts := atoms_spec (ws := wsX0_finish) B.pre
  have hown : s.vm.findClass RX0 = some m.cls := findClass_of_methodNamed B.named
  have hlocks := B.notSynchronized
  subst hsz
  have hD := hD0.self (sz := s.heap.size)
  generalize hAe : va_A [(x0, .inr (0, [.ref xw, .ref xr, .ref xg, .int pcv, .int trv, .int vav, .int dnv])), (xw, .inl (c1, 4096, .inl wd)), (xr, .inl (c2, 4, .inl rg)), (xg, .inl (c3, 32, .inl rs))] s.heap.size = A at hD ⊢
  have hA : ∀ q : Nat, s.heap.size ≤ q → A q := fun q h => by rw [← hAe]; exact Or.inr h
  have hS : va_S A s.heap s.heap [] := va_S.rf
  have hP : va_P (dC, dI) vwCl [(x0, .inr (0, [.ref xw, .ref xr, .ref xg, .int pcv, .int trv, .int vav, .int dnv])), (xw, .inl (c1, 4096, .inl wd)), (xr, .inl (c2, 4, .inl rg)), (xg, .inl (c3, 32, .inl rs))] s.heap := hP
  have hl := lv_entry ([.ref x0, .int a1, .int a2]) (n := 3) (Nat.le_of_ble_eq_true rfl)
  rw [lg_entry_eq]
  generalize (lg_sl ([.ref x0, .int a1, .int a2]) ++ List.replicate (3 - (lg_sl ([.ref x0, .int a1, .int a2])).length) Slot.unset).toArray = ls at hl ⊢
  have hl : lv_has ls 3 [(0, .ref x0), (1, .int a1), (2, .int a2)] := hl
  refine lv_aload_n hx hb dX0_finish_0 rfl (lv_at hl 0 rfl) ?_
  refine lv_iload_n hx hb dX0_finish_1 rfl (lv_at hl 1 rfl) ?_
  refine vp_callSi (W.runS (As := [.int a1]) (rest := [.ref x0]) ⟨hx, hb, hml, hown, hts⟩ (c_partD l a1) (cwS 1 hts (gS mL_X0_154 mS_X0_partD mN_X0 mC_X0_partD) rfl rfl rfl (by decide +kernel) ⟨Nat.le_of_ble_eq_true rfl, Nat.le_of_ble_eq_true rfl⟩) preEq rfl rfl hl.1 rfl (lv_room (Nat.le_of_ble_eq_true rfl)) dX0_finish_2 ⟨Nat.zero_le _, Nat.zero_le _⟩) (fun r_1 hw => ?_)
  subst hw
  refine lv_iload_n hx hb dX0_finish_5 rfl (lv_at hl 2 rfl) ?_
  have hFc := va_free (wc := [(x0, .inr (0, [.ref xw, .ref xr, .ref xg, .int pcv, .int trv, .int vav, .int dnv])), (xw, .inl (c1, 4096, .inl wd)), (xr, .inl (c2, 4, .inl rg)), (xg, .inl (c3, 32, .inl rs))]) hD hS hA [0, 1, 2, 3] rfl
  refine va_callv (va_runV (As := [.int (F_partD a1), .int a2]) (rest := []) ⟨hx, hb, hml, hown, hts⟩ (c_putRegister l dC dI x0 xw xr xg c1 c2 c3 s.heap.size wd rg rs pcv trv vav dnv (F_partD a1) a2) (cwV 2 hts (gV mL_X0_47 mI_X0_putRegister mE_X0_putRegister mN_X0 mC_X0_putRegister) rfl rfl rfl (by decide +kernel) ⟨Nat.le_of_ble_eq_true rfl, Nat.le_of_ble_eq_true rfl⟩) ⟨fun a U g mk q => by obtain ⟨q0, q1, qP, qK, qD⟩ := q; exact ⟨q0, q1, qP, va_K.moved (u := U) (U := U.calling g mk a) (Vm.Alike.refl U.vm) qK, qD⟩, va_recv hK hP (ci := 0) (q0 := 0) rfl rfl, fun U hU hW => ⟨rfl, by rw [hU], by rw [hU]; exact hP, va_K.moved hW.alike hK, hD.weaken (fun _ _ _ _ => trivial)⟩⟩ rfl rfl hl.1 rfl (lv_room (Nat.le_of_ble_eq_true rfl)) dX0_finish_6 ⟨Nat.zero_le _, Nat.zero_le _⟩) hS (fun q _ h => hFc q h) hFc (fun u t H1 locs ht hvm hw hB hz1 hk1 hS => ?_)
  subst hw
  obtain ⟨hP1, hK1, hD1⟩ := hB
  rw [ht] at hP1
  obtain ⟨hP, hD⟩ := va_join (wr := []) (w1 := [(x0, .inr (0, [.ref xw, .ref xr, .ref xg, .int pcv, .int trv, .int vav, .int dnv])), (xw, .inl (c1, 4096, .inl wd)), (xr, .inl (c2, 4, .inl rg)), (xg, .inl (c3, 32, .inl (F_putRegister rs (F_partD a1) a2)))]) hP hD [0, 1, 2, 3] [] rfl rfl (by decide) (by decide) hk1 hFc hP1 hD1
  generalize H1 = H at hP hS ⊢
  have hP : va_P (dC, dI) vwCl [(x0, .inr (0, [.ref xw, .ref xr, .ref xg, .int pcv, .int trv, .int vav, .int dnv])), (xw, .inl (c1, 4096, .inl wd)), (xr, .inl (c2, 4, .inl rg)), (xg, .inl (c3, 32, .inl (F_putRegister rs (F_partD a1) a2)))] H := hP
  have hD : va_D A [(x0, .inr (0, [.ref xw, .ref xr, .ref xg, .int pcv, .int trv, .int vav, .int dnv])), (xw, .inl (c1, 4096, .inl wd)), (xr, .inl (c2, 4, .inl rg)), (xg, .inl (c3, 32, .inl (F_putRegister rs (F_partD a1) a2)))] := hD
  refine lv_aload_n hx hb dX0_finish_9 rfl (lv_at hl 0 rfl) ?_
  refine lv_dup hx hb dX0_finish_10 rfl ?_
  refine va_get (D := (dC, dI)) (ci := 0) (v := .int pcv) (C := RX0) (T := TX0) (N := 7) hx hb hts (gw_lay lay_X0) hown hK hP 0 rfl rfl 3 (by decide) (hts _ (gcons mF_X0_19)) (fun _ h9 => h9) rfl dX0_finish_11 ?_
  refine lv_iconst (v := 4) hx hb dX0_finish_14 (by decide) ?_
  refine lv_iadd hx hb dX0_finish_15 ?_
  refine va_put (D := (dC, dI)) (ci := 0) (v := .int (pcv + 4)) (ty := .int) (C := RX0) (T := TX0) (N := 7) hx hb hts (gw_lay lay_X0) tyX0 tyX0_ok nmX0 hown hK hP hD hS 0 rfl rfl 3 (by decide) (hts _ (gcons mF_X0_19)) (fun _ h9 => h9) rfl (by decide +kernel) rfl rfl (Nat.le_of_ble_eq_true rfl) dX0_finish_16 (fun H locs hP hD hS => ?_)
  have hP : va_P (dC, dI) vwCl [(x0, .inr (0, [.ref xw, .ref xr, .ref xg, .int (pcv + 4), .int trv, .int vav, .int dnv])), (xw, .inl (c1, 4096, .inl wd)), (xr, .inl (c2, 4, .inl rg)), (xg, .inl (c3, 32, .inl (F_putRegister rs (F_partD a1) a2)))] H := hP
  have hD : va_D A [(x0, .inr (0, [.ref xw, .ref xr, .ref xg, .int (pcv + 4), .int trv, .int vav, .int dnv])), (xw, .inl (c1, 4096, .inl wd)), (xr, .inl (c2, 4, .inl rg)), (xg, .inl (c3, 32, .inl (F_putRegister rs (F_partD a1) a2)))] := hD
  refine lv_iconst (v := 1) hx hb dX0_finish_19 (by decide) ?_
  exact W.zret (v := 1) (ty := .boolean) hx hb hr rfl (fun t ht hW => ⟨⟨_, (wd, F_putRegister rs (F_partD a1) a2, pcv + 4, trv, vav), rfl, ⟨rfl, (by unfold F_finish; rfl)⟩, by rw [ht]; exact hP, va_K.moved hW.alike hK, hD⟩, hS.F ht⟩) hS.2.2 dX0_finish_20
end
section
def F_callOrBreak (wd : Nat → Int32) (rg : Nat → Int32) (rs : Nat → Int32) (pcv : Int32) (trv : Int32) (vav : Int32) (a1 : Int32) : Int32 × (Nat → Int32) × (Nat → Int32) × Int32 × Int32 × Int32 :=
  if a1 = 115 then
    F_trapWith wd rg rs pcv trv vav 8 0
  else
    if a1 = 1048691 then
      F_trapWith wd rg rs pcv trv vav 3 0
    else
      F_refuse wd rg rs pcv trv vav a1
set_option maxHeartbeats 4000000 in
set_option maxRecDepth 100000 in
theorem c_callOrBreak (l : Launch) (dC : Nat → ClassId) (dI : Nat → Nat → Nat) (x0 xw xr xg : Nat) (c1 c2 c3 : ClassId) (sz : Nat) (wd : Nat → Int32) (rg : Nat → Int32) (rs : Nat → Int32) (pcv : Int32) (trv : Int32) (vav : Int32) (dnv : Int32) (a1 : Int32)  : Met l yX0_callOrBreak wsX0_callOrBreak ({ frames := 2, cells := 0, slots := 0, locals := 43 }) (va_Pc [.ref x0, .int a1] (fun U => U.heap.size = sz ∧ va_P (dC, dI) vwCl [(x0, .inr (0, [.ref xw, .ref xr, .ref xg, .int pcv, .int trv, .int vav, .int dnv])), (xw, .inl (c1, 4096, .inl wd)), (xr, .inl (c2, 4, .inl rg)), (xg, .inl (c3, 32, .inl rs))] U.heap ∧ va_K (dC, dI) vwCl [(c1, .int), (c2, .int), (c3, .int)] U ∧ va_D (fun _ => True) [(x0, .inr (0, [.ref xw, .ref xr, .ref xg, .int pcv, .int trv, .int vav, .int dnv])), (xw, .inl (c1, 4096, .inl wd)), (xr, .inl (c2, 4, .inl rg)), (xg, .inl (c3, 32, .inl rs))])) (va_Qi (fun (r : Int32) (u : (Nat → Int32) × (Nat → Int32) × Int32 × Int32 × Int32) => narrow .boolean (.int r) = .int r ∧ (r, u) = F_callOrBreak wd rg rs pcv trv vav a1) (fun (u : (Nat → Int32) × (Nat → Int32) × Int32 × Int32 × Int32) (t : State) => va_P (dC, dI) vwCl [(x0, .inr (0, [.ref xw, .ref xr, .ref xg, .int u.2.2.1, .int u.2.2.2.1, .int u.2.2.2.2, .int dnv])), (xw, .inl (c1, 4096, .inl u.1)), (xr, .inl (c2, 4, .inl rg)), (xg, .inl (c3, 32, .inl u.2.1))] t.heap ∧ va_K (dC, dI) vwCl [(c1, .int), (c2, .int), (c3, .int)] t ∧ va_D (va_A [(x0, .inr (0, [.ref xw, .ref xr, .ref xg, .int pcv, .int trv, .int vav, .int dnv])), (xw, .inl (c1, 4096, .inl wd)), (xr, .inl (c2, 4, .inl rg)), (xg, .inl (c3, 32, .inl rs))] sz) [(x0, .inr (0, [.ref xw, .ref xr, .ref xg, .int u.2.2.1, .int u.2.2.2.1, .int u.2.2.2.2, .int dnv])), (xw, .inl (c1, 4096, .inl u.1)), (xr, .inl (c2, 4, .inl rg)), (xg, .inl (c3, 32, .inl u.2.1))]) (va_A [(x0, .inr (0, [.ref xw, .ref xr, .ref xg, .int pcv, .int trv, .int vav, .int dnv])), (xw, .inl (c1, 4096, .inl wd)), (xr, .inl (c2, 4, .inl rg)), (xg, .inl (c3, 32, .inl rs))] sz)) 0 0 (va_A [(x0, .inr (0, [.ref xw, .ref xr, .ref xg, .int pcv, .int trv, .int vav, .int dnv])), (xw, .inl (c1, 4096, .inl wd)), (xr, .inl (c2, 4, .inl rg)), (xg, .inl (c3, 32, .inl rs))] sz) := by
  refine Met.ofW (cc := cX0_callOrBreak) (maxL := 2) (ret := (some .boolean)) (by decide) rfl ?_
  intro p e s m args below meth c s₁ B hml hv
  obtain ⟨rfl, hsz, hP, hK, hD0⟩ := hv
  have hx := B.exec
  have hb := B.bytes
  have hr := B.returns
  have hts := atoms_spec (ws := wsX0_callOrBreak) B.pre
  have hown : s.vm.findClass RX0 = some m.cls := findClass_of_methodNamed B.named
  have hlocks := B.notSynchronized
  subst hsz
  have hD := hD0.self (sz := s.heap.size)
  generalize hAe : va_A [(x0, .inr (0, [.ref xw, .ref xr, .ref xg, .int pcv, .int trv, .int vav, .int dnv])), (xw, .inl (c1, 4096, .inl wd)), (xr, .inl (c2, 4, .inl rg)), (xg, .inl (c3, 32, .inl rs))] s.heap.size = A at hD ⊢
  have hA : ∀ q : Nat, s.heap.size ≤ q → A q := fun q h => by rw [← hAe]; exact Or.inr h
  have hS : va_S A s.heap s.heap [] := va_S.rf
  have hP : va_P (dC, dI) vwCl [(x0, .inr (0, [.ref xw, .ref xr, .ref xg, .int pcv, .int trv, .int vav, .int dnv])), (xw, .inl (c1, 4096, .inl wd)), (xr, .inl (c2, 4, .inl rg)), (xg, .inl (c3, 32, .inl rs))] s.heap := hP
  have hl := lv_entry ([.ref x0, .int a1]) (n := 2) (Nat.le_of_ble_eq_true rfl)
  rw [lg_entry_eq]
  generalize (lg_sl ([.ref x0, .int a1]) ++ List.replicate (2 - (lg_sl ([.ref x0, .int a1])).length) Slot.unset).toArray = ls at hl ⊢
  have hl : lv_has ls 2 [(0, .ref x0), (1, .int a1)] := hl
  refine lv_iload_n hx hb dX0_callOrBreak_0 rfl (lv_at hl 1 rfl) ?_
  refine lv_bipush (v := 115) hx hb dX0_callOrBreak_1 (by decide) ?_
  refine lv_icmp_ne (tgt := 14) hx hb dX0_callOrBreak_3 (by decide) (fun c_1 => ?_) (fun c_1 => ?_)
  · refine lv_iload_n hx hb dX0_callOrBreak_14 rfl (lv_at hl 1 rfl) ?_
    refine lv_ldc (v := 1048691) hx hb hown (hts _ (gcons mK_X0_153)) dX0_callOrBreak_15 ?_
    refine lv_icmp_ne (tgt := 29) hx hb dX0_callOrBreak_17 (by decide) (fun c_2 => ?_) (fun c_2 => ?_)
    · refine lv_aload_n hx hb dX0_callOrBreak_29 rfl (lv_at hl 0 rfl) ?_
      refine lv_iload_n hx hb dX0_callOrBreak_30 rfl (lv_at hl 1 rfl) ?_
      have hFc := va_free (wc := [(x0, .inr (0, [.ref xw, .ref xr, .ref xg, .int pcv, .int trv, .int vav, .int dnv])), (xw, .inl (c1, 4096, .inl wd)), (xr, .inl (c2, 4, .inl rg)), (xg, .inl (c3, 32, .inl rs))]) hD hS hA [0, 1, 2, 3] rfl
      refine va_calli (va_runV (As := [.int a1]) (rest := []) ⟨hx, hb, hml, hown, hts⟩ (c_refuse l dC dI x0 xw xr xg c1 c2 c3 s.heap.size wd rg rs pcv trv vav dnv a1) (cwV 1 hts (gV mL_X0_111 mI_X0_refuse mE_X0_refuse mN_X0 mC_X0_refuse) rfl rfl rfl (by decide +kernel) ⟨Nat.le_of_ble_eq_true rfl, Nat.le_of_ble_eq_true rfl⟩) ⟨fun a U g mk q => by obtain ⟨q0, q1, qP, qK, qD⟩ := q; exact ⟨q0, q1, qP, va_K.moved (u := U) (U := U.calling g mk a) (Vm.Alike.refl U.vm) qK, qD⟩, va_recv hK hP (ci := 0) (q0 := 0) rfl rfl, fun U hU hW => ⟨rfl, by rw [hU], by rw [hU]; exact hP, va_K.moved hW.alike hK, hD.weaken (fun _ _ _ _ => trivial)⟩⟩ rfl rfl hl.1 rfl (lv_room (Nat.le_of_ble_eq_true rfl)) dX0_callOrBreak_31 ⟨Nat.zero_le _, Nat.zero_le _⟩) hS (fun q _ h => hFc q h) hFc (fun r_3 u t H1 locs ht hvm hw hB hz1 hk1 hS => ?_)
      obtain ⟨b_4, hw⟩ := hw
      obtain ⟨wd_5, rs_6, pcv_7, trv_8, vav_9⟩ := u
      obtain ⟨hP1, hK1, hD1⟩ := hB
      rw [ht] at hP1
      obtain ⟨hP, hD⟩ := va_join (wr := []) (w1 := [(x0, .inr (0, [.ref xw, .ref xr, .ref xg, .int pcv_7, .int trv_8, .int vav_9, .int dnv])), (xw, .inl (c1, 4096, .inl wd_5)), (xr, .inl (c2, 4, .inl rg)), (xg, .inl (c3, 32, .inl rs_6))]) hP hD [0, 1, 2, 3] [] rfl rfl (by decide) (by decide) hk1 hFc hP1 hD1
      generalize H1 = H at hP hS ⊢
      have hP : va_P (dC, dI) vwCl [(x0, .inr (0, [.ref xw, .ref xr, .ref xg, .int pcv_7, .int trv_8, .int vav_9, .int dnv])), (xw, .inl (c1, 4096, .inl wd_5)), (xr, .inl (c2, 4, .inl rg)), (xg, .inl (c3, 32, .inl rs_6))] H := hP
      have hD : va_D A [(x0, .inr (0, [.ref xw, .ref xr, .ref xg, .int pcv_7, .int trv_8, .int vav_9, .int dnv])), (xw, .inl (c1, 4096, .inl wd_5)), (xr, .inl (c2, 4, .inl rg)), (xg, .inl (c3, 32, .inl rs_6))] := hD
      exact W.zret (v := r_3) (ty := .boolean) hx hb hr b_4 (fun t ht hW => ⟨⟨_, (wd_5, rs_6, pcv_7, trv_8, vav_9), rfl, ⟨b_4, (by unfold F_callOrBreak; rw [if_neg c_1, if_neg c_2]; exact hw)⟩, by rw [ht]; exact hP, va_K.moved hW.alike hK, hD⟩, hS.F ht⟩) hS.2.2 dX0_callOrBreak_34
    · refine lv_aload_n hx hb dX0_callOrBreak_20 rfl (lv_at hl 0 rfl) ?_
      refine lv_iconst (v := 3) hx hb dX0_callOrBreak_21 (by decide) ?_
      refine lv_iconst (v := 0) hx hb dX0_callOrBreak_22 (by decide) ?_
      have hFc := va_free (wc := [(x0, .inr (0, [.ref xw, .ref xr, .ref xg, .int pcv, .int trv, .int vav, .int dnv])), (xw, .inl (c1, 4096, .inl wd)), (xr, .inl (c2, 4, .inl rg)), (xg, .inl (c3, 32, .inl rs))]) hD hS hA [0, 1, 2, 3] rfl
      refine va_calli (va_runV (As := [.int 3, .int 0]) (rest := []) ⟨hx, hb, hml, hown, hts⟩ (c_trapWith l dC dI x0 xw xr xg c1 c2 c3 s.heap.size wd rg rs pcv trv vav dnv 3 0) (cwV 2 hts (gV mL_X0_66 mI_X0_trapWith mE_X0_trapWith mN_X0 mC_X0_trapWith) rfl rfl rfl (by decide +kernel) ⟨Nat.le_of_ble_eq_true rfl, Nat.le_of_ble_eq_true rfl⟩) ⟨fun a U g mk q => by obtain ⟨q0, q1, qP, qK, qD⟩ := q; exact ⟨q0, q1, qP, va_K.moved (u := U) (U := U.calling g mk a) (Vm.Alike.refl U.vm) qK, qD⟩, va_recv hK hP (ci := 0) (q0 := 0) rfl rfl, fun U hU hW => ⟨rfl, by rw [hU], by rw [hU]; exact hP, va_K.moved hW.alike hK, hD.weaken (fun _ _ _ _ => trivial)⟩⟩ rfl rfl hl.1 rfl (lv_room (Nat.le_of_ble_eq_true rfl)) dX0_callOrBreak_23 ⟨Nat.zero_le _, Nat.zero_le _⟩) hS (fun q _ h => hFc q h) hFc (fun r_10 u t H1 locs ht hvm hw hB hz1 hk1 hS => ?_)
      obtain ⟨b_11, hw⟩ := hw
      obtain ⟨wd_12, rs_13, pcv_14, trv_15, vav_16⟩ := u
      obtain ⟨hP1, hK1, hD1⟩ := hB
      rw [ht] at hP1
      obtain ⟨hP, hD⟩ := va_join (wr := []) (w1 := [(x0, .inr (0, [.ref xw, .ref xr, .ref xg, .int pcv_14, .int trv_15, .int vav_16, .int dnv])), (xw, .inl (c1, 4096, .inl wd_12)), (xr, .inl (c2, 4, .inl rg)), (xg, .inl (c3, 32, .inl rs_13))]) hP hD [0, 1, 2, 3] [] rfl rfl (by decide) (by decide) hk1 hFc hP1 hD1
      generalize H1 = H at hP hS ⊢
      have hP : va_P (dC, dI) vwCl [(x0, .inr (0, [.ref xw, .ref xr, .ref xg, .int pcv_14, .int trv_15, .int vav_16, .int dnv])), (xw, .inl (c1, 4096, .inl wd_12)), (xr, .inl (c2, 4, .inl rg)), (xg, .inl (c3, 32, .inl rs_13))] H := hP
      have hD : va_D A [(x0, .inr (0, [.ref xw, .ref xr, .ref xg, .int pcv_14, .int trv_15, .int vav_16, .int dnv])), (xw, .inl (c1, 4096, .inl wd_12)), (xr, .inl (c2, 4, .inl rg)), (xg, .inl (c3, 32, .inl rs_13))] := hD
      refine lv_goto (tgt := 34) hx hb dX0_callOrBreak_26 (by decide) ?_
      exact W.zret (v := r_10) (ty := .boolean) hx hb hr b_11 (fun t ht hW => ⟨⟨_, (wd_12, rs_13, pcv_14, trv_15, vav_16), rfl, ⟨b_11, (by unfold F_callOrBreak; rw [if_neg c_1, if_pos c_2]; exact hw)⟩, by rw [ht]; exact hP, va_K.moved hW.alike hK, hD⟩, hS.F ht⟩) hS.2.2 dX0_callOrBreak_34
  · refine lv_aload_n hx hb dX0_callOrBreak_6 rfl (lv_at hl 0 rfl) ?_
    refine lv_bipush (v := 8) hx hb dX0_callOrBreak_7 (by decide) ?_
    refine lv_iconst (v := 0) hx hb dX0_callOrBreak_9 (by decide) ?_
    have hFc := va_free (wc := [(x0, .inr (0, [.ref xw, .ref xr, .ref xg, .int pcv, .int trv, .int vav, .int dnv])), (xw, .inl (c1, 4096, .inl wd)), (xr, .inl (c2, 4, .inl rg)), (xg, .inl (c3, 32, .inl rs))]) hD hS hA [0, 1, 2, 3] rfl
    refine va_calli (va_runV (As := [.int 8, .int 0]) (rest := []) ⟨hx, hb, hml, hown, hts⟩ (c_trapWith l dC dI x0 xw xr xg c1 c2 c3 s.heap.size wd rg rs pcv trv vav dnv 8 0) (cwV 2 hts (gV mL_X0_66 mI_X0_trapWith mE_X0_trapWith mN_X0 mC_X0_trapWith) rfl rfl rfl (by decide +kernel) ⟨Nat.le_of_ble_eq_true rfl, Nat.le_of_ble_eq_true rfl⟩) ⟨fun a U g mk q => by obtain ⟨q0, q1, qP, qK, qD⟩ := q; exact ⟨q0, q1, qP, va_K.moved (u := U) (U := U.calling g mk a) (Vm.Alike.refl U.vm) qK, qD⟩, va_recv hK hP (ci := 0) (q0 := 0) rfl rfl, fun U hU hW => ⟨rfl, by rw [hU], by rw [hU]; exact hP, va_K.moved hW.alike hK, hD.weaken (fun _ _ _ _ => trivial)⟩⟩ rfl rfl hl.1 rfl (lv_room (Nat.le_of_ble_eq_true rfl)) dX0_callOrBreak_10 ⟨Nat.zero_le _, Nat.zero_le _⟩) hS (fun q _ h => hFc q h) hFc (fun r_17 u t H1 locs ht hvm hw hB hz1 hk1 hS => ?_)
    obtain ⟨b_18, hw⟩ := hw
    obtain ⟨wd_19, rs_20, pcv_21, trv_22, vav_23⟩ := u
    obtain ⟨hP1, hK1, hD1⟩ := hB
    rw [ht] at hP1
    obtain ⟨hP, hD⟩ := va_join (wr := []) (w1 := [(x0, .inr (0, [.ref xw, .ref xr, .ref xg, .int pcv_21, .int trv_22, .int vav_23, .int dnv])), (xw, .inl (c1, 4096, .inl wd_19)), (xr, .inl (c2, 4, .inl rg)), (xg, .inl (c3, 32, .inl rs_20))]) hP hD [0, 1, 2, 3] [] rfl rfl (by decide) (by decide) hk1 hFc hP1 hD1
    generalize H1 = H at hP hS ⊢
    have hP : va_P (dC, dI) vwCl [(x0, .inr (0, [.ref xw, .ref xr, .ref xg, .int pcv_21, .int trv_22, .int vav_23, .int dnv])), (xw, .inl (c1, 4096, .inl wd_19)), (xr, .inl (c2, 4, .inl rg)), (xg, .inl (c3, 32, .inl rs_20))] H := hP
    have hD : va_D A [(x0, .inr (0, [.ref xw, .ref xr, .ref xg, .int pcv_21, .int trv_22, .int vav_23, .int dnv])), (xw, .inl (c1, 4096, .inl wd_19)), (xr, .inl (c2, 4, .inl rg)), (xg, .inl (c3, 32, .inl rs_20))] := hD
    exact W.zret (v := r_17) (ty := .boolean) hx hb hr b_18 (fun t ht hW => ⟨⟨_, (wd_19, rs_20, pcv_21, trv_22, vav_23), rfl, ⟨b_18, (by unfold F_callOrBreak; rw [if_pos c_1]; exact hw)⟩, by rw [ht]; exact hP, va_K.moved hW.alike hK, hD⟩, hS.F ht⟩) hS.2.2 dX0_callOrBreak_13
def F_fence (wd : Nat → Int32) (rg : Nat → Int32) (rs : Nat → Int32) (pcv : Int32) (trv : Int32) (vav : Int32) (a1 : Int32) : Int32 × (Nat → Int32) × (Nat → Int32) × Int32 × Int32 × Int32 :=
  if (F_partF a1) = 0 then
    (1, (wd, rs, pcv + 4, trv, vav))
  else
    F_refuse wd rg rs pcv trv vav a1
set_option maxHeartbeats 4000000 in
set_option maxRecDepth 100000 in
theorem c_fence (l : Launch) (dC : Nat → ClassId) (dI : Nat → Nat → Nat) (x0 xw xr xg : Nat) (c1 c2 c3 : ClassId) (sz : Nat) (wd : Nat → Int32) (rg : Nat → Int32) (rs : Nat → Int32) (pcv : Int32) (trv : Int32) (vav : Int32) (dnv : Int32) (a1 : Int32)  : Met l yX0_fence wsX0_fence ({ frames := 2, cells := 0, slots := 0, locals := 43 }) (va_Pc [.ref x0, .int a1] (fun U => U.heap.size = sz ∧ va_P (dC, dI) vwCl [(x0, .inr (0, [.ref xw, .ref xr, .ref xg, .int pcv, .int trv, .int vav, .int dnv])), (xw, .inl (c1, 4096, .inl wd)), (xr, .inl (c2, 4, .inl rg)), (xg, .inl (c3, 32, .inl rs))] U.heap ∧ va_K (dC, dI) vwCl [(c1, .int), (c2, .int), (c3, .int)] U ∧ va_D (fun _ => True) [(x0, .inr (0, [.ref xw, .ref xr, .ref xg, .int pcv, .int trv, .int vav, .int dnv])), (xw, .inl (c1, 4096, .inl wd)), (xr, .inl (c2, 4, .inl rg)), (xg, .inl (c3, 32, .inl rs))])) (va_Qi (fun (r : Int32) (u : (Nat → Int32) × (Nat → Int32) × Int32 × Int32 × Int32) => narrow .boolean (.int r) = .int r ∧ (r, u) = F_fence wd rg rs pcv trv vav a1) (fun (u : (Nat → Int32) × (Nat → Int32) × Int32 × Int32 × Int32) (t : State) => va_P (dC, dI) vwCl [(x0, .inr (0, [.ref xw, .ref xr, .ref xg, .int u.2.2.1, .int u.2.2.2.1, .int u.2.2.2.2, .int dnv])), (xw, .inl (c1, 4096, .inl u.1)), (xr, .inl (c2, 4, .inl rg)), (xg, .inl (c3, 32, .inl u.2.1))] t.heap ∧ va_K (dC, dI) vwCl [(c1, .int), (c2, .int), (c3, .int)] t ∧ va_D (va_A [(x0, .inr (0, [.ref xw, .ref xr, .ref xg, .int pcv, .int trv, .int vav, .int dnv])), (xw, .inl (c1, 4096, .inl wd)), (xr, .inl (c2, 4, .inl rg)), (xg, .inl (c3, 32, .inl rs))] sz) [(x0, .inr (0, [.ref xw, .ref xr, .ref xg, .int u.2.2.1, .int u.2.2.2.1, .int u.2.2.2.2, .int dnv])), (xw, .inl (c1, 4096, .inl u.1)), (xr, .inl (c2, 4, .inl rg)), (xg, .inl (c3, 32, .inl u.2.1))]) (va_A [(x0, .inr (0, [.ref xw, .ref xr, .ref xg, .int pcv, .int trv, .int vav, .int dnv])), (xw, .inl (c1, 4096, .inl wd)), (xr, .inl (c2, 4, .inl rg)), (xg, .inl (c3, 32, .inl rs))] sz)) 0 0 (va_A [(x0, .inr (0, [.ref xw, .ref xr, .ref xg, .int pcv, .int trv, .int vav, .int dnv])), (xw, .inl (c1, 4096, .inl wd)), (xr, .inl (c2, 4, .inl rg)), (xg, .inl (c3, 32, .inl rs))] sz) := by
  refine Met.ofW (cc := cX0_fence) (maxL := 2) (ret := (some .boolean)) (by decide) rfl ?_
  intro p e s m args below meth c s₁ B hml hv
  obtain ⟨rfl, hsz, hP, hK, hD0⟩ := hv
  have hx := B.exec
  have hb := B.bytes
  have hr := B.returns
  have hts := atoms_spec (ws := wsX0_fence) B.pre
  have hown : s.vm.findClass RX0 = some m.cls := findClass_of_methodNamed B.named
  have hlocks := B.notSynchronized
  subst hsz
  have hD := hD0.self (sz := s.heap.size)
  generalize hAe : va_A [(x0, .inr (0, [.ref xw, .ref xr, .ref xg, .int pcv, .int trv, .int vav, .int dnv])), (xw, .inl (c1, 4096, .inl wd)), (xr, .inl (c2, 4, .inl rg)), (xg, .inl (c3, 32, .inl rs))] s.heap.size = A at hD ⊢
  have hA : ∀ q : Nat, s.heap.size ≤ q → A q := fun q h => by rw [← hAe]; exact Or.inr h
  have hS : va_S A s.heap s.heap [] := va_S.rf
  have hP : va_P (dC, dI) vwCl [(x0, .inr (0, [.ref xw, .ref xr, .ref xg, .int pcv, .int trv, .int vav, .int dnv])), (xw, .inl (c1, 4096, .inl wd)), (xr, .inl (c2, 4, .inl rg)), (xg, .inl (c3, 32, .inl rs))] s.heap := hP
  have hl := lv_entry ([.ref x0, .int a1]) (n := 2) (Nat.le_of_ble_eq_true rfl)
  rw [lg_entry_eq]
  generalize (lg_sl ([.ref x0, .int a1]) ++ List.replicate (2 - (lg_sl ([.ref x0, .int a1])).length) Slot.unset).toArray = ls at hl ⊢
  have hl : lv_has ls 2 [(0, .ref x0), (1, .int a1)] := hl
  refine lv_iload_n hx hb dX0_fence_0 rfl (lv_at hl 1 rfl) ?_
  refine vp_callSi (W.runS (As := [.int a1]) (rest := []) ⟨hx, hb, hml, hown, hts⟩ (c_partF l a1) (cwS 1 hts (gS mL_X0_114 mS_X0_partF mN_X0 mC_X0_partF) rfl rfl rfl (by decide +kernel) ⟨Nat.le_of_ble_eq_true rfl, Nat.le_of_ble_eq_true rfl⟩) preEq rfl rfl hl.1 rfl (lv_room (Nat.le_of_ble_eq_true rfl)) dX0_fence_1 ⟨Nat.zero_le _, Nat.zero_le _⟩) (fun r_1 hw => ?_)
  subst hw
  refine lv_if_eq (tgt := 13) hx hb dX0_fence_4 (by decide) (fun c_2 => ?_) (fun c_2 => ?_)
  · refine lv_aload_n hx hb dX0_fence_13 rfl (lv_at hl 0 rfl) ?_
    refine lv_dup hx hb dX0_fence_14 rfl ?_
    refine va_get (D := (dC, dI)) (ci := 0) (v := .int pcv) (C := RX0) (T := TX0) (N := 7) hx hb hts (gw_lay lay_X0) hown hK hP 0 rfl rfl 3 (by decide) (hts _ (gcons mF_X0_19)) (fun _ h9 => h9) rfl dX0_fence_15 ?_
    refine lv_iconst (v := 4) hx hb dX0_fence_18 (by decide) ?_
    refine lv_iadd hx hb dX0_fence_19 ?_
    refine va_put (D := (dC, dI)) (ci := 0) (v := .int (pcv + 4)) (ty := .int) (C := RX0) (T := TX0) (N := 7) hx hb hts (gw_lay lay_X0) tyX0 tyX0_ok nmX0 hown hK hP hD hS 0 rfl rfl 3 (by decide) (hts _ (gcons mF_X0_19)) (fun _ h9 => h9) rfl (by decide +kernel) rfl rfl (Nat.le_of_ble_eq_true rfl) dX0_fence_20 (fun H locs hP hD hS => ?_)
    have hP : va_P (dC, dI) vwCl [(x0, .inr (0, [.ref xw, .ref xr, .ref xg, .int (pcv + 4), .int trv, .int vav, .int dnv])), (xw, .inl (c1, 4096, .inl wd)), (xr, .inl (c2, 4, .inl rg)), (xg, .inl (c3, 32, .inl rs))] H := hP
    have hD : va_D A [(x0, .inr (0, [.ref xw, .ref xr, .ref xg, .int (pcv + 4), .int trv, .int vav, .int dnv])), (xw, .inl (c1, 4096, .inl wd)), (xr, .inl (c2, 4, .inl rg)), (xg, .inl (c3, 32, .inl rs))] := hD
    refine lv_iconst (v := 1) hx hb dX0_fence_23 (by decide) ?_
    exact W.zret (v := 1) (ty := .boolean) hx hb hr rfl (fun t ht hW => ⟨⟨_, (wd, rs, pcv + 4, trv, vav), rfl, ⟨rfl, (by unfold F_fence; rw [if_pos c_2])⟩, by rw [ht]; exact hP, va_K.moved hW.alike hK, hD⟩, hS.F ht⟩) hS.2.2 dX0_fence_24
  · refine lv_aload_n hx hb dX0_fence_7 rfl (lv_at hl 0 rfl) ?_
    refine lv_iload_n hx hb dX0_fence_8 rfl (lv_at hl 1 rfl) ?_
    have hFc := va_free (wc := [(x0, .inr (0, [.ref xw, .ref xr, .ref xg, .int pcv, .int trv, .int vav, .int dnv])), (xw, .inl (c1, 4096, .inl wd)), (xr, .inl (c2, 4, .inl rg)), (xg, .inl (c3, 32, .inl rs))]) hD hS hA [0, 1, 2, 3] rfl
    refine va_calli (va_runV (As := [.int a1]) (rest := []) ⟨hx, hb, hml, hown, hts⟩ (c_refuse l dC dI x0 xw xr xg c1 c2 c3 s.heap.size wd rg rs pcv trv vav dnv a1) (cwV 1 hts (gV mL_X0_111 mI_X0_refuse mE_X0_refuse mN_X0 mC_X0_refuse) rfl rfl rfl (by decide +kernel) ⟨Nat.le_of_ble_eq_true rfl, Nat.le_of_ble_eq_true rfl⟩) ⟨fun a U g mk q => by obtain ⟨q0, q1, qP, qK, qD⟩ := q; exact ⟨q0, q1, qP, va_K.moved (u := U) (U := U.calling g mk a) (Vm.Alike.refl U.vm) qK, qD⟩, va_recv hK hP (ci := 0) (q0 := 0) rfl rfl, fun U hU hW => ⟨rfl, by rw [hU], by rw [hU]; exact hP, va_K.moved hW.alike hK, hD.weaken (fun _ _ _ _ => trivial)⟩⟩ rfl rfl hl.1 rfl (lv_room (Nat.le_of_ble_eq_true rfl)) dX0_fence_9 ⟨Nat.zero_le _, Nat.zero_le _⟩) hS (fun q _ h => hFc q h) hFc (fun r_3 u t H1 locs ht hvm hw hB hz1 hk1 hS => ?_)
    obtain ⟨b_4, hw⟩ := hw
    obtain ⟨wd_5, rs_6, pcv_7, trv_8, vav_9⟩ := u
    obtain ⟨hP1, hK1, hD1⟩ := hB
    rw [ht] at hP1
    obtain ⟨hP, hD⟩ := va_join (wr := []) (w1 := [(x0, .inr (0, [.ref xw, .ref xr, .ref xg, .int pcv_7, .int trv_8, .int vav_9, .int dnv])), (xw, .inl (c1, 4096, .inl wd_5)), (xr, .inl (c2, 4, .inl rg)), (xg, .inl (c3, 32, .inl rs_6))]) hP hD [0, 1, 2, 3] [] rfl rfl (by decide) (by decide) hk1 hFc hP1 hD1
    generalize H1 = H at hP hS ⊢
    have hP : va_P (dC, dI) vwCl [(x0, .inr (0, [.ref xw, .ref xr, .ref xg, .int pcv_7, .int trv_8, .int vav_9, .int dnv])), (xw, .inl (c1, 4096, .inl wd_5)), (xr, .inl (c2, 4, .inl rg)), (xg, .inl (c3, 32, .inl rs_6))] H := hP
    have hD : va_D A [(x0, .inr (0, [.ref xw, .ref xr, .ref xg, .int pcv_7, .int trv_8, .int vav_9, .int dnv])), (xw, .inl (c1, 4096, .inl wd_5)), (xr, .inl (c2, 4, .inl rg)), (xg, .inl (c3, 32, .inl rs_6))] := hD
    exact W.zret (v := r_3) (ty := .boolean) hx hb hr b_4 (fun t ht hW => ⟨⟨_, (wd_5, rs_6, pcv_7, trv_8, vav_9), rfl, ⟨b_4, (by unfold F_fence; rw [if_neg c_2]; exact hw)⟩, by rw [ht]; exact hP, va_K.moved hW.alike hK, hD⟩, hS.F ht⟩) hS.2.2 dX0_fence_12
def F_computeWithRegisters (wd : Nat → Int32) (rg : Nat → Int32) (rs : Nat → Int32) (pcv : Int32) (trv : Int32) (vav : Int32) (a1 : Int32) : Int32 × (Nat → Int32) × (Nat → Int32) × Int32 × Int32 × Int32 :=
  if (F_partG a1) = 0 then
    F_finish wd rg rs pcv trv vav a1 (F_compute (F_partF a1) (F_registerA rs a1) (F_registerB rs a1))
  else
    if (F_partG a1) = 1 then
      F_finish wd rg rs pcv trv vav a1 (F_multiplyOrDivide (F_partF a1) (F_registerA rs a1) (F_registerB rs a1))
    else
      if (F_partG a1) = 32 then
        if (F_partF a1) = 0 then
          F_finish wd rg rs pcv trv vav a1 ((F_registerA rs a1) - (F_registerB rs a1))
        else
          if (F_partF a1) = 5 then
            F_finish wd rg rs pcv trv vav a1 ((F_registerA rs a1) >>> (((F_registerB rs a1) &&& 31) &&& 31))
          else
            F_refuse wd rg rs pcv trv vav a1
      else
        F_refuse wd rg rs pcv trv vav a1
set_option maxHeartbeats 4000000 in
set_option maxRecDepth 100000 in
theorem c_computeWithRegisters (l : Launch) (dC : Nat → ClassId) (dI : Nat → Nat → Nat) (x0 xw xr xg : Nat) (c1 c2 c3 : ClassId) (sz : Nat) (wd : Nat → Int32) (rg : Nat → Int32) (rs : Nat → Int32) (pcv : Int32) (trv : Int32) (vav : Int32) (dnv : Int32) (a1 : Int32)  : Met l yX0_computeWithRegisters wsX0_computeWithRegisters ({ frames := 3, cells := 0, slots := 0, locals := 64 }) (va_Pc [.ref x0, .int a1] (fun U => U.heap.size = sz ∧ va_P (dC, dI) vwCl [(x0, .inr (0, [.ref xw, .ref xr, .ref xg, .int pcv, .int trv, .int vav, .int dnv])), (xw, .inl (c1, 4096, .inl wd)), (xr, .inl (c2, 4, .inl rg)), (xg, .inl (c3, 32, .inl rs))] U.heap ∧ va_K (dC, dI) vwCl [(c1, .int), (c2, .int), (c3, .int)] U ∧ va_D (fun _ => True) [(x0, .inr (0, [.ref xw, .ref xr, .ref xg, .int pcv, .int trv, .int vav, .int dnv])), (xw, .inl (c1, 4096, .inl wd)), (xr, .inl (c2, 4, .inl rg)), (xg, .inl (c3, 32, .inl rs))])) (va_Qi (fun (r : Int32) (u : (Nat → Int32) × (Nat → Int32) × Int32 × Int32 × Int32) => narrow .boolean (.int r) = .int r ∧ (r, u) = F_computeWithRegisters wd rg rs pcv trv vav a1) (fun (u : (Nat → Int32) × (Nat → Int32) × Int32 × Int32 × Int32) (t : State) => va_P (dC, dI) vwCl [(x0, .inr (0, [.ref xw, .ref xr, .ref xg, .int u.2.2.1, .int u.2.2.2.1, .int u.2.2.2.2, .int dnv])), (xw, .inl (c1, 4096, .inl u.1)), (xr, .inl (c2, 4, .inl rg)), (xg, .inl (c3, 32, .inl u.2.1))] t.heap ∧ va_K (dC, dI) vwCl [(c1, .int), (c2, .int), (c3, .int)] t ∧ va_D (va_A [(x0, .inr (0, [.ref xw, .ref xr, .ref xg, .int pcv, .int trv, .int vav, .int dnv])), (xw, .inl (c1, 4096, .inl wd)), (xr, .inl (c2, 4, .inl rg)), (xg, .inl (c3, 32, .inl rs))] sz) [(x0, .inr (0, [.ref xw, .ref xr, .ref xg, .int u.2.2.1, .int u.2.2.2.1, .int u.2.2.2.2, .int dnv])), (xw, .inl (c1, 4096, .inl u.1)), (xr, .inl (c2, 4, .inl rg)), (xg, .inl (c3, 32, .inl u.2.1))]) (va_A [(x0, .inr (0, [.ref xw, .ref xr, .ref xg, .int pcv, .int trv, .int vav, .int dnv])), (xw, .inl (c1, 4096, .inl wd)), (xr, .inl (c2, 4, .inl rg)), (xg, .inl (c3, 32, .inl rs))] sz)) 0 0 (va_A [(x0, .inr (0, [.ref xw, .ref xr, .ref xg, .int pcv, .int trv, .int vav, .int dnv])), (xw, .inl (c1, 4096, .inl wd)), (xr, .inl (c2, 4, .inl rg)), (xg, .inl (c3, 32, .inl rs))] sz) := by
  refine Met.ofW (cc := cX0_computeWithRegisters) (maxL := 5) (ret := (some .boolean)) (by decide) rfl ?_
  intro p e s m args below meth c s₁ B hml hv
  obtain ⟨rfl, hsz, hP, hK, hD0⟩ := hv
  have hx := B.exec
  have hb := B.bytes
  have hr := B.returns
  have hts := atoms_spec (ws := wsX0_computeWithRegisters) B.pre
  have hown : s.vm.findClass RX0 = some m.cls := findClass_of_methodNamed B.named
  have hlocks := B.notSynchronized
  subst hsz
  have hD := hD0.self (sz := s.heap.size)
  generalize hAe : va_A [(x0, .inr (0, [.ref xw, .ref xr, .ref xg, .int pcv, .int trv, .int vav, .int dnv])), (xw, .inl (c1, 4096, .inl wd)), (xr, .inl (c2, 4, .inl rg)), (xg, .inl (c3, 32, .inl rs))] s.heap.size = A at hD ⊢
  have hA : ∀ q : Nat, s.heap.size ≤ q → A q := fun q h => by rw [← hAe]; exact Or.inr h
  have hS : va_S A s.heap s.heap [] := va_S.rf
  have hP : va_P (dC, dI) vwCl [(x0, .inr (0, [.ref xw, .ref xr, .ref xg, .int pcv, .int trv, .int vav, .int dnv])), (xw, .inl (c1, 4096, .inl wd)), (xr, .inl (c2, 4, .inl rg)), (xg, .inl (c3, 32, .inl rs))] s.heap := hP
  have hl := lv_entry ([.ref x0, .int a1]) (n := 5) (Nat.le_of_ble_eq_true rfl)
  rw [lg_entry_eq]
  generalize (lg_sl ([.ref x0, .int a1]) ++ List.replicate (5 - (lg_sl ([.ref x0, .int a1])).length) Slot.unset).toArray = ls at hl ⊢
  have hl : lv_has ls 5 [(0, .ref x0), (1, .int a1)] := hl
  refine lv_iload_n hx hb dX0_computeWithRegisters_0 rfl (lv_at hl 1 rfl) ?_
  refine vp_callSi (W.runS (As := [.int a1]) (rest := []) ⟨hx, hb, hml, hown, hts⟩ (c_partF l a1) (cwS 1 hts (gS mL_X0_114 mS_X0_partF mN_X0 mC_X0_partF) rfl rfl rfl (by decide +kernel) ⟨Nat.le_of_ble_eq_true rfl, Nat.le_of_ble_eq_true rfl⟩) preEq rfl rfl hl.1 rfl (lv_room (Nat.le_of_ble_eq_true rfl)) dX0_computeWithRegisters_1 ⟨Nat.zero_le _, Nat.zero_le _⟩) (fun r_1 hw => ?_)
  subst hw
  refine lv_istore_n (lv' := [(2, .int (F_partF a1)), (0, .ref x0), (1, .int a1)]) hx hb dX0_computeWithRegisters_4 rfl hl (by decide) rfl (fun ls hl => ?_)
  refine lv_aload_n hx hb dX0_computeWithRegisters_5 rfl (lv_at hl 1 rfl) ?_
  refine lv_iload_n hx hb dX0_computeWithRegisters_6 rfl (lv_at hl 2 rfl) ?_
  refine vp_callSi (W.runV (As := [.int a1]) (rest := []) ⟨hx, hb, hml, hown, hts⟩ (c_registerA l dC dI x0 xw xr xg c1 c2 c3 wd rg rs pcv trv vav dnv a1) (cwV 1 hts (gV mL_X0_117 mI_X0_registerA mE_X0_registerA mN_X0 mC_X0_registerA) rfl rfl rfl (by decide +kernel) ⟨Nat.le_of_ble_eq_true rfl, Nat.le_of_ble_eq_true rfl⟩) ⟨fun a U g mk q => by obtain ⟨q0, qP, qK⟩ := q; exact ⟨q0, qP, va_K.moved (u := U) (U := U.calling g mk a) (Vm.Alike.refl U.vm) qK⟩, va_recv hK hP (ci := 0) (q0 := 0) rfl rfl, fun U hU hW => ⟨rfl, by rw [hU]; exact hP, va_K.moved hW.alike hK⟩⟩ rfl rfl hl.1 rfl (lv_room (Nat.le_of_ble_eq_true rfl)) dX0_computeWithRegisters_7 ⟨Nat.zero_le _, Nat.zero_le _⟩) (fun r_2 hw => ?_)
  subst hw
  refine lv_istore_n (lv' := [(3, .int (F_registerA rs a1)), (2, .int (F_partF a1)), (0, .ref x0), (1, .int a1)]) hx hb dX0_computeWithRegisters_10 rfl hl (by decide) rfl (fun ls hl => ?_)
  refine lv_aload_n hx hb dX0_computeWithRegisters_11 rfl (lv_at hl 2 rfl) ?_
  refine lv_iload_n hx hb dX0_computeWithRegisters_12 rfl (lv_at hl 3 rfl) ?_
  refine vp_callSi (W.runV (As := [.int a1]) (rest := []) ⟨hx, hb, hml, hown, hts⟩ (c_registerB l dC dI x0 xw xr xg c1 c2 c3 wd rg rs pcv trv vav dnv a1) (cwV 1 hts (gV mL_X0_123 mI_X0_registerB mE_X0_registerB mN_X0 mC_X0_registerB) rfl rfl rfl (by decide +kernel) ⟨Nat.le_of_ble_eq_true rfl, Nat.le_of_ble_eq_true rfl⟩) ⟨fun a U g mk q => by obtain ⟨q0, qP, qK⟩ := q; exact ⟨q0, qP, va_K.moved (u := U) (U := U.calling g mk a) (Vm.Alike.refl U.vm) qK⟩, va_recv hK hP (ci := 0) (q0 := 0) rfl rfl, fun U hU hW => ⟨rfl, by rw [hU]; exact hP, va_K.moved hW.alike hK⟩⟩ rfl rfl hl.1 rfl (lv_room (Nat.le_of_ble_eq_true rfl)) dX0_computeWithRegisters_13 ⟨Nat.zero_le _, Nat.zero_le _⟩) (fun r_3 hw => ?_)
  subst hw
  refine lv_istore (lv' := [(4, .int (F_registerB rs a1)), (3, .int (F_registerA rs a1)), (2, .int (F_partF a1)), (0, .ref x0), (1, .int a1)]) hx hb dX0_computeWithRegisters_16 hl (by decide) rfl (fun ls hl => ?_)
  refine lv_iload_n hx hb dX0_computeWithRegisters_18 rfl (lv_at hl 4 rfl) ?_
  refine vp_callSi (W.runS (As := [.int a1]) (rest := []) ⟨hx, hb, hml, hown, hts⟩ (c_partG l a1) (cwS 1 hts (gS mL_X0_140 mS_X0_partG mN_X0 mC_X0_partG) rfl rfl rfl (by decide +kernel) ⟨Nat.le_of_ble_eq_true rfl, Nat.le_of_ble_eq_true rfl⟩) preEq rfl rfl hl.1 rfl (lv_room (Nat.le_of_ble_eq_true rfl)) dX0_computeWithRegisters_19 ⟨Nat.zero_le _, Nat.zero_le _⟩) (fun r_4 hw => ?_)
  subst hw
  by_cases c_5 : (F_partG a1) = 0
  · refine lv_lookup (tgt := 56) (off := 34) hx hb dX0_computeWithRegisters_22 (by decide) (by rw [c_5] <;> rfl) (by decide) ?_
    refine lv_aload_n hx hb dX0_computeWithRegisters_56 rfl (lv_at hl 3 rfl) ?_
    refine lv_iload_n hx hb dX0_computeWithRegisters_57 rfl (lv_at hl 4 rfl) ?_
    refine lv_iload_n hx hb dX0_computeWithRegisters_58 rfl (lv_at hl 2 rfl) ?_
    refine lv_iload_n hx hb dX0_computeWithRegisters_59 rfl (lv_at hl 1 rfl) ?_
    refine lv_iload hx hb dX0_computeWithRegisters_60 (lv_at hl 0 rfl) ?_
    refine vp_callSi (W.runS (As := [.int (F_partF a1), .int (F_registerA rs a1), .int (F_registerB rs a1)]) (rest := [.int a1, .ref x0]) ⟨hx, hb, hml, hown, hts⟩ (c_compute l (F_partF a1) (F_registerA rs a1) (F_registerB rs a1)) (cwS 3 hts (gS mL_X0_146 mS_X0_compute mN_X0 mC_X0_compute) rfl rfl rfl (by decide +kernel) ⟨Nat.le_of_ble_eq_true rfl, Nat.le_of_ble_eq_true rfl⟩) preEq rfl rfl hl.1 rfl (lv_room (Nat.le_of_ble_eq_true rfl)) dX0_computeWithRegisters_62 ⟨Nat.zero_le _, Nat.zero_le _⟩) (fun r_6 hw => ?_)
    subst hw
    have hFc := va_free (wc := [(x0, .inr (0, [.ref xw, .ref xr, .ref xg, .int pcv, .int trv, .int vav, .int dnv])), (xw, .inl (c1, 4096, .inl wd)), (xr, .inl (c2, 4, .inl rg)), (xg, .inl (c3, 32, .inl rs))]) hD hS hA [0, 1, 2, 3] rfl
    refine va_calli (va_runV (As := [.int a1, .int (F_compute (F_partF a1) (F_registerA rs a1) (F_registerB rs a1))]) (rest := []) ⟨hx, hb, hml, hown, hts⟩ (c_finish l dC dI x0 xw xr xg c1 c2 c3 s.heap.size wd rg rs pcv trv vav dnv a1 (F_compute (F_partF a1) (F_registerA rs a1) (F_registerB rs a1))) (cwV 2 hts (gV mL_X0_78 mI_X0_finish mE_X0_finish mN_X0 mC_X0_finish) rfl rfl rfl (by decide +kernel) ⟨Nat.le_of_ble_eq_true rfl, Nat.le_of_ble_eq_true rfl⟩) ⟨fun a U g mk q => by obtain ⟨q0, q1, qP, qK, qD⟩ := q; exact ⟨q0, q1, qP, va_K.moved (u := U) (U := U.calling g mk a) (Vm.Alike.refl U.vm) qK, qD⟩, va_recv hK hP (ci := 0) (q0 := 0) rfl rfl, fun U hU hW => ⟨rfl, by rw [hU], by rw [hU]; exact hP, va_K.moved hW.alike hK, hD.weaken (fun _ _ _ _ => trivial)⟩⟩ rfl rfl hl.1 rfl (lv_room (Nat.le_of_ble_eq_true rfl)) dX0_computeWithRegisters_65 ⟨Nat.zero_le _, Nat.zero_le _⟩) hS (fun q _ h => hFc q h) hFc (fun r_7 u t H1 locs ht hvm hw hB hz1 hk1 hS => ?_)
    obtain ⟨b_8, hw⟩ := hw
    obtain ⟨wd_9, rs_10, pcv_11, trv_12, vav_13⟩ := u
    obtain ⟨hP1, hK1, hD1⟩ := hB
    rw [ht] at hP1
    obtain ⟨hP, hD⟩ := va_join (wr := []) (w1 := [(x0, .inr (0, [.ref xw, .ref xr, .ref xg, .int pcv_11, .int trv_12, .int vav_13, .int dnv])), (xw, .inl (c1, 4096, .inl wd_9)), (xr, .inl (c2, 4, .inl rg)), (xg, .inl (c3, 32, .inl rs_10))]) hP hD [0, 1, 2, 3] [] rfl rfl (by decide) (by decide) hk1 hFc hP1 hD1
    generalize H1 = H at hP hS ⊢
    have hP : va_P (dC, dI) vwCl [(x0, .inr (0, [.ref xw, .ref xr, .ref xg, .int pcv_11, .int trv_12, .int vav_13, .int dnv])), (xw, .inl (c1, 4096, .inl wd_9)), (xr, .inl (c2, 4, .inl rg)), (xg, .inl (c3, 32, .inl rs_10))] H := hP
    have hD : va_D A [(x0, .inr (0, [.ref xw, .ref xr, .ref xg, .int pcv_11, .int trv_12, .int vav_13, .int dnv])), (xw, .inl (c1, 4096, .inl wd_9)), (xr, .inl (c2, 4, .inl rg)), (xg, .inl (c3, 32, .inl rs_10))] := hD
    exact W.zret (v := r_7) (ty := .boolean) hx hb hr b_8 (fun t ht hW => ⟨⟨_, (wd_9, rs_10, pcv_11, trv_12, vav_13), rfl, ⟨b_8, (by unfold F_computeWithRegisters; rw [if_pos c_5]; exact hw)⟩, by rw [ht]; exact hP, va_K.moved hW.alike hK, hD⟩, hS.F ht⟩) hS.2.2 dX0_computeWithRegisters_68
  · by_cases c_14 : (F_partG a1) = 1
    · refine lv_lookup (tgt := 69) (off := 47) hx hb dX0_computeWithRegisters_22 (by decide) (by rw [c_14] <;> rfl) (by decide) ?_
      refine lv_aload_n hx hb dX0_computeWithRegisters_69 rfl (lv_at hl 3 rfl) ?_
      refine lv_iload_n hx hb dX0_computeWithRegisters_70 rfl (lv_at hl 4 rfl) ?_
      refine lv_iload_n hx hb dX0_computeWithRegisters_71 rfl (lv_at hl 2 rfl) ?_
      refine lv_iload_n hx hb dX0_computeWithRegisters_72 rfl (lv_at hl 1 rfl) ?_
      refine lv_iload hx hb dX0_computeWithRegisters_73 (lv_at hl 0 rfl) ?_
      refine vp_callSi (W.runS (As := [.int (F_partF a1), .int (F_registerA rs a1), .int (F_registerB rs a1)]) (rest := [.int a1, .ref x0]) ⟨hx, hb, hml, hown, hts⟩ (c_multiplyOrDivide l (F_partF a1) (F_registerA rs a1) (F_registerB rs a1)) (cwS 3 hts (gS mL_X0_150 mS_X0_multiplyOrDivide mN_X0 mC_X0_multiplyOrDivide) rfl rfl rfl (by decide +kernel) ⟨Nat.le_of_ble_eq_true rfl, Nat.le_of_ble_eq_true rfl⟩) preEq rfl rfl hl.1 rfl (lv_room (Nat.le_of_ble_eq_true rfl)) dX0_computeWithRegisters_75 ⟨Nat.zero_le _, Nat.zero_le _⟩) (fun r_15 hw => ?_)
      subst hw
      have hFc := va_free (wc := [(x0, .inr (0, [.ref xw, .ref xr, .ref xg, .int pcv, .int trv, .int vav, .int dnv])), (xw, .inl (c1, 4096, .inl wd)), (xr, .inl (c2, 4, .inl rg)), (xg, .inl (c3, 32, .inl rs))]) hD hS hA [0, 1, 2, 3] rfl
      refine va_calli (va_runV (As := [.int a1, .int (F_multiplyOrDivide (F_partF a1) (F_registerA rs a1) (F_registerB rs a1))]) (rest := []) ⟨hx, hb, hml, hown, hts⟩ (c_finish l dC dI x0 xw xr xg c1 c2 c3 s.heap.size wd rg rs pcv trv vav dnv a1 (F_multiplyOrDivide (F_partF a1) (F_registerA rs a1) (F_registerB rs a1))) (cwV 2 hts (gV mL_X0_78 mI_X0_finish mE_X0_finish mN_X0 mC_X0_finish) rfl rfl rfl (by decide +kernel) ⟨Nat.le_of_ble_eq_true rfl, Nat.le_of_ble_eq_true rfl⟩) ⟨fun a U g mk q => by obtain ⟨q0, q1, qP, qK, qD⟩ := q; exact ⟨q0, q1, qP, va_K.moved (u := U) (U := U.calling g mk a) (Vm.Alike.refl U.vm) qK, qD⟩, va_recv hK hP (ci := 0) (q0 := 0) rfl rfl, fun U hU hW => ⟨rfl, by rw [hU], by rw [hU]; exact hP, va_K.moved hW.alike hK, hD.weaken (fun _ _ _ _ => trivial)⟩⟩ rfl rfl hl.1 rfl (lv_room (Nat.le_of_ble_eq_true rfl)) dX0_computeWithRegisters_78 ⟨Nat.zero_le _, Nat.zero_le _⟩) hS (fun q _ h => hFc q h) hFc (fun r_16 u t H1 locs ht hvm hw hB hz1 hk1 hS => ?_)
      obtain ⟨b_17, hw⟩ := hw
      obtain ⟨wd_18, rs_19, pcv_20, trv_21, vav_22⟩ := u
      obtain ⟨hP1, hK1, hD1⟩ := hB
      rw [ht] at hP1
      obtain ⟨hP, hD⟩ := va_join (wr := []) (w1 := [(x0, .inr (0, [.ref xw, .ref xr, .ref xg, .int pcv_20, .int trv_21, .int vav_22, .int dnv])), (xw, .inl (c1, 4096, .inl wd_18)), (xr, .inl (c2, 4, .inl rg)), (xg, .inl (c3, 32, .inl rs_19))]) hP hD [0, 1, 2, 3] [] rfl rfl (by decide) (by decide) hk1 hFc hP1 hD1
      generalize H1 = H at hP hS ⊢
      have hP : va_P (dC, dI) vwCl [(x0, .inr (0, [.ref xw, .ref xr, .ref xg, .int pcv_20, .int trv_21, .int vav_22, .int dnv])), (xw, .inl (c1, 4096, .inl wd_18)), (xr, .inl (c2, 4, .inl rg)), (xg, .inl (c3, 32, .inl rs_19))] H := hP
      have hD : va_D A [(x0, .inr (0, [.ref xw, .ref xr, .ref xg, .int pcv_20, .int trv_21, .int vav_22, .int dnv])), (xw, .inl (c1, 4096, .inl wd_18)), (xr, .inl (c2, 4, .inl rg)), (xg, .inl (c3, 32, .inl rs_19))] := hD
      exact W.zret (v := r_16) (ty := .boolean) hx hb hr b_17 (fun t ht hW => ⟨⟨_, (wd_18, rs_19, pcv_20, trv_21, vav_22), rfl, ⟨b_17, (by unfold F_computeWithRegisters; rw [if_neg c_5, if_pos c_14]; exact hw)⟩, by rw [ht]; exact hP, va_K.moved hW.alike hK, hD⟩, hS.F ht⟩) hS.2.2 dX0_computeWithRegisters_81
    · by_cases c_23 : (F_partG a1) = 32
      · refine lv_lookup (tgt := 82) (off := 60) hx hb dX0_computeWithRegisters_22 (by decide) (by rw [c_23] <;> rfl) (by decide) ?_
        refine lv_iload_n hx hb dX0_computeWithRegisters_82 rfl (lv_at hl 2 rfl) ?_
        refine lv_if_ne (tgt := 96) hx hb dX0_computeWithRegisters_83 (by decide) (fun c_24 => ?_) (fun c_24 => ?_)
        · refine lv_iload_n hx hb dX0_computeWithRegisters_96 rfl (lv_at hl 2 rfl) ?_
          refine lv_iconst (v := 5) hx hb dX0_computeWithRegisters_97 (by decide) ?_
          refine lv_icmp_ne (tgt := 116) hx hb dX0_computeWithRegisters_98 (by decide) (fun c_25 => ?_) (fun c_25 => ?_)
          · refine lv_aload_n hx hb dX0_computeWithRegisters_116 rfl (lv_at hl 3 rfl) ?_
            refine lv_iload_n hx hb dX0_computeWithRegisters_117 rfl (lv_at hl 4 rfl) ?_
            have hFc := va_free (wc := [(x0, .inr (0, [.ref xw, .ref xr, .ref xg, .int pcv, .int trv, .int vav, .int dnv])), (xw, .inl (c1, 4096, .inl wd)), (xr, .inl (c2, 4, .inl rg)), (xg, .inl (c3, 32, .inl rs))]) hD hS hA [0, 1, 2, 3] rfl
            refine va_calli (va_runV (As := [.int a1]) (rest := []) ⟨hx, hb, hml, hown, hts⟩ (c_refuse l dC dI x0 xw xr xg c1 c2 c3 s.heap.size wd rg rs pcv trv vav dnv a1) (cwV 1 hts (gV mL_X0_111 mI_X0_refuse mE_X0_refuse mN_X0 mC_X0_refuse) rfl rfl rfl (by decide +kernel) ⟨Nat.le_of_ble_eq_true rfl, Nat.le_of_ble_eq_true rfl⟩) ⟨fun a U g mk q => by obtain ⟨q0, q1, qP, qK, qD⟩ := q; exact ⟨q0, q1, qP, va_K.moved (u := U) (U := U.calling g mk a) (Vm.Alike.refl U.vm) qK, qD⟩, va_recv hK hP (ci := 0) (q0 := 0) rfl rfl, fun U hU hW => ⟨rfl, by rw [hU], by rw [hU]; exact hP, va_K.moved hW.alike hK, hD.weaken (fun _ _ _ _ => trivial)⟩⟩ rfl rfl hl.1 rfl (lv_room (Nat.le_of_ble_eq_true rfl)) dX0_computeWithRegisters_118 ⟨Nat.zero_le _, Nat.zero_le _⟩) hS (fun q _ h => hFc q h) hFc (fun r_26 u t H1 locs ht hvm hw hB hz1 hk1 hS => ?_)
            obtain ⟨b_27, hw⟩ := hw
            obtain ⟨wd_28, rs_29, pcv_30, trv_31, vav_32⟩ := u
            obtain ⟨hP1, hK1, hD1⟩ := hB
            rw [ht] at hP1
            obtain ⟨hP, hD⟩ := va_join (wr := []) (w1 := [(x0, .inr (0, [.ref xw, .ref xr, .ref xg, .int pcv_30, .int trv_31, .int vav_32, .int dnv])), (xw, .inl (c1, 4096, .inl wd_28)), (xr, .inl (c2, 4, .inl rg)), (xg, .inl (c3, 32, .inl rs_29))]) hP hD [0, 1, 2, 3] [] rfl rfl (by decide) (by decide) hk1 hFc hP1 hD1
            generalize H1 = H at hP hS ⊢
            have hP : va_P (dC, dI) vwCl [(x0, .inr (0, [.ref xw, .ref xr, .ref xg, .int pcv_30, .int trv_31, .int vav_32, .int dnv])), (xw, .inl (c1, 4096, .inl wd_28)), (xr, .inl (c2, 4, .inl rg)), (xg, .inl (c3, 32, .inl rs_29))] H := hP
            have hD : va_D A [(x0, .inr (0, [.ref xw, .ref xr, .ref xg, .int pcv_30, .int trv_31, .int vav_32, .int dnv])), (xw, .inl (c1, 4096, .inl wd_28)), (xr, .inl (c2, 4, .inl rg)), (xg, .inl (c3, 32, .inl rs_29))] := hD
            exact W.zret (v := r_26) (ty := .boolean) hx hb hr b_27 (fun t ht hW => ⟨⟨_, (wd_28, rs_29, pcv_30, trv_31, vav_32), rfl, ⟨b_27, (by unfold F_computeWithRegisters; rw [if_neg c_5, if_neg c_14, if_pos c_23, if_neg c_24, if_neg c_25]; exact hw)⟩, by rw [ht]; exact hP, va_K.moved hW.alike hK, hD⟩, hS.F ht⟩) hS.2.2 dX0_computeWithRegisters_121
          · refine lv_aload_n hx hb dX0_computeWithRegisters_101 rfl (lv_at hl 3 rfl) ?_
            refine lv_iload_n hx hb dX0_computeWithRegisters_102 rfl (lv_at hl 4 rfl) ?_
            refine lv_iload_n hx hb dX0_computeWithRegisters_103 rfl (lv_at hl 1 rfl) ?_
            refine lv_iload hx hb dX0_computeWithRegisters_104 (lv_at hl 0 rfl) ?_
            refine lv_bipush (v := 31) hx hb dX0_computeWithRegisters_106 (by decide) ?_
            refine lv_iand hx hb dX0_computeWithRegisters_108 ?_
            refine lv_ishr hx hb dX0_computeWithRegisters_109 ?_
            have hFc := va_free (wc := [(x0, .inr (0, [.ref xw, .ref xr, .ref xg, .int pcv, .int trv, .int vav, .int dnv])), (xw, .inl (c1, 4096, .inl wd)), (xr, .inl (c2, 4, .inl rg)), (xg, .inl (c3, 32, .inl rs))]) hD hS hA [0, 1, 2, 3] rfl
            refine va_calli (va_runV (As := [.int a1, .int ((F_registerA rs a1) >>> (((F_registerB rs a1) &&& 31) &&& 31))]) (rest := []) ⟨hx, hb, hml, hown, hts⟩ (c_finish l dC dI x0 xw xr xg c1 c2 c3 s.heap.size wd rg rs pcv trv vav dnv a1 ((F_registerA rs a1) >>> (((F_registerB rs a1) &&& 31) &&& 31))) (cwV 2 hts (gV mL_X0_78 mI_X0_finish mE_X0_finish mN_X0 mC_X0_finish) rfl rfl rfl (by decide +kernel) ⟨Nat.le_of_ble_eq_true rfl, Nat.le_of_ble_eq_true rfl⟩) ⟨fun a U g mk q => by obtain ⟨q0, q1, qP, qK, qD⟩ := q; exact ⟨q0, q1, qP, va_K.moved (u := U) (U := U.calling g mk a) (Vm.Alike.refl U.vm) qK, qD⟩, va_recv hK hP (ci := 0) (q0 := 0) rfl rfl, fun U hU hW => ⟨rfl, by rw [hU], by rw [hU]; exact hP, va_K.moved hW.alike hK, hD.weaken (fun _ _ _ _ => trivial)⟩⟩ rfl rfl hl.1 rfl (lv_room (Nat.le_of_ble_eq_true rfl)) dX0_computeWithRegisters_110 ⟨Nat.zero_le _, Nat.zero_le _⟩) hS (fun q _ h => hFc q h) hFc (fun r_33 u t H1 locs ht hvm hw hB hz1 hk1 hS => ?_)
            obtain ⟨b_34, hw⟩ := hw
            obtain ⟨wd_35, rs_36, pcv_37, trv_38, vav_39⟩ := u
            obtain ⟨hP1, hK1, hD1⟩ := hB
            rw [ht] at hP1
            obtain ⟨hP, hD⟩ := va_join (wr := []) (w1 := [(x0, .inr (0, [.ref xw, .ref xr, .ref xg, .int pcv_37, .int trv_38, .int vav_39, .int dnv])), (xw, .inl (c1, 4096, .inl wd_35)), (xr, .inl (c2, 4, .inl rg)), (xg, .inl (c3, 32, .inl rs_36))]) hP hD [0, 1, 2, 3] [] rfl rfl (by decide) (by decide) hk1 hFc hP1 hD1
            generalize H1 = H at hP hS ⊢
            have hP : va_P (dC, dI) vwCl [(x0, .inr (0, [.ref xw, .ref xr, .ref xg, .int pcv_37, .int trv_38, .int vav_39, .int dnv])), (xw, .inl (c1, 4096, .inl wd_35)), (xr, .inl (c2, 4, .inl rg)), (xg, .inl (c3, 32, .inl rs_36))] H := hP
            have hD : va_D A [(x0, .inr (0, [.ref xw, .ref xr, .ref xg, .int pcv_37, .int trv_38, .int vav_39, .int dnv])), (xw, .inl (c1, 4096, .inl wd_35)), (xr, .inl (c2, 4, .inl rg)), (xg, .inl (c3, 32, .inl rs_36))] := hD
            refine lv_goto (tgt := 121) hx hb dX0_computeWithRegisters_113 (by decide) ?_
            exact W.zret (v := r_33) (ty := .boolean) hx hb hr b_34 (fun t ht hW => ⟨⟨_, (wd_35, rs_36, pcv_37, trv_38, vav_39), rfl, ⟨b_34, (by unfold F_computeWithRegisters; rw [if_neg c_5, if_neg c_14, if_pos c_23, if_neg c_24, if_pos c_25]; exact hw)⟩, by rw [ht]; exact hP, va_K.moved hW.alike hK, hD⟩, hS.F ht⟩) hS.2.2 dX0_computeWithRegisters_121
        · refine lv_aload_n hx hb dX0_computeWithRegisters_86 rfl (lv_at hl 3 rfl) ?_
          refine lv_iload_n hx hb dX0_computeWithRegisters_87 rfl (lv_at hl 4 rfl) ?_
          refine lv_iload_n hx hb dX0_computeWithRegisters_88 rfl (lv_at hl 1 rfl) ?_
          refine lv_iload hx hb dX0_computeWithRegisters_89 (lv_at hl 0 rfl) ?_
          refine lv_isub hx hb dX0_computeWithRegisters_91 ?_
          have hFc := va_free (wc := [(x0, .inr (0, [.ref xw, .ref xr, .ref xg, .int pcv, .int trv, .int vav, .int dnv])), (xw, .inl (c1, 4096, .inl wd)), (xr, .inl (c2, 4, .inl rg)), (xg, .inl (c3, 32, .inl rs))]) hD hS hA [0, 1, 2, 3] rfl
          refine va_calli (va_runV (As := [.int a1, .int ((F_registerA rs a1) - (F_registerB rs a1))]) (rest := []) ⟨hx, hb, hml, hown, hts⟩ (c_finish l dC dI x0 xw xr xg c1 c2 c3 s.heap.size wd rg rs pcv trv vav dnv a1 ((F_registerA rs a1) - (F_registerB rs a1))) (cwV 2 hts (gV mL_X0_78 mI_X0_finish mE_X0_finish mN_X0 mC_X0_finish) rfl rfl rfl (by decide +kernel) ⟨Nat.le_of_ble_eq_true rfl, Nat.le_of_ble_eq_true rfl⟩) ⟨fun a U g mk q => by obtain ⟨q0, q1, qP, qK, qD⟩ := q; exact ⟨q0, q1, qP, va_K.moved (u := U) (U := U.calling g mk a) (Vm.Alike.refl U.vm) qK, qD⟩, va_recv hK hP (ci := 0) (q0 := 0) rfl rfl, fun U hU hW => ⟨rfl, by rw [hU], by rw [hU]; exact hP, va_K.moved hW.alike hK, hD.weaken (fun _ _ _ _ => trivial)⟩⟩ rfl rfl hl.1 rfl (lv_room (Nat.le_of_ble_eq_true rfl)) dX0_computeWithRegisters_92 ⟨Nat.zero_le _, Nat.zero_le _⟩) hS (fun q _ h => hFc q h) hFc (fun r_40 u t H1 locs ht hvm hw hB hz1 hk1 hS => ?_)
          obtain ⟨b_41, hw⟩ := hw
          obtain ⟨wd_42, rs_43, pcv_44, trv_45, vav_46⟩ := u
          obtain ⟨hP1, hK1, hD1⟩ := hB
          rw [ht] at hP1
          obtain ⟨hP, hD⟩ := va_join (wr := []) (w1 := [(x0, .inr (0, [.ref xw, .ref xr, .ref xg, .int pcv_44, .int trv_45, .int vav_46, .int dnv])), (xw, .inl (c1, 4096, .inl wd_42)), (xr, .inl (c2, 4, .inl rg)), (xg, .inl (c3, 32, .inl rs_43))]) hP hD [0, 1, 2, 3] [] rfl rfl (by decide) (by decide) hk1 hFc hP1 hD1
          generalize H1 = H at hP hS ⊢
          have hP : va_P (dC, dI) vwCl [(x0, .inr (0, [.ref xw, .ref xr, .ref xg, .int pcv_44, .int trv_45, .int vav_46, .int dnv])), (xw, .inl (c1, 4096, .inl wd_42)), (xr, .inl (c2, 4, .inl rg)), (xg, .inl (c3, 32, .inl rs_43))] H := hP
          have hD : va_D A [(x0, .inr (0, [.ref xw, .ref xr, .ref xg, .int pcv_44, .int trv_45, .int vav_46, .int dnv])), (xw, .inl (c1, 4096, .inl wd_42)), (xr, .inl (c2, 4, .inl rg)), (xg, .inl (c3, 32, .inl rs_43))] := hD
          exact W.zret (v := r_40) (ty := .boolean) hx hb hr b_41 (fun t ht hW => ⟨⟨_, (wd_42, rs_43, pcv_44, trv_45, vav_46), rfl, ⟨b_41, (by unfold F_computeWithRegisters; rw [if_neg c_5, if_neg c_14, if_pos c_23, if_pos c_24]; exact hw)⟩, by rw [ht]; exact hP, va_K.moved hW.alike hK, hD⟩, hS.F ht⟩) hS.2.2 dX0_computeWithRegisters_95
      · refine lv_lookup (tgt := 122) (off := 100) hx hb dX0_computeWithRegisters_22 (by decide) (by rw [lv_osw c_5 (by decide), lv_osw c_14 (by decide), lv_osw c_23 (by decide)] <;> rfl) (by decide) ?_
        refine lv_aload_n hx hb dX0_computeWithRegisters_122 rfl (lv_at hl 3 rfl) ?_
        refine lv_iload_n hx hb dX0_computeWithRegisters_123 rfl (lv_at hl 4 rfl) ?_
        have hFc := va_free (wc := [(x0, .inr (0, [.ref xw, .ref xr, .ref xg, .int pcv, .int trv, .int vav, .int dnv])), (xw, .inl (c1, 4096, .inl wd)), (xr, .inl (c2, 4, .inl rg)), (xg, .inl (c3, 32, .inl rs))]) hD hS hA [0, 1, 2, 3] rfl
        refine va_calli (va_runV (As := [.int a1]) (rest := []) ⟨hx, hb, hml, hown, hts⟩ (c_refuse l dC dI x0 xw xr xg c1 c2 c3 s.heap.size wd rg rs pcv trv vav dnv a1) (cwV 1 hts (gV mL_X0_111 mI_X0_refuse mE_X0_refuse mN_X0 mC_X0_refuse) rfl rfl rfl (by decide +kernel) ⟨Nat.le_of_ble_eq_true rfl, Nat.le_of_ble_eq_true rfl⟩) ⟨fun a U g mk q => by obtain ⟨q0, q1, qP, qK, qD⟩ := q; exact ⟨q0, q1, qP, va_K.moved (u := U) (U := U.calling g mk a) (Vm.Alike.refl U.vm) qK, qD⟩, va_recv hK hP (ci := 0) (q0 := 0) rfl rfl, fun U hU hW => ⟨rfl, by rw [hU], by rw [hU]; exact hP, va_K.moved hW.alike hK, hD.weaken (fun _ _ _ _ => trivial)⟩⟩ rfl rfl hl.1 rfl (lv_room (Nat.le_of_ble_eq_true rfl)) dX0_computeWithRegisters_124 ⟨Nat.zero_le _, Nat.zero_le _⟩) hS (fun q _ h => hFc q h) hFc (fun r_47 u t H1 locs ht hvm hw hB hz1 hk1 hS => ?_)
        obtain ⟨b_48, hw⟩ := hw
        obtain ⟨wd_49, rs_50, pcv_51, trv_52, vav_53⟩ := u
        obtain ⟨hP1, hK1, hD1⟩ := hB
        rw [ht] at hP1
        obtain ⟨hP, hD⟩ := va_join (wr := []) (w1 := [(x0, .inr (0, [.ref xw, .ref xr, .ref xg, .int pcv_51, .int trv_52, .int vav_53, .int dnv])), (xw, .inl (c1, 4096, .inl wd_49)), (xr, .inl (c2, 4, .inl rg)), (xg, .inl (c3, 32, .inl rs_50))]) hP hD [0, 1, 2, 3] [] rfl rfl (by decide) (by decide) hk1 hFc hP1 hD1
        generalize H1 = H at hP hS ⊢
        have hP : va_P (dC, dI) vwCl [(x0, .inr (0, [.ref xw, .ref xr, .ref xg, .int pcv_51, .int trv_52, .int vav_53, .int dnv])), (xw, .inl (c1, 4096, .inl wd_49)), (xr, .inl (c2, 4, .inl rg)), (xg, .inl (c3, 32, .inl rs_50))] H := hP
        have hD : va_D A [(x0, .inr (0, [.ref xw, .ref xr, .ref xg, .int pcv_51, .int trv_52, .int vav_53, .int dnv])), (xw, .inl (c1, 4096, .inl wd_49)), (xr, .inl (c2, 4, .inl rg)), (xg, .inl (c3, 32, .inl rs_50))] := hD
        exact W.zret (v := r_47) (ty := .boolean) hx hb hr b_48 (fun t ht hW => ⟨⟨_, (wd_49, rs_50, pcv_51, trv_52, vav_53), rfl, ⟨b_48, (by unfold F_computeWithRegisters; rw [if_neg c_5, if_neg c_14, if_neg c_23]; exact hw)⟩, by rw [ht]; exact hP, va_K.moved hW.alike hK, hD⟩, hS.F ht⟩) hS.2.2 dX0_computeWithRegisters_127
def F_computeWithImmediate (wd : Nat → Int32) (rg : Nat → Int32) (rs : Nat → Int32) (pcv : Int32) (trv : Int32) (vav : Int32) (a1 : Int32) : Int32 × (Nat → Int32) × (Nat → Int32) × Int32 × Int32 × Int32 :=
  if (F_partF a1) = 5 then
    if (F_partG a1) = 32 then
      F_finish wd rg rs pcv trv vav a1 ((F_registerA rs a1) >>> ((F_partB a1) &&& 31))
    else
      if (F_partF a1) = 1 then
        if (F_partG a1) = 0 then
          F_finish wd rg rs pcv trv vav a1 (F_compute (F_partF a1) (F_registerA rs a1) (F_lowImmediate a1))
        else
          F_refuse wd rg rs pcv trv vav a1
      else
        if (F_partG a1) = 0 then
          F_finish wd rg rs pcv trv vav a1 (F_compute (F_partF a1) (F_registerA rs a1) (F_lowImmediate a1))
        else
          F_refuse wd rg rs pcv trv vav a1
  else
    if (F_partF a1) = 1 then
      if (F_partG a1) = 0 then
        F_finish wd rg rs pcv trv vav a1 (F_compute (F_partF a1) (F_registerA rs a1) (F_lowImmediate a1))
      else
        F_refuse wd rg rs pcv trv vav a1
    else
      F_finish wd rg rs pcv trv vav a1 (F_compute (F_partF a1) (F_registerA rs a1) (F_lowImmediate a1))
set_option maxHeartbeats 4000000 in
set_option maxRecDepth 100000 in
theorem c_computeWithImmediate (l : Launch) (dC : Nat → ClassId) (dI : Nat → Nat → Nat) (x0 xw xr xg : Nat) (c1 c2 c3 : ClassId) (sz : Nat) (wd : Nat → Int32) (rg : Nat → Int32) (rs : Nat → Int32) (pcv : Int32) (trv : Int32) (vav : Int32) (dnv : Int32) (a1 : Int32)  : Met l yX0_computeWithImmediate wsX0_computeWithImmediate ({ frames := 2, cells := 0, slots := 0, locals := 44 }) (va_Pc [.ref x0, .int a1] (fun U => U.heap.size = sz ∧ va_P (dC, dI) vwCl [(x0, .inr (0, [.ref xw, .ref xr, .ref xg, .int pcv, .int trv, .int vav, .int dnv])), (xw, .inl (c1, 4096, .inl wd)), (xr, .inl (c2, 4, .inl rg)), (xg, .inl (c3, 32, .inl rs))] U.heap ∧ va_K (dC, dI) vwCl [(c1, .int), (c2, .int), (c3, .int)] U ∧ va_D (fun _ => True) [(x0, .inr (0, [.ref xw, .ref xr, .ref xg, .int pcv, .int trv, .int vav, .int dnv])), (xw, .inl (c1, 4096, .inl wd)), (xr, .inl (c2, 4, .inl rg)), (xg, .inl (c3, 32, .inl rs))])) (va_Qi (fun (r : Int32) (u : (Nat → Int32) × (Nat → Int32) × Int32 × Int32 × Int32) => narrow .boolean (.int r) = .int r ∧ (r, u) = F_computeWithImmediate wd rg rs pcv trv vav a1) (fun (u : (Nat → Int32) × (Nat → Int32) × Int32 × Int32 × Int32) (t : State) => va_P (dC, dI) vwCl [(x0, .inr (0, [.ref xw, .ref xr, .ref xg, .int u.2.2.1, .int u.2.2.2.1, .int u.2.2.2.2, .int dnv])), (xw, .inl (c1, 4096, .inl u.1)), (xr, .inl (c2, 4, .inl rg)), (xg, .inl (c3, 32, .inl u.2.1))] t.heap ∧ va_K (dC, dI) vwCl [(c1, .int), (c2, .int), (c3, .int)] t ∧ va_D (va_A [(x0, .inr (0, [.ref xw, .ref xr, .ref xg, .int pcv, .int trv, .int vav, .int dnv])), (xw, .inl (c1, 4096, .inl wd)), (xr, .inl (c2, 4, .inl rg)), (xg, .inl (c3, 32, .inl rs))] sz) [(x0, .inr (0, [.ref xw, .ref xr, .ref xg, .int u.2.2.1, .int u.2.2.2.1, .int u.2.2.2.2, .int dnv])), (xw, .inl (c1, 4096, .inl u.1)), (xr, .inl (c2, 4, .inl rg)), (xg, .inl (c3, 32, .inl u.2.1))]) (va_A [(x0, .inr (0, [.ref xw, .ref xr, .ref xg, .int pcv, .int trv, .int vav, .int dnv])), (xw, .inl (c1, 4096, .inl wd)), (xr, .inl (c2, 4, .inl rg)), (xg, .inl (c3, 32, .inl rs))] sz)) 0 0 (va_A [(x0, .inr (0, [.ref xw, .ref xr, .ref xg, .int pcv, .int trv, .int vav, .int dnv])), (xw, .inl (c1, 4096, .inl wd)), (xr, .inl (c2, 4, .inl rg)), (xg, .inl (c3, 32, .inl rs))] sz) := by
  refine Met.ofW (cc := cX0_computeWithImmediate) (maxL := 4) (ret := (some .boolean)) (by decide) rfl ?_
  intro p e s m args below meth c s₁ B hml hv
  obtain ⟨rfl, hsz, hP, hK, hD0⟩ := hv
  have hx := B.exec
  have hb := B.bytes
  have hr := B.returns
  have hts := atoms_spec (ws := wsX0_computeWithImmediate) B.pre
  have hown : s.vm.findClass RX0 = some m.cls := findClass_of_methodNamed B.named
  have hlocks := B.notSynchronized
  subst hsz
  have hD := hD0.self (sz := s.heap.size)
  generalize hAe : va_A [(x0, .inr (0, [.ref xw, .ref xr, .ref xg, .int pcv, .int trv, .int vav, .int dnv])), (xw, .inl (c1, 4096, .inl wd)), (xr, .inl (c2, 4, .inl rg)), (xg, .inl (c3, 32, .inl rs))] s.heap.size = A at hD ⊢
  have hA : ∀ q : Nat, s.heap.size ≤ q → A q := fun q h => by rw [← hAe]; exact Or.inr h
  have hS : va_S A s.heap s.heap [] := va_S.rf
  have hP : va_P (dC, dI) vwCl [(x0, .inr (0, [.ref xw, .ref xr, .ref xg, .int pcv, .int trv, .int vav, .int dnv])), (xw, .inl (c1, 4096, .inl wd)), (xr, .inl (c2, 4, .inl rg)), (xg, .inl (c3, 32, .inl rs))] s.heap := hP
  have hl := lv_entry ([.ref x0, .int a1]) (n := 4) (Nat.le_of_ble_eq_true rfl)
  rw [lg_entry_eq]
  generalize (lg_sl ([.ref x0, .int a1]) ++ List.replicate (4 - (lg_sl ([.ref x0, .int a1])).length) Slot.unset).toArray = ls at hl ⊢
  have hl : lv_has ls 4 [(0, .ref x0), (1, .int a1)] := hl
  refine lv_iload_n hx hb dX0_computeWithImmediate_0 rfl (lv_at hl 1 rfl) ?_
  refine vp_callSi (W.runS (As := [.int a1]) (rest := []) ⟨hx, hb, hml, hown, hts⟩ (c_partF l a1) (cwS 1 hts (gS mL_X0_114 mS_X0_partF mN_X0 mC_X0_partF) rfl rfl rfl (by decide +kernel) ⟨Nat.le_of_ble_eq_true rfl, Nat.le_of_ble_eq_true rfl⟩) preEq rfl rfl hl.1 rfl (lv_room (Nat.le_of_ble_eq_true rfl)) dX0_computeWithImmediate_1 ⟨Nat.zero_le _, Nat.zero_le _⟩) (fun r_1 hw => ?_)
  subst hw
  refine lv_istore_n (lv' := [(2, .int (F_partF a1)), (0, .ref x0), (1, .int a1)]) hx hb dX0_computeWithImmediate_4 rfl hl (by decide) rfl (fun ls hl => ?_)
  refine lv_iload_n hx hb dX0_computeWithImmediate_5 rfl (lv_at hl 2 rfl) ?_
  refine vp_callSi (W.runS (As := [.int a1]) (rest := []) ⟨hx, hb, hml, hown, hts⟩ (c_partG l a1) (cwS 1 hts (gS mL_X0_140 mS_X0_partG mN_X0 mC_X0_partG) rfl rfl rfl (by decide +kernel) ⟨Nat.le_of_ble_eq_true rfl, Nat.le_of_ble_eq_true rfl⟩) preEq rfl rfl hl.1 rfl (lv_room (Nat.le_of_ble_eq_true rfl)) dX0_computeWithImmediate_6 ⟨Nat.zero_le _, Nat.zero_le _⟩) (fun r_2 hw => ?_)
  subst hw
  refine lv_istore_n (lv' := [(3, .int (F_partG a1)), (2, .int (F_partF a1)), (0, .ref x0), (1, .int a1)]) hx hb dX0_computeWithImmediate_9 rfl hl (by decide) rfl (fun ls hl => ?_)
  refine lv_iload_n hx hb dX0_computeWithImmediate_10 rfl (lv_at hl 1 rfl) ?_
  refine lv_iconst (v := 5) hx hb dX0_computeWithImmediate_11 (by decide) ?_
  refine lv_icmp_ne (tgt := 37) hx hb dX0_computeWithImmediate_12 (by decide) (fun c_3 => ?_) (fun c_3 => ?_)
  · refine lv_iload_n hx hb dX0_computeWithImmediate_37 rfl (lv_at hl 1 rfl) ?_
    refine lv_iconst (v := 1) hx hb dX0_computeWithImmediate_38 (by decide) ?_
    refine lv_icmp_eq (tgt := 47) hx hb dX0_computeWithImmediate_39 (by decide) (fun c_4 => ?_) (fun c_4 => ?_)
    · refine lv_iload_n hx hb dX0_computeWithImmediate_47 rfl (lv_at hl 0 rfl) ?_
      refine lv_if_eq (tgt := 57) hx hb dX0_computeWithImmediate_48 (by decide) (fun c_5 => ?_) (fun c_5 => ?_)
      · refine lv_aload_n hx hb dX0_computeWithImmediate_57 rfl (lv_at hl 2 rfl) ?_
        refine lv_iload_n hx hb dX0_computeWithImmediate_58 rfl (lv_at hl 3 rfl) ?_
        refine lv_iload_n hx hb dX0_computeWithImmediate_59 rfl (lv_at hl 1 rfl) ?_
        refine lv_aload_n hx hb dX0_computeWithImmediate_60 rfl (lv_at hl 2 rfl) ?_
        refine lv_iload_n hx hb dX0_computeWithImmediate_61 rfl (lv_at hl 3 rfl) ?_
        refine vp_callSi (W.runV (As := [.int a1]) (rest := [.int (F_partF a1), .int a1, .ref x0]) ⟨hx, hb, hml, hown, hts⟩ (c_registerA l dC dI x0 xw xr xg c1 c2 c3 wd rg rs pcv trv vav dnv a1) (cwV 1 hts (gV mL_X0_117 mI_X0_registerA mE_X0_registerA mN_X0 mC_X0_registerA) rfl rfl rfl (by decide +kernel) ⟨Nat.le_of_ble_eq_true rfl, Nat.le_of_ble_eq_true rfl⟩) ⟨fun a U g mk q => by obtain ⟨q0, qP, qK⟩ := q; exact ⟨q0, qP, va_K.moved (u := U) (U := U.calling g mk a) (Vm.Alike.refl U.vm) qK⟩, va_recv hK hP (ci := 0) (q0 := 0) rfl rfl, fun U hU hW => ⟨rfl, by rw [hU]; exact hP, va_K.moved hW.alike hK⟩⟩ rfl rfl hl.1 rfl (lv_room (Nat.le_of_ble_eq_true rfl)) dX0_computeWithImmediate_62 ⟨Nat.zero_le _, Nat.zero_le _⟩) (fun r_6 hw => ?_)
        subst hw
        refine lv_iload_n hx hb dX0_computeWithImmediate_65 rfl (lv_at hl 3 rfl) ?_
        refine vp_callSi (W.runS (As := [.int a1]) (rest := [.int (F_registerA rs a1), .int (F_partF a1), .int a1, .ref x0]) ⟨hx, hb, hml, hown, hts⟩ (c_lowImmediate l a1) (cwS 1 hts (gS mL_X0_120 mS_X0_lowImmediate mN_X0 mC_X0_lowImmediate) rfl rfl rfl (by decide +kernel) ⟨Nat.le_of_ble_eq_true rfl, Nat.le_of_ble_eq_true rfl⟩) preEq rfl rfl hl.1 rfl (lv_room (Nat.le_of_ble_eq_true rfl)) dX0_computeWithImmediate_66 ⟨Nat.zero_le _, Nat.zero_le _⟩) (fun r_7 hw => ?_)
        subst hw
        refine vp_callSi (W.runS (As := [.int (F_partF a1), .int (F_registerA rs a1), .int (F_lowImmediate a1)]) (rest := [.int a1, .ref x0]) ⟨hx, hb, hml, hown, hts⟩ (c_compute l (F_partF a1) (F_registerA rs a1) (F_lowImmediate a1)) (cwS 3 hts (gS mL_X0_146 mS_X0_compute mN_X0 mC_X0_compute) rfl rfl rfl (by decide +kernel) ⟨Nat.le_of_ble_eq_true rfl, Nat.le_of_ble_eq_true rfl⟩) preEq rfl rfl hl.1 rfl (lv_room (Nat.le_of_ble_eq_true rfl)) dX0_computeWithImmediate_69 ⟨Nat.zero_le _, Nat.zero_le _⟩) (fun r_8 hw => ?_)
        subst hw
        have hFc := va_free (wc := [(x0, .inr (0, [.ref xw, .ref xr, .ref xg, .int pcv, .int trv, .int vav, .int dnv])), (xw, .inl (c1, 4096, .inl wd)), (xr, .inl (c2, 4, .inl rg)), (xg, .inl (c3, 32, .inl rs))]) hD hS hA [0, 1, 2, 3] rfl
        refine va_calli (va_runV (As := [.int a1, .int (F_compute (F_partF a1) (F_registerA rs a1) (F_lowImmediate a1))]) (rest := []) ⟨hx, hb, hml, hown, hts⟩ (c_finish l dC dI x0 xw xr xg c1 c2 c3 s.heap.size wd rg rs pcv trv vav dnv a1 (F_compute (F_partF a1) (F_registerA rs a1) (F_lowImmediate a1))) (cwV 2 hts (gV mL_X0_78 mI_X0_finish mE_X0_finish mN_X0 mC_X0_finish) rfl rfl rfl (by decide +kernel) ⟨Nat.le_of_ble_eq_true rfl, Nat.le_of_ble_eq_true rfl⟩) ⟨fun a U g mk q => by obtain ⟨q0, q1, qP, qK, qD⟩ := q; exact ⟨q0, q1, qP, va_K.moved (u := U) (U := U.calling g mk a) (Vm.Alike.refl U.vm) qK, qD⟩, va_recv hK hP (ci := 0) (q0 := 0) rfl rfl, fun U hU hW => ⟨rfl, by rw [hU], by rw [hU]; exact hP, va_K.moved hW.alike hK, hD.weaken (fun _ _ _ _ => trivial)⟩⟩ rfl rfl hl.1 rfl (lv_room (Nat.le_of_ble_eq_true rfl)) dX0_computeWithImmediate_72 ⟨Nat.zero_le _, Nat.zero_le _⟩) hS (fun q _ h => hFc q h) hFc (fun r_9 u t H1 locs ht hvm hw hB hz1 hk1 hS => ?_)
        obtain ⟨b_10, hw⟩ := hw
        obtain ⟨wd_11, rs_12, pcv_13, trv_14, vav_15⟩ := u
        obtain ⟨hP1, hK1, hD1⟩ := hB
        rw [ht] at hP1
        obtain ⟨hP, hD⟩ := va_join (wr := []) (w1 := [(x0, .inr (0, [.ref xw, .ref xr, .ref xg, .int pcv_13, .int trv_14, .int vav_15, .int dnv])), (xw, .inl (c1, 4096, .inl wd_11)), (xr, .inl (c2, 4, .inl rg)), (xg, .inl (c3, 32, .inl rs_12))]) hP hD [0, 1, 2, 3] [] rfl rfl (by decide) (by decide) hk1 hFc hP1 hD1
        generalize H1 = H at hP hS ⊢
        have hP : va_P (dC, dI) vwCl [(x0, .inr (0, [.ref xw, .ref xr, .ref xg, .int pcv_13, .int trv_14, .int vav_15, .int dnv])), (xw, .inl (c1, 4096, .inl wd_11)), (xr, .inl (c2, 4, .inl rg)), (xg, .inl (c3, 32, .inl rs_12))] H := hP
        have hD : va_D A [(x0, .inr (0, [.ref xw, .ref xr, .ref xg, .int pcv_13, .int trv_14, .int vav_15, .int dnv])), (xw, .inl (c1, 4096, .inl wd_11)), (xr, .inl (c2, 4, .inl rg)), (xg, .inl (c3, 32, .inl rs_12))] := hD
        exact W.zret (v := r_9) (ty := .boolean) hx hb hr b_10 (fun t ht hW => ⟨⟨_, (wd_11, rs_12, pcv_13, trv_14, vav_15), rfl, ⟨b_10, (by unfold F_computeWithImmediate; rw [if_neg c_3, if_pos c_4, if_pos c_5]; exact hw)⟩, by rw [ht]; exact hP, va_K.moved hW.alike hK, hD⟩, hS.F ht⟩) hS.2.2 dX0_computeWithImmediate_75
      · refine lv_aload_n hx hb dX0_computeWithImmediate_51 rfl (lv_at hl 2 rfl) ?_
        refine lv_iload_n hx hb dX0_computeWithImmediate_52 rfl (lv_at hl 3 rfl) ?_
        have hFc := va_free (wc := [(x0, .inr (0, [.ref xw, .ref xr, .ref xg, .int pcv, .int trv, .int vav, .int dnv])), (xw, .inl (c1, 4096, .inl wd)), (xr, .inl (c2, 4, .inl rg)), (xg, .inl (c3, 32, .inl rs))]) hD hS hA [0, 1, 2, 3] rfl
        refine va_calli (va_runV (As := [.int a1]) (rest := []) ⟨hx, hb, hml, hown, hts⟩ (c_refuse l dC dI x0 xw xr xg c1 c2 c3 s.heap.size wd rg rs pcv trv vav dnv a1) (cwV 1 hts (gV mL_X0_111 mI_X0_refuse mE_X0_refuse mN_X0 mC_X0_refuse) rfl rfl rfl (by decide +kernel) ⟨Nat.le_of_ble_eq_true rfl, Nat.le_of_ble_eq_true rfl⟩) ⟨fun a U g mk q => by obtain ⟨q0, q1, qP, qK, qD⟩ := q; exact ⟨q0, q1, qP, va_K.moved (u := U) (U := U.calling g mk a) (Vm.Alike.refl U.vm) qK, qD⟩, va_recv hK hP (ci := 0) (q0 := 0) rfl rfl, fun U hU hW => ⟨rfl, by rw [hU], by rw [hU]; exact hP, va_K.moved hW.alike hK, hD.weaken (fun _ _ _ _ => trivial)⟩⟩ rfl rfl hl.1 rfl (lv_room (Nat.le_of_ble_eq_true rfl)) dX0_computeWithImmediate_53 ⟨Nat.zero_le _, Nat.zero_le _⟩) hS (fun q _ h => hFc q h) hFc (fun r_16 u t H1 locs ht hvm hw hB hz1 hk1 hS => ?_)
        obtain ⟨b_17, hw⟩ := hw
        obtain ⟨wd_18, rs_19, pcv_20, trv_21, vav_22⟩ := u
        obtain ⟨hP1, hK1, hD1⟩ := hB
        rw [ht] at hP1
        obtain ⟨hP, hD⟩ := va_join (wr := []) (w1 := [(x0, .inr (0, [.ref xw, .ref xr, .ref xg, .int pcv_20, .int trv_21, .int vav_22, .int dnv])), (xw, .inl (c1, 4096, .inl wd_18)), (xr, .inl (c2, 4, .inl rg)), (xg, .inl (c3, 32, .inl rs_19))]) hP hD [0, 1, 2, 3] [] rfl rfl (by decide) (by decide) hk1 hFc hP1 hD1
        generalize H1 = H at hP hS ⊢
        have hP : va_P (dC, dI) vwCl [(x0, .inr (0, [.ref xw, .ref xr, .ref xg, .int pcv_20, .int trv_21, .int vav_22, .int dnv])), (xw, .inl (c1, 4096, .inl wd_18)), (xr, .inl (c2, 4, .inl rg)), (xg, .inl (c3, 32, .inl rs_19))] H := hP
        have hD : va_D A [(x0, .inr (0, [.ref xw, .ref xr, .ref xg, .int pcv_20, .int trv_21, .int vav_22, .int dnv])), (xw, .inl (c1, 4096, .inl wd_18)), (xr, .inl (c2, 4, .inl rg)), (xg, .inl (c3, 32, .inl rs_19))] := hD
        exact W.zret (v := r_16) (ty := .boolean) hx hb hr b_17 (fun t ht hW => ⟨⟨_, (wd_18, rs_19, pcv_20, trv_21, vav_22), rfl, ⟨b_17, (by unfold F_computeWithImmediate; rw [if_neg c_3, if_pos c_4, if_neg c_5]; exact hw)⟩, by rw [ht]; exact hP, va_K.moved hW.alike hK, hD⟩, hS.F ht⟩) hS.2.2 dX0_computeWithImmediate_56
    · refine lv_iload_n hx hb dX0_computeWithImmediate_42 rfl (lv_at hl 1 rfl) ?_
      refine lv_iconst (v := 5) hx hb dX0_computeWithImmediate_43 (by decide) ?_
      refine lv_icmp_ne (tgt := 57) hx hb dX0_computeWithImmediate_44 (by decide) (fun c_23 => ?_) (fun c_23 => ?_)
      · refine lv_aload_n hx hb dX0_computeWithImmediate_57 rfl (lv_at hl 2 rfl) ?_
        refine lv_iload_n hx hb dX0_computeWithImmediate_58 rfl (lv_at hl 3 rfl) ?_
        refine lv_iload_n hx hb dX0_computeWithImmediate_59 rfl (lv_at hl 1 rfl) ?_
        refine lv_aload_n hx hb dX0_computeWithImmediate_60 rfl (lv_at hl 2 rfl) ?_
        refine lv_iload_n hx hb dX0_computeWithImmediate_61 rfl (lv_at hl 3 rfl) ?_
        refine vp_callSi (W.runV (As := [.int a1]) (rest := [.int (F_partF a1), .int a1, .ref x0]) ⟨hx, hb, hml, hown, hts⟩ (c_registerA l dC dI x0 xw xr xg c1 c2 c3 wd rg rs pcv trv vav dnv a1) (cwV 1 hts (gV mL_X0_117 mI_X0_registerA mE_X0_registerA mN_X0 mC_X0_registerA) rfl rfl rfl (by decide +kernel) ⟨Nat.le_of_ble_eq_true rfl, Nat.le_of_ble_eq_true rfl⟩) ⟨fun a U g mk q => by obtain ⟨q0, qP, qK⟩ := q; exact ⟨q0, qP, va_K.moved (u := U) (U := U.calling g mk a) (Vm.Alike.refl U.vm) qK⟩, va_recv hK hP (ci := 0) (q0 := 0) rfl rfl, fun U hU hW => ⟨rfl, by rw [hU]; exact hP, va_K.moved hW.alike hK⟩⟩ rfl rfl hl.1 rfl (lv_room (Nat.le_of_ble_eq_true rfl)) dX0_computeWithImmediate_62 ⟨Nat.zero_le _, Nat.zero_le _⟩) (fun r_24 hw => ?_)
        subst hw
        refine lv_iload_n hx hb dX0_computeWithImmediate_65 rfl (lv_at hl 3 rfl) ?_
        refine vp_callSi (W.runS (As := [.int a1]) (rest := [.int (F_registerA rs a1), .int (F_partF a1), .int a1, .ref x0]) ⟨hx, hb, hml, hown, hts⟩ (c_lowImmediate l a1) (cwS 1 hts (gS mL_X0_120 mS_X0_lowImmediate mN_X0 mC_X0_lowImmediate) rfl rfl rfl (by decide +kernel) ⟨Nat.le_of_ble_eq_true rfl, Nat.le_of_ble_eq_true rfl⟩) preEq rfl rfl hl.1 rfl (lv_room (Nat.le_of_ble_eq_true rfl)) dX0_computeWithImmediate_66 ⟨Nat.zero_le _, Nat.zero_le _⟩) (fun r_25 hw => ?_)
        subst hw
        refine vp_callSi (W.runS (As := [.int (F_partF a1), .int (F_registerA rs a1), .int (F_lowImmediate a1)]) (rest := [.int a1, .ref x0]) ⟨hx, hb, hml, hown, hts⟩ (c_compute l (F_partF a1) (F_registerA rs a1) (F_lowImmediate a1)) (cwS 3 hts (gS mL_X0_146 mS_X0_compute mN_X0 mC_X0_compute) rfl rfl rfl (by decide +kernel) ⟨Nat.le_of_ble_eq_true rfl, Nat.le_of_ble_eq_true rfl⟩) preEq rfl rfl hl.1 rfl (lv_room (Nat.le_of_ble_eq_true rfl)) dX0_computeWithImmediate_69 ⟨Nat.zero_le _, Nat.zero_le _⟩) (fun r_26 hw => ?_)
        subst hw
        have hFc := va_free (wc := [(x0, .inr (0, [.ref xw, .ref xr, .ref xg, .int pcv, .int trv, .int vav, .int dnv])), (xw, .inl (c1, 4096, .inl wd)), (xr, .inl (c2, 4, .inl rg)), (xg, .inl (c3, 32, .inl rs))]) hD hS hA [0, 1, 2, 3] rfl
        refine va_calli (va_runV (As := [.int a1, .int (F_compute (F_partF a1) (F_registerA rs a1) (F_lowImmediate a1))]) (rest := []) ⟨hx, hb, hml, hown, hts⟩ (c_finish l dC dI x0 xw xr xg c1 c2 c3 s.heap.size wd rg rs pcv trv vav dnv a1 (F_compute (F_partF a1) (F_registerA rs a1) (F_lowImmediate a1))) (cwV 2 hts (gV mL_X0_78 mI_X0_finish mE_X0_finish mN_X0 mC_X0_finish) rfl rfl rfl (by decide +kernel) ⟨Nat.le_of_ble_eq_true rfl, Nat.le_of_ble_eq_true rfl⟩) ⟨fun a U g mk q => by obtain ⟨q0, q1, qP, qK, qD⟩ := q; exact ⟨q0, q1, qP, va_K.moved (u := U) (U := U.calling g mk a) (Vm.Alike.refl U.vm) qK, qD⟩, va_recv hK hP (ci := 0) (q0 := 0) rfl rfl, fun U hU hW => ⟨rfl, by rw [hU], by rw [hU]; exact hP, va_K.moved hW.alike hK, hD.weaken (fun _ _ _ _ => trivial)⟩⟩ rfl rfl hl.1 rfl (lv_room (Nat.le_of_ble_eq_true rfl)) dX0_computeWithImmediate_72 ⟨Nat.zero_le _, Nat.zero_le _⟩) hS (fun q _ h => hFc q h) hFc (fun r_27 u t H1 locs ht hvm hw hB hz1 hk1 hS => ?_)
        obtain ⟨b_28, hw⟩ := hw
        obtain ⟨wd_29, rs_30, pcv_31, trv_32, vav_33⟩ := u
        obtain ⟨hP1, hK1, hD1⟩ := hB
        rw [ht] at hP1
        obtain ⟨hP, hD⟩ := va_join (wr := []) (w1 := [(x0, .inr (0, [.ref xw, .ref xr, .ref xg, .int pcv_31, .int trv_32, .int vav_33, .int dnv])), (xw, .inl (c1, 4096, .inl wd_29)), (xr, .inl (c2, 4, .inl rg)), (xg, .inl (c3, 32, .inl rs_30))]) hP hD [0, 1, 2, 3] [] rfl rfl (by decide) (by decide) hk1 hFc hP1 hD1
        generalize H1 = H at hP hS ⊢
        have hP : va_P (dC, dI) vwCl [(x0, .inr (0, [.ref xw, .ref xr, .ref xg, .int pcv_31, .int trv_32, .int vav_33, .int dnv])), (xw, .inl (c1, 4096, .inl wd_29)), (xr, .inl (c2, 4, .inl rg)), (xg, .inl (c3, 32, .inl rs_30))] H := hP
        have hD : va_D A [(x0, .inr (0, [.ref xw, .ref xr, .ref xg, .int pcv_31, .int trv_32, .int vav_33, .int dnv])), (xw, .inl (c1, 4096, .inl wd_29)), (xr, .inl (c2, 4, .inl rg)), (xg, .inl (c3, 32, .inl rs_30))] := hD
        exact W.zret (v := r_27) (ty := .boolean) hx hb hr b_28 (fun t ht hW => ⟨⟨_, (wd_29, rs_30, pcv_31, trv_32, vav_33), rfl, ⟨b_28, (by unfold F_computeWithImmediate; rw [if_neg c_3, if_neg c_4]; exact hw)⟩, by rw [ht]; exact hP, va_K.moved hW.alike hK, hD⟩, hS.F ht⟩) hS.2.2 dX0_computeWithImmediate_75
      · exact absurd c_23 c_3
  · refine lv_iload_n hx hb dX0_computeWithImmediate_15 rfl (lv_at hl 0 rfl) ?_
    refine lv_bipush (v := 32) hx hb dX0_computeWithImmediate_16 (by decide) ?_
    refine lv_icmp_ne (tgt := 37) hx hb dX0_computeWithImmediate_18 (by decide) (fun c_34 => ?_) (fun c_34 => ?_)
    · refine lv_iload_n hx hb dX0_computeWithImmediate_37 rfl (lv_at hl 1 rfl) ?_
      refine lv_iconst (v := 1) hx hb dX0_computeWithImmediate_38 (by decide) ?_
      refine lv_icmp_eq (tgt := 47) hx hb dX0_computeWithImmediate_39 (by decide) (fun c_35 => ?_) (fun c_35 => ?_)
      · refine lv_iload_n hx hb dX0_computeWithImmediate_47 rfl (lv_at hl 0 rfl) ?_
        refine lv_if_eq (tgt := 57) hx hb dX0_computeWithImmediate_48 (by decide) (fun c_36 => ?_) (fun c_36 => ?_)
        · refine lv_aload_n hx hb dX0_computeWithImmediate_57 rfl (lv_at hl 2 rfl) ?_
          refine lv_iload_n hx hb dX0_computeWithImmediate_58 rfl (lv_at hl 3 rfl) ?_
          refine lv_iload_n hx hb dX0_computeWithImmediate_59 rfl (lv_at hl 1 rfl) ?_
          refine lv_aload_n hx hb dX0_computeWithImmediate_60 rfl (lv_at hl 2 rfl) ?_
          refine lv_iload_n hx hb dX0_computeWithImmediate_61 rfl (lv_at hl 3 rfl) ?_
          refine vp_callSi (W.runV (As := [.int a1]) (rest := [.int (F_partF a1), .int a1, .ref x0]) ⟨hx, hb, hml, hown, hts⟩ (c_registerA l dC dI x0 xw xr xg c1 c2 c3 wd rg rs pcv trv vav dnv a1) (cwV 1 hts (gV mL_X0_117 mI_X0_registerA mE_X0_registerA mN_X0 mC_X0_registerA) rfl rfl rfl (by decide +kernel) ⟨Nat.le_of_ble_eq_true rfl, Nat.le_of_ble_eq_true rfl⟩) ⟨fun a U g mk q => by obtain ⟨q0, qP, qK⟩ := q; exact ⟨q0, qP, va_K.moved (u := U) (U := U.calling g mk a) (Vm.Alike.refl U.vm) qK⟩, va_recv hK hP (ci := 0) (q0 := 0) rfl rfl, fun U hU hW => ⟨rfl, by rw [hU]; exact hP, va_K.moved hW.alike hK⟩⟩ rfl rfl hl.1 rfl (lv_room (Nat.le_of_ble_eq_true rfl)) dX0_computeWithImmediate_62 ⟨Nat.zero_le _, Nat.zero_le _⟩) (fun r_37 hw => ?_)
          subst hw
          refine lv_iload_n hx hb dX0_computeWithImmediate_65 rfl (lv_at hl 3 rfl) ?_
          refine vp_callSi (W.runS (As := [.int a1]) (rest := [.int (F_registerA rs a1), .int (F_partF a1), .int a1, .ref x0]) ⟨hx, hb, hml, hown, hts⟩ (c_lowImmediate l a1) (cwS 1 hts (gS mL_X0_120 mS_X0_lowImmediate mN_X0 mC_X0_lowImmediate) rfl rfl rfl (by decide +kernel) ⟨Nat.le_of_ble_eq_true rfl, Nat.le_of_ble_eq_true rfl⟩) preEq rfl rfl hl.1 rfl (lv_room (Nat.le_of_ble_eq_true rfl)) dX0_computeWithImmediate_66 ⟨Nat.zero_le _, Nat.zero_le _⟩) (fun r_38 hw => ?_)
          subst hw
          refine vp_callSi (W.runS (As := [.int (F_partF a1), .int (F_registerA rs a1), .int (F_lowImmediate a1)]) (rest := [.int a1, .ref x0]) ⟨hx, hb, hml, hown, hts⟩ (c_compute l (F_partF a1) (F_registerA rs a1) (F_lowImmediate a1)) (cwS 3 hts (gS mL_X0_146 mS_X0_compute mN_X0 mC_X0_compute) rfl rfl rfl (by decide +kernel) ⟨Nat.le_of_ble_eq_true rfl, Nat.le_of_ble_eq_true rfl⟩) preEq rfl rfl hl.1 rfl (lv_room (Nat.le_of_ble_eq_true rfl)) dX0_computeWithImmediate_69 ⟨Nat.zero_le _, Nat.zero_le _⟩) (fun r_39 hw => ?_)
          subst hw
          have hFc := va_free (wc := [(x0, .inr (0, [.ref xw, .ref xr, .ref xg, .int pcv, .int trv, .int vav, .int dnv])), (xw, .inl (c1, 4096, .inl wd)), (xr, .inl (c2, 4, .inl rg)), (xg, .inl (c3, 32, .inl rs))]) hD hS hA [0, 1, 2, 3] rfl
          refine va_calli (va_runV (As := [.int a1, .int (F_compute (F_partF a1) (F_registerA rs a1) (F_lowImmediate a1))]) (rest := []) ⟨hx, hb, hml, hown, hts⟩ (c_finish l dC dI x0 xw xr xg c1 c2 c3 s.heap.size wd rg rs pcv trv vav dnv a1 (F_compute (F_partF a1) (F_registerA rs a1) (F_lowImmediate a1))) (cwV 2 hts (gV mL_X0_78 mI_X0_finish mE_X0_finish mN_X0 mC_X0_finish) rfl rfl rfl (by decide +kernel) ⟨Nat.le_of_ble_eq_true rfl, Nat.le_of_ble_eq_true rfl⟩) ⟨fun a U g mk q => by obtain ⟨q0, q1, qP, qK, qD⟩ := q; exact ⟨q0, q1, qP, va_K.moved (u := U) (U := U.calling g mk a) (Vm.Alike.refl U.vm) qK, qD⟩, va_recv hK hP (ci := 0) (q0 := 0) rfl rfl, fun U hU hW => ⟨rfl, by rw [hU], by rw [hU]; exact hP, va_K.moved hW.alike hK, hD.weaken (fun _ _ _ _ => trivial)⟩⟩ rfl rfl hl.1 rfl (lv_room (Nat.le_of_ble_eq_true rfl)) dX0_computeWithImmediate_72 ⟨Nat.zero_le _, Nat.zero_le _⟩) hS (fun q _ h => hFc q h) hFc (fun r_40 u t H1 locs ht hvm hw hB hz1 hk1 hS => ?_)
          obtain ⟨b_41, hw⟩ := hw
          obtain ⟨wd_42, rs_43, pcv_44, trv_45, vav_46⟩ := u
          obtain ⟨hP1, hK1, hD1⟩ := hB
          rw [ht] at hP1
          obtain ⟨hP, hD⟩ := va_join (wr := []) (w1 := [(x0, .inr (0, [.ref xw, .ref xr, .ref xg, .int pcv_44, .int trv_45, .int vav_46, .int dnv])), (xw, .inl (c1, 4096, .inl wd_42)), (xr, .inl (c2, 4, .inl rg)), (xg, .inl (c3, 32, .inl rs_43))]) hP hD [0, 1, 2, 3] [] rfl rfl (by decide) (by decide) hk1 hFc hP1 hD1
          generalize H1 = H at hP hS ⊢
          have hP : va_P (dC, dI) vwCl [(x0, .inr (0, [.ref xw, .ref xr, .ref xg, .int pcv_44, .int trv_45, .int vav_46, .int dnv])), (xw, .inl (c1, 4096, .inl wd_42)), (xr, .inl (c2, 4, .inl rg)), (xg, .inl (c3, 32, .inl rs_43))] H := hP
          have hD : va_D A [(x0, .inr (0, [.ref xw, .ref xr, .ref xg, .int pcv_44, .int trv_45, .int vav_46, .int dnv])), (xw, .inl (c1, 4096, .inl wd_42)), (xr, .inl (c2, 4, .inl rg)), (xg, .inl (c3, 32, .inl rs_43))] := hD
          exact W.zret (v := r_40) (ty := .boolean) hx hb hr b_41 (fun t ht hW => ⟨⟨_, (wd_42, rs_43, pcv_44, trv_45, vav_46), rfl, ⟨b_41, (by unfold F_computeWithImmediate; rw [if_pos c_3, if_neg c_34, if_pos c_35, if_pos c_36]; exact hw)⟩, by rw [ht]; exact hP, va_K.moved hW.alike hK, hD⟩, hS.F ht⟩) hS.2.2 dX0_computeWithImmediate_75
        · refine lv_aload_n hx hb dX0_computeWithImmediate_51 rfl (lv_at hl 2 rfl) ?_
          refine lv_iload_n hx hb dX0_computeWithImmediate_52 rfl (lv_at hl 3 rfl) ?_
          have hFc := va_free (wc := [(x0, .inr (0, [.ref xw, .ref xr, .ref xg, .int pcv, .int trv, .int vav, .int dnv])), (xw, .inl (c1, 4096, .inl wd)), (xr, .inl (c2, 4, .inl rg)), (xg, .inl (c3, 32, .inl rs))]) hD hS hA [0, 1, 2, 3] rfl
          refine va_calli (va_runV (As := [.int a1]) (rest := []) ⟨hx, hb, hml, hown, hts⟩ (c_refuse l dC dI x0 xw xr xg c1 c2 c3 s.heap.size wd rg rs pcv trv vav dnv a1) (cwV 1 hts (gV mL_X0_111 mI_X0_refuse mE_X0_refuse mN_X0 mC_X0_refuse) rfl rfl rfl (by decide +kernel) ⟨Nat.le_of_ble_eq_true rfl, Nat.le_of_ble_eq_true rfl⟩) ⟨fun a U g mk q => by obtain ⟨q0, q1, qP, qK, qD⟩ := q; exact ⟨q0, q1, qP, va_K.moved (u := U) (U := U.calling g mk a) (Vm.Alike.refl U.vm) qK, qD⟩, va_recv hK hP (ci := 0) (q0 := 0) rfl rfl, fun U hU hW => ⟨rfl, by rw [hU], by rw [hU]; exact hP, va_K.moved hW.alike hK, hD.weaken (fun _ _ _ _ => trivial)⟩⟩ rfl rfl hl.1 rfl (lv_room (Nat.le_of_ble_eq_true rfl)) dX0_computeWithImmediate_53 ⟨Nat.zero_le _, Nat.zero_le _⟩) hS (fun q _ h => hFc q h) hFc (fun r_47 u t H1 locs ht hvm hw hB hz1 hk1 hS => ?_)
          obtain ⟨b_48, hw⟩ := hw
          obtain ⟨wd_49, rs_50, pcv_51, trv_52, vav_53⟩ := u
          obtain ⟨hP1, hK1, hD1⟩ := hB
          rw [ht] at hP1
          obtain ⟨hP, hD⟩ := va_join (wr := []) (w1 := [(x0, .inr (0, [.ref xw, .ref xr, .ref xg, .int pcv_51, .int trv_52, .int vav_53, .int dnv])), (xw, .inl (c1, 4096, .inl wd_49)), (xr, .inl (c2, 4, .inl rg)), (xg, .inl (c3, 32, .inl rs_50))]) hP hD [0, 1, 2, 3] [] rfl rfl (by decide) (by decide) hk1 hFc hP1 hD1
          generalize H1 = H at hP hS ⊢
          have hP : va_P (dC, dI) vwCl [(x0, .inr (0, [.ref xw, .ref xr, .ref xg, .int pcv_51, .int trv_52, .int vav_53, .int dnv])), (xw, .inl (c1, 4096, .inl wd_49)), (xr, .inl (c2, 4, .inl rg)), (xg, .inl (c3, 32, .inl rs_50))] H := hP
          have hD : va_D A [(x0, .inr (0, [.ref xw, .ref xr, .ref xg, .int pcv_51, .int trv_52, .int vav_53, .int dnv])), (xw, .inl (c1, 4096, .inl wd_49)), (xr, .inl (c2, 4, .inl rg)), (xg, .inl (c3, 32, .inl rs_50))] := hD
          exact W.zret (v := r_47) (ty := .boolean) hx hb hr b_48 (fun t ht hW => ⟨⟨_, (wd_49, rs_50, pcv_51, trv_52, vav_53), rfl, ⟨b_48, (by unfold F_computeWithImmediate; rw [if_pos c_3, if_neg c_34, if_pos c_35, if_neg c_36]; exact hw)⟩, by rw [ht]; exact hP, va_K.moved hW.alike hK, hD⟩, hS.F ht⟩) hS.2.2 dX0_computeWithImmediate_56
      · refine lv_iload_n hx hb dX0_computeWithImmediate_42 rfl (lv_at hl 1 rfl) ?_
        refine lv_iconst (v := 5) hx hb dX0_computeWithImmediate_43 (by decide) ?_
        refine lv_icmp_ne (tgt := 57) hx hb dX0_computeWithImmediate_44 (by decide) (fun c_54 => ?_) (fun c_54 => ?_)
        · exact absurd c_3 c_54
        · refine lv_iload_n hx hb dX0_computeWithImmediate_47 rfl (lv_at hl 0 rfl) ?_
          refine lv_if_eq (tgt := 57) hx hb dX0_computeWithImmediate_48 (by decide) (fun c_55 => ?_) (fun c_55 => ?_)
          · refine lv_aload_n hx hb dX0_computeWithImmediate_57 rfl (lv_at hl 2 rfl) ?_
            refine lv_iload_n hx hb dX0_computeWithImmediate_58 rfl (lv_at hl 3 rfl) ?_
            refine lv_iload_n hx hb dX0_computeWithImmediate_59 rfl (lv_at hl 1 rfl) ?_
            refine lv_aload_n hx hb dX0_computeWithImmediate_60 rfl (lv_at hl 2 rfl) ?_
            refine lv_iload_n hx hb dX0_computeWithImmediate_61 rfl (lv_at hl 3 rfl) ?_
            refine vp_callSi (W.runV (As := [.int a1]) (rest := [.int (F_partF a1), .int a1, .ref x0]) ⟨hx, hb, hml, hown, hts⟩ (c_registerA l dC dI x0 xw xr xg c1 c2 c3 wd rg rs pcv trv vav dnv a1) (cwV 1 hts (gV mL_X0_117 mI_X0_registerA mE_X0_registerA mN_X0 mC_X0_registerA) rfl rfl rfl (by decide +kernel) ⟨Nat.le_of_ble_eq_true rfl, Nat.le_of_ble_eq_true rfl⟩) ⟨fun a U g mk q => by obtain ⟨q0, qP, qK⟩ := q; exact ⟨q0, qP, va_K.moved (u := U) (U := U.calling g mk a) (Vm.Alike.refl U.vm) qK⟩, va_recv hK hP (ci := 0) (q0 := 0) rfl rfl, fun U hU hW => ⟨rfl, by rw [hU]; exact hP, va_K.moved hW.alike hK⟩⟩ rfl rfl hl.1 rfl (lv_room (Nat.le_of_ble_eq_true rfl)) dX0_computeWithImmediate_62 ⟨Nat.zero_le _, Nat.zero_le _⟩) (fun r_56 hw => ?_)
            subst hw
            refine lv_iload_n hx hb dX0_computeWithImmediate_65 rfl (lv_at hl 3 rfl) ?_
            refine vp_callSi (W.runS (As := [.int a1]) (rest := [.int (F_registerA rs a1), .int (F_partF a1), .int a1, .ref x0]) ⟨hx, hb, hml, hown, hts⟩ (c_lowImmediate l a1) (cwS 1 hts (gS mL_X0_120 mS_X0_lowImmediate mN_X0 mC_X0_lowImmediate) rfl rfl rfl (by decide +kernel) ⟨Nat.le_of_ble_eq_true rfl, Nat.le_of_ble_eq_true rfl⟩) preEq rfl rfl hl.1 rfl (lv_room (Nat.le_of_ble_eq_true rfl)) dX0_computeWithImmediate_66 ⟨Nat.zero_le _, Nat.zero_le _⟩) (fun r_57 hw => ?_)
            subst hw
            refine vp_callSi (W.runS (As := [.int (F_partF a1), .int (F_registerA rs a1), .int (F_lowImmediate a1)]) (rest := [.int a1, .ref x0]) ⟨hx, hb, hml, hown, hts⟩ (c_compute l (F_partF a1) (F_registerA rs a1) (F_lowImmediate a1)) (cwS 3 hts (gS mL_X0_146 mS_X0_compute mN_X0 mC_X0_compute) rfl rfl rfl (by decide +kernel) ⟨Nat.le_of_ble_eq_true rfl, Nat.le_of_ble_eq_true rfl⟩) preEq rfl rfl hl.1 rfl (lv_room (Nat.le_of_ble_eq_true rfl)) dX0_computeWithImmediate_69 ⟨Nat.zero_le _, Nat.zero_le _⟩) (fun r_58 hw => ?_)
            subst hw
            have hFc := va_free (wc := [(x0, .inr (0, [.ref xw, .ref xr, .ref xg, .int pcv, .int trv, .int vav, .int dnv])), (xw, .inl (c1, 4096, .inl wd)), (xr, .inl (c2, 4, .inl rg)), (xg, .inl (c3, 32, .inl rs))]) hD hS hA [0, 1, 2, 3] rfl
            refine va_calli (va_runV (As := [.int a1, .int (F_compute (F_partF a1) (F_registerA rs a1) (F_lowImmediate a1))]) (rest := []) ⟨hx, hb, hml, hown, hts⟩ (c_finish l dC dI x0 xw xr xg c1 c2 c3 s.heap.size wd rg rs pcv trv vav dnv a1 (F_compute (F_partF a1) (F_registerA rs a1) (F_lowImmediate a1))) (cwV 2 hts (gV mL_X0_78 mI_X0_finish mE_X0_finish mN_X0 mC_X0_finish) rfl rfl rfl (by decide +kernel) ⟨Nat.le_of_ble_eq_true rfl, Nat.le_of_ble_eq_true rfl⟩) ⟨fun a U g mk q => by obtain ⟨q0, q1, qP, qK, qD⟩ := q; exact ⟨q0, q1, qP, va_K.moved (u := U) (U := U.calling g mk a) (Vm.Alike.refl U.vm) qK, qD⟩, va_recv hK hP (ci := 0) (q0 := 0) rfl rfl, fun U hU hW => ⟨rfl, by rw [hU], by rw [hU]; exact hP, va_K.moved hW.alike hK, hD.weaken (fun _ _ _ _ => trivial)⟩⟩ rfl rfl hl.1 rfl (lv_room (Nat.le_of_ble_eq_true rfl)) dX0_computeWithImmediate_72 ⟨Nat.zero_le _, Nat.zero_le _⟩) hS (fun q _ h => hFc q h) hFc (fun r_59 u t H1 locs ht hvm hw hB hz1 hk1 hS => ?_)
            obtain ⟨b_60, hw⟩ := hw
            obtain ⟨wd_61, rs_62, pcv_63, trv_64, vav_65⟩ := u
            obtain ⟨hP1, hK1, hD1⟩ := hB
            rw [ht] at hP1
            obtain ⟨hP, hD⟩ := va_join (wr := []) (w1 := [(x0, .inr (0, [.ref xw, .ref xr, .ref xg, .int pcv_63, .int trv_64, .int vav_65, .int dnv])), (xw, .inl (c1, 4096, .inl wd_61)), (xr, .inl (c2, 4, .inl rg)), (xg, .inl (c3, 32, .inl rs_62))]) hP hD [0, 1, 2, 3] [] rfl rfl (by decide) (by decide) hk1 hFc hP1 hD1
            generalize H1 = H at hP hS ⊢
            have hP : va_P (dC, dI) vwCl [(x0, .inr (0, [.ref xw, .ref xr, .ref xg, .int pcv_63, .int trv_64, .int vav_65, .int dnv])), (xw, .inl (c1, 4096, .inl wd_61)), (xr, .inl (c2, 4, .inl rg)), (xg, .inl (c3, 32, .inl rs_62))] H := hP
            have hD : va_D A [(x0, .inr (0, [.ref xw, .ref xr, .ref xg, .int pcv_63, .int trv_64, .int vav_65, .int dnv])), (xw, .inl (c1, 4096, .inl wd_61)), (xr, .inl (c2, 4, .inl rg)), (xg, .inl (c3, 32, .inl rs_62))] := hD
            exact W.zret (v := r_59) (ty := .boolean) hx hb hr b_60 (fun t ht hW => ⟨⟨_, (wd_61, rs_62, pcv_63, trv_64, vav_65), rfl, ⟨b_60, (by unfold F_computeWithImmediate; rw [if_pos c_3, if_neg c_34, if_neg c_35, if_pos c_55]; exact hw)⟩, by rw [ht]; exact hP, va_K.moved hW.alike hK, hD⟩, hS.F ht⟩) hS.2.2 dX0_computeWithImmediate_75
          · refine lv_aload_n hx hb dX0_computeWithImmediate_51 rfl (lv_at hl 2 rfl) ?_
            refine lv_iload_n hx hb dX0_computeWithImmediate_52 rfl (lv_at hl 3 rfl) ?_
            have hFc := va_free (wc := [(x0, .inr (0, [.ref xw, .ref xr, .ref xg, .int pcv, .int trv, .int vav, .int dnv])), (xw, .inl (c1, 4096, .inl wd)), (xr, .inl (c2, 4, .inl rg)), (xg, .inl (c3, 32, .inl rs))]) hD hS hA [0, 1, 2, 3] rfl
            refine va_calli (va_runV (As := [.int a1]) (rest := []) ⟨hx, hb, hml, hown, hts⟩ (c_refuse l dC dI x0 xw xr xg c1 c2 c3 s.heap.size wd rg rs pcv trv vav dnv a1) (cwV 1 hts (gV mL_X0_111 mI_X0_refuse mE_X0_refuse mN_X0 mC_X0_refuse) rfl rfl rfl (by decide +kernel) ⟨Nat.le_of_ble_eq_true rfl, Nat.le_of_ble_eq_true rfl⟩) ⟨fun a U g mk q => by obtain ⟨q0, q1, qP, qK, qD⟩ := q; exact ⟨q0, q1, qP, va_K.moved (u := U) (U := U.calling g mk a) (Vm.Alike.refl U.vm) qK, qD⟩, va_recv hK hP (ci := 0) (q0 := 0) rfl rfl, fun U hU hW => ⟨rfl, by rw [hU], by rw [hU]; exact hP, va_K.moved hW.alike hK, hD.weaken (fun _ _ _ _ => trivial)⟩⟩ rfl rfl hl.1 rfl (lv_room (Nat.le_of_ble_eq_true rfl)) dX0_computeWithImmediate_53 ⟨Nat.zero_le _, Nat.zero_le _⟩) hS (fun q _ h => hFc q h) hFc (fun r_66 u t H1 locs ht hvm hw hB hz1 hk1 hS => ?_)
            obtain ⟨b_67, hw⟩ := hw
            obtain ⟨wd_68, rs_69, pcv_70, trv_71, vav_72⟩ := u
            obtain ⟨hP1, hK1, hD1⟩ := hB
            rw [ht] at hP1
            obtain ⟨hP, hD⟩ := va_join (wr := []) (w1 := [(x0, .inr (0, [.ref xw, .ref xr, .ref xg, .int pcv_70, .int trv_71, .int vav_72, .int dnv])), (xw, .inl (c1, 4096, .inl wd_68)), (xr, .inl (c2, 4, .inl rg)), (xg, .inl (c3, 32, .inl rs_69))]) hP hD [0, 1, 2, 3] [] rfl rfl (by decide) (by decide) hk1 hFc hP1 hD1
            generalize H1 = H at hP hS ⊢
            have hP : va_P (dC, dI) vwCl [(x0, .inr (0, [.ref xw, .ref xr, .ref xg, .int pcv_70, .int trv_71, .int vav_72, .int dnv])), (xw, .inl (c1, 4096, .inl wd_68)), (xr, .inl (c2, 4, .inl rg)), (xg, .inl (c3, 32, .inl rs_69))] H := hP
            have hD : va_D A [(x0, .inr (0, [.ref xw, .ref xr, .ref xg, .int pcv_70, .int trv_71, .int vav_72, .int dnv])), (xw, .inl (c1, 4096, .inl wd_68)), (xr, .inl (c2, 4, .inl rg)), (xg, .inl (c3, 32, .inl rs_69))] := hD
            exact W.zret (v := r_66) (ty := .boolean) hx hb hr b_67 (fun t ht hW => ⟨⟨_, (wd_68, rs_69, pcv_70, trv_71, vav_72), rfl, ⟨b_67, (by unfold F_computeWithImmediate; rw [if_pos c_3, if_neg c_34, if_neg c_35, if_neg c_55]; exact hw)⟩, by rw [ht]; exact hP, va_K.moved hW.alike hK, hD⟩, hS.F ht⟩) hS.2.2 dX0_computeWithImmediate_56
    · refine lv_aload_n hx hb dX0_computeWithImmediate_21 rfl (lv_at hl 2 rfl) ?_
      refine lv_iload_n hx hb dX0_computeWithImmediate_22 rfl (lv_at hl 3 rfl) ?_
      refine lv_aload_n hx hb dX0_computeWithImmediate_23 rfl (lv_at hl 2 rfl) ?_
      refine lv_iload_n hx hb dX0_computeWithImmediate_24 rfl (lv_at hl 3 rfl) ?_
      refine vp_callSi (W.runV (As := [.int a1]) (rest := [.int a1, .ref x0]) ⟨hx, hb, hml, hown, hts⟩ (c_registerA l dC dI x0 xw xr xg c1 c2 c3 wd rg rs pcv trv vav dnv a1) (cwV 1 hts (gV mL_X0_117 mI_X0_registerA mE_X0_registerA mN_X0 mC_X0_registerA) rfl rfl rfl (by decide +kernel) ⟨Nat.le_of_ble_eq_true rfl, Nat.le_of_ble_eq_true rfl⟩) ⟨fun a U g mk q => by obtain ⟨q0, qP, qK⟩ := q; exact ⟨q0, qP, va_K.moved (u := U) (U := U.calling g mk a) (Vm.Alike.refl U.vm) qK⟩, va_recv hK hP (ci := 0) (q0 := 0) rfl rfl, fun U hU hW => ⟨rfl, by rw [hU]; exact hP, va_K.moved hW.alike hK⟩⟩ rfl rfl hl.1 rfl (lv_room (Nat.le_of_ble_eq_true rfl)) dX0_computeWithImmediate_25 ⟨Nat.zero_le _, Nat.zero_le _⟩) (fun r_73 hw => ?_)
      subst hw
      refine lv_iload_n hx hb dX0_computeWithImmediate_28 rfl (lv_at hl 3 rfl) ?_
      refine vp_callSi (W.runS (As := [.int a1]) (rest := [.int (F_registerA rs a1), .int a1, .ref x0]) ⟨hx, hb, hml, hown, hts⟩ (c_partB l a1) (cwS 1 hts (gS mL_X0_143 mS_X0_partB mN_X0 mC_X0_partB) rfl rfl rfl (by decide +kernel) ⟨Nat.le_of_ble_eq_true rfl, Nat.le_of_ble_eq_true rfl⟩) preEq rfl rfl hl.1 rfl (lv_room (Nat.le_of_ble_eq_true rfl)) dX0_computeWithImmediate_29 ⟨Nat.zero_le _, Nat.zero_le _⟩) (fun r_74 hw => ?_)
      subst hw
      refine lv_ishr hx hb dX0_computeWithImmediate_32 ?_
      have hFc := va_free (wc := [(x0, .inr (0, [.ref xw, .ref xr, .ref xg, .int pcv, .int trv, .int vav, .int dnv])), (xw, .inl (c1, 4096, .inl wd)), (xr, .inl (c2, 4, .inl rg)), (xg, .inl (c3, 32, .inl rs))]) hD hS hA [0, 1, 2, 3] rfl
      refine va_calli (va_runV (As := [.int a1, .int ((F_registerA rs a1) >>> ((F_partB a1) &&& 31))]) (rest := []) ⟨hx, hb, hml, hown, hts⟩ (c_finish l dC dI x0 xw xr xg c1 c2 c3 s.heap.size wd rg rs pcv trv vav dnv a1 ((F_registerA rs a1) >>> ((F_partB a1) &&& 31))) (cwV 2 hts (gV mL_X0_78 mI_X0_finish mE_X0_finish mN_X0 mC_X0_finish) rfl rfl rfl (by decide +kernel) ⟨Nat.le_of_ble_eq_true rfl, Nat.le_of_ble_eq_true rfl⟩) ⟨fun a U g mk q => by obtain ⟨q0, q1, qP, qK, qD⟩ := q; exact ⟨q0, q1, qP, va_K.moved (u := U) (U := U.calling g mk a) (Vm.Alike.refl U.vm) qK, qD⟩, va_recv hK hP (ci := 0) (q0 := 0) rfl rfl, fun U hU hW => ⟨rfl, by rw [hU], by rw [hU]; exact hP, va_K.moved hW.alike hK, hD.weaken (fun _ _ _ _ => trivial)⟩⟩ rfl rfl hl.1 rfl (lv_room (Nat.le_of_ble_eq_true rfl)) dX0_computeWithImmediate_33 ⟨Nat.zero_le _, Nat.zero_le _⟩) hS (fun q _ h => hFc q h) hFc (fun r_75 u t H1 locs ht hvm hw hB hz1 hk1 hS => ?_)
      obtain ⟨b_76, hw⟩ := hw
      obtain ⟨wd_77, rs_78, pcv_79, trv_80, vav_81⟩ := u
      obtain ⟨hP1, hK1, hD1⟩ := hB
      rw [ht] at hP1
      obtain ⟨hP, hD⟩ := va_join (wr := []) (w1 := [(x0, .inr (0, [.ref xw, .ref xr, .ref xg, .int pcv_79, .int trv_80, .int vav_81, .int dnv])), (xw, .inl (c1, 4096, .inl wd_77)), (xr, .inl (c2, 4, .inl rg)), (xg, .inl (c3, 32, .inl rs_78))]) hP hD [0, 1, 2, 3] [] rfl rfl (by decide) (by decide) hk1 hFc hP1 hD1
      generalize H1 = H at hP hS ⊢
      have hP : va_P (dC, dI) vwCl [(x0, .inr (0, [.ref xw, .ref xr, .ref xg, .int pcv_79, .int trv_80, .int vav_81, .int dnv])), (xw, .inl (c1, 4096, .inl wd_77)), (xr, .inl (c2, 4, .inl rg)), (xg, .inl (c3, 32, .inl rs_78))] H := hP
      have hD : va_D A [(x0, .inr (0, [.ref xw, .ref xr, .ref xg, .int pcv_79, .int trv_80, .int vav_81, .int dnv])), (xw, .inl (c1, 4096, .inl wd_77)), (xr, .inl (c2, 4, .inl rg)), (xg, .inl (c3, 32, .inl rs_78))] := hD
      exact W.zret (v := r_75) (ty := .boolean) hx hb hr b_76 (fun t ht hW => ⟨⟨_, (wd_77, rs_78, pcv_79, trv_80, vav_81), rfl, ⟨b_76, (by unfold F_computeWithImmediate; rw [if_pos c_3, if_pos c_34]; exact hw)⟩, by rw [ht]; exact hP, va_K.moved hW.alike hK, hD⟩, hS.F ht⟩) hS.2.2 dX0_computeWithImmediate_36
end
section
def F_store (wd : Nat → Int32) (rg : Nat → Int32) (rs : Nat → Int32) (pcv : Int32) (trv : Int32) (vav : Int32) (a1 : Int32) : Int32 × (Nat → Int32) × (Nat → Int32) × Int32 × Int32 × Int32 :=
  if (F_partF a1) ≤ 2 then
    if (F_isCrooked ((F_registerA rs a1) + (F_storeImmediate a1)) (1 <<< ((F_partF a1) &&& 31))) = 0 then
      if (F_hasRight rg ((F_registerA rs a1) + (F_storeImmediate a1)) 2) = 0 then
        F_trapWith wd rg rs pcv trv vav 15 ((F_registerA rs a1) + (F_storeImmediate a1))
      else
        (1, (F_putBytes wd ((F_registerA rs a1) + (F_storeImmediate a1)) (1 <<< ((F_partF a1) &&& 31)) ((F_registerB rs a1).toInt64), rs, pcv + 4, trv, vav))
    else
      F_trapWith wd rg rs pcv trv vav 6 ((F_registerA rs a1) + (F_storeImmediate a1))
  else
    F_refuse wd rg rs pcv trv vav a1
set_option maxHeartbeats 4000000 in
set_option maxRecDepth 100000 in
theorem c_store (l : Launch) (dC : Nat → ClassId) (dI : Nat → Nat → Nat) (x0 xw xr xg : Nat) (c1 c2 c3 : ClassId) (sz : Nat) (wd : Nat → Int32) (rg : Nat → Int32) (rs : Nat → Int32) (pcv : Int32) (trv : Int32) (vav : Int32) (dnv : Int32) (a1 : Int32)  : Met l yX0_store wsX0_store ({ frames := 2, cells := 0, slots := 0, locals := 43 }) (va_Pc [.ref x0, .int a1] (fun U => U.heap.size = sz ∧ va_P (dC, dI) vwCl [(x0, .inr (0, [.ref xw, .ref xr, .ref xg, .int pcv, .int trv, .int vav, .int dnv])), (xw, .inl (c1, 4096, .inl wd)), (xr, .inl (c2, 4, .inl rg)), (xg, .inl (c3, 32, .inl rs))] U.heap ∧ va_K (dC, dI) vwCl [(c1, .int), (c2, .int), (c3, .int)] U ∧ va_D (fun _ => True) [(x0, .inr (0, [.ref xw, .ref xr, .ref xg, .int pcv, .int trv, .int vav, .int dnv])), (xw, .inl (c1, 4096, .inl wd)), (xr, .inl (c2, 4, .inl rg)), (xg, .inl (c3, 32, .inl rs))])) (va_Qi (fun (r : Int32) (u : (Nat → Int32) × (Nat → Int32) × Int32 × Int32 × Int32) => narrow .boolean (.int r) = .int r ∧ (r, u) = F_store wd rg rs pcv trv vav a1) (fun (u : (Nat → Int32) × (Nat → Int32) × Int32 × Int32 × Int32) (t : State) => va_P (dC, dI) vwCl [(x0, .inr (0, [.ref xw, .ref xr, .ref xg, .int u.2.2.1, .int u.2.2.2.1, .int u.2.2.2.2, .int dnv])), (xw, .inl (c1, 4096, .inl u.1)), (xr, .inl (c2, 4, .inl rg)), (xg, .inl (c3, 32, .inl u.2.1))] t.heap ∧ va_K (dC, dI) vwCl [(c1, .int), (c2, .int), (c3, .int)] t ∧ va_D (va_A [(x0, .inr (0, [.ref xw, .ref xr, .ref xg, .int pcv, .int trv, .int vav, .int dnv])), (xw, .inl (c1, 4096, .inl wd)), (xr, .inl (c2, 4, .inl rg)), (xg, .inl (c3, 32, .inl rs))] sz) [(x0, .inr (0, [.ref xw, .ref xr, .ref xg, .int u.2.2.1, .int u.2.2.2.1, .int u.2.2.2.2, .int dnv])), (xw, .inl (c1, 4096, .inl u.1)), (xr, .inl (c2, 4, .inl rg)), (xg, .inl (c3, 32, .inl u.2.1))]) (va_A [(x0, .inr (0, [.ref xw, .ref xr, .ref xg, .int pcv, .int trv, .int vav, .int dnv])), (xw, .inl (c1, 4096, .inl wd)), (xr, .inl (c2, 4, .inl rg)), (xg, .inl (c3, 32, .inl rs))] sz)) 0 0 (va_A [(x0, .inr (0, [.ref xw, .ref xr, .ref xg, .int pcv, .int trv, .int vav, .int dnv])), (xw, .inl (c1, 4096, .inl wd)), (xr, .inl (c2, 4, .inl rg)), (xg, .inl (c3, 32, .inl rs))] sz) := by
  refine Met.ofW (cc := cX0_store) (maxL := 5) (ret := (some .boolean)) (by decide) rfl ?_
  intro p e s m args below meth c s₁ B hml hv
  obtain ⟨rfl, hsz, hP, hK, hD0⟩ := hv
  have hx := B.exec
  have hb := B.bytes
  have hr := B.returns
  have hts := atoms_spec (ws := wsX0_store) B.pre
  have hown : s.vm.findClass RX0 = some m.cls := findClass_of_methodNamed B.named
  have hlocks := B.notSynchronized
  subst hsz
  have hD := hD0.self (sz := s.heap.size)
  generalize hAe : va_A [(x0, .inr (0, [.ref xw, .ref xr, .ref xg, .int pcv, .int trv, .int vav, .int dnv])), (xw, .inl (c1, 4096, .inl wd)), (xr, .inl (c2, 4, .inl rg)), (xg, .inl (c3, 32, .inl rs))] s.heap.size = A at hD ⊢
  have hA : ∀ q : Nat, s.heap.size ≤ q → A q := fun q h => by rw [← hAe]; exact Or.inr h
  have hS : va_S A s.heap s.heap [] := va_S.rf
  have hP : va_P (dC, dI) vwCl [(x0, .inr (0, [.ref xw, .ref xr, .ref xg, .int pcv, .int trv, .int vav, .int dnv])), (xw, .inl (c1, 4096, .inl wd)), (xr, .inl (c2, 4, .inl rg)), (xg, .inl (c3, 32, .inl rs))] s.heap := hP
  have hl := lv_entry ([.ref x0, .int a1]) (n := 5) (Nat.le_of_ble_eq_true rfl)
  rw [lg_entry_eq]
  generalize (lg_sl ([.ref x0, .int a1]) ++ List.replicate (5 - (lg_sl ([.ref x0, .int a1])).length) Slot.unset).toArray = ls at hl ⊢
  have hl : lv_has ls 5 [(0, .ref x0), (1, .int a1)] := hl
  refine lv_iload_n hx hb dX0_store_0 rfl (lv_at hl 1 rfl) ?_
  refine vp_callSi (W.runS (As := [.int a1]) (rest := []) ⟨hx, hb, hml, hown, hts⟩ (c_partF l a1) (cwS 1 hts (gS mL_X0_114 mS_X0_partF mN_X0 mC_X0_partF) rfl rfl rfl (by decide +kernel) ⟨Nat.le_of_ble_eq_true rfl, Nat.le_of_ble_eq_true rfl⟩) preEq rfl rfl hl.1 rfl (lv_room (Nat.le_of_ble_eq_true rfl)) dX0_store_1 ⟨Nat.zero_le _, Nat.zero_le _⟩) (fun r_1 hw => ?_)
  subst hw
  refine lv_istore_n (lv' := [(2, .int (F_partF a1)), (0, .ref x0), (1, .int a1)]) hx hb dX0_store_4 rfl hl (by decide) rfl (fun ls hl => ?_)
  refine lv_iload_n hx hb dX0_store_5 rfl (lv_at hl 0 rfl) ?_
  refine lv_iconst (v := 2) hx hb dX0_store_6 (by decide) ?_
  refine lv_icmp_le (tgt := 16) hx hb dX0_store_7 (by decide) (fun c_2 => ?_) (fun c_2 => ?_)
  · refine lv_aload_n hx hb dX0_store_16 rfl (lv_at hl 1 rfl) ?_
    refine lv_iload_n hx hb dX0_store_17 rfl (lv_at hl 2 rfl) ?_
    refine vp_callSi (W.runV (As := [.int a1]) (rest := []) ⟨hx, hb, hml, hown, hts⟩ (c_registerA l dC dI x0 xw xr xg c1 c2 c3 wd rg rs pcv trv vav dnv a1) (cwV 1 hts (gV mL_X0_117 mI_X0_registerA mE_X0_registerA mN_X0 mC_X0_registerA) rfl rfl rfl (by decide +kernel) ⟨Nat.le_of_ble_eq_true rfl, Nat.le_of_ble_eq_true rfl⟩) ⟨fun a U g mk q => by obtain ⟨q0, qP, qK⟩ := q; exact ⟨q0, qP, va_K.moved (u := U) (U := U.calling g mk a) (Vm.Alike.refl U.vm) qK⟩, va_recv hK hP (ci := 0) (q0 := 0) rfl rfl, fun U hU hW => ⟨rfl, by rw [hU]; exact hP, va_K.moved hW.alike hK⟩⟩ rfl rfl hl.1 rfl (lv_room (Nat.le_of_ble_eq_true rfl)) dX0_store_18 ⟨Nat.zero_le _, Nat.zero_le _⟩) (fun r_3 hw => ?_)
    subst hw
    refine lv_iload_n hx hb dX0_store_21 rfl (lv_at hl 2 rfl) ?_
    refine vp_callSi (W.runS (As := [.int a1]) (rest := [.int (F_registerA rs a1)]) ⟨hx, hb, hml, hown, hts⟩ (c_storeImmediate l a1) (cwS 1 hts (gS mL_X0_137 mS_X0_storeImmediate mN_X0 mC_X0_storeImmediate) rfl rfl rfl (by decide +kernel) ⟨Nat.le_of_ble_eq_true rfl, Nat.le_of_ble_eq_true rfl⟩) preEq rfl rfl hl.1 rfl (lv_room (Nat.le_of_ble_eq_true rfl)) dX0_store_22 ⟨Nat.zero_le _, Nat.zero_le _⟩) (fun r_4 hw => ?_)
    subst hw
    refine lv_iadd hx hb dX0_store_25 ?_
    refine lv_istore_n (lv' := [(3, .int ((F_registerA rs a1) + (F_storeImmediate a1))), (2, .int (F_partF a1)), (0, .ref x0), (1, .int a1)]) hx hb dX0_store_26 rfl hl (by decide) rfl (fun ls hl => ?_)
    refine lv_iconst (v := 1) hx hb dX0_store_27 (by decide) ?_
    refine lv_iload_n hx hb dX0_store_28 rfl (lv_at hl 1 rfl) ?_
    refine lv_ishl hx hb dX0_store_29 ?_
    refine lv_istore (lv' := [(4, .int (1 <<< ((F_partF a1) &&& 31))), (3, .int ((F_registerA rs a1) + (F_storeImmediate a1))), (2, .int (F_partF a1)), (0, .ref x0), (1, .int a1)]) hx hb dX0_store_30 hl (by decide) rfl (fun ls hl => ?_)
    refine lv_iload_n hx hb dX0_store_32 rfl (lv_at hl 1 rfl) ?_
    refine lv_iload hx hb dX0_store_33 (lv_at hl 0 rfl) ?_
    refine vp_callSi (W.runS (As := [.int ((F_registerA rs a1) + (F_storeImmediate a1)), .int (1 <<< ((F_partF a1) &&& 31))]) (rest := []) ⟨hx, hb, hml, hown, hts⟩ (c_isCrooked l ((F_registerA rs a1) + (F_storeImmediate a1)) (1 <<< ((F_partF a1) &&& 31))) (cwS 2 hts (gS mL_X0_62 mS_X0_isCrooked mN_X0 mC_X0_isCrooked) rfl rfl rfl (by decide +kernel) ⟨Nat.le_of_ble_eq_true rfl, Nat.le_of_ble_eq_true rfl⟩) preEq rfl rfl hl.1 rfl (lv_room (Nat.le_of_ble_eq_true rfl)) dX0_store_35 ⟨Nat.zero_le _, Nat.zero_le _⟩) (fun r_5 hw => ?_)
    obtain ⟨b_6, hw⟩ := hw
    subst hw
    refine lv_if_eq (tgt := 49) hx hb dX0_store_38 (by decide) (fun c_7 => ?_) (fun c_7 => ?_)
    · refine lv_aload_n hx hb dX0_store_49 rfl (lv_at hl 3 rfl) ?_
      refine lv_iload_n hx hb dX0_store_50 rfl (lv_at hl 1 rfl) ?_
      refine lv_iconst (v := 2) hx hb dX0_store_51 (by decide) ?_
      refine vp_callSi (W.runV (As := [.int ((F_registerA rs a1) + (F_storeImmediate a1)), .int 2]) (rest := []) ⟨hx, hb, hml, hown, hts⟩ (c_hasRight l dC dI x0 xw xr xg c1 c2 c3 wd rg rs pcv trv vav dnv ((F_registerA rs a1) + (F_storeImmediate a1)) 2) (cwV 2 hts (gV mL_X0_69 mI_X0_hasRight mE_X0_hasRight mN_X0 mC_X0_hasRight) rfl rfl rfl (by decide +kernel) ⟨Nat.le_of_ble_eq_true rfl, Nat.le_of_ble_eq_true rfl⟩) ⟨fun a U g mk q => by obtain ⟨q0, qP, qK⟩ := q; exact ⟨q0, qP, va_K.moved (u := U) (U := U.calling g mk a) (Vm.Alike.refl U.vm) qK⟩, va_recv hK hP (ci := 0) (q0 := 0) rfl rfl, fun U hU hW => ⟨rfl, by rw [hU]; exact hP, va_K.moved hW.alike hK⟩⟩ rfl rfl hl.1 rfl (lv_room (Nat.le_of_ble_eq_true rfl)) dX0_store_52 ⟨Nat.zero_le _, Nat.zero_le _⟩) (fun r_8 hw => ?_)
      obtain ⟨b_9, hw⟩ := hw
      subst hw
      refine lv_if_ne (tgt := 66) hx hb dX0_store_55 (by decide) (fun c_10 => ?_) (fun c_10 => ?_)
      · refine lv_aload_n hx hb dX0_store_66 rfl (lv_at hl 3 rfl) ?_
        refine lv_iload_n hx hb dX0_store_67 rfl (lv_at hl 1 rfl) ?_
        refine lv_iload hx hb dX0_store_68 (lv_at hl 0 rfl) ?_
        refine lv_aload_n hx hb dX0_store_70 rfl (lv_at hl 3 rfl) ?_
        refine lv_iload_n hx hb dX0_store_71 rfl (lv_at hl 4 rfl) ?_
        refine vp_callSi (W.runV (As := [.int a1]) (rest := [.int (1 <<< ((F_partF a1) &&& 31)), .int ((F_registerA rs a1) + (F_storeImmediate a1)), .ref x0]) ⟨hx, hb, hml, hown, hts⟩ (c_registerB l dC dI x0 xw xr xg c1 c2 c3 wd rg rs pcv trv vav dnv a1) (cwV 1 hts (gV mL_X0_123 mI_X0_registerB mE_X0_registerB mN_X0 mC_X0_registerB) rfl rfl rfl (by decide +kernel) ⟨Nat.le_of_ble_eq_true rfl, Nat.le_of_ble_eq_true rfl⟩) ⟨fun a U g mk q => by obtain ⟨q0, qP, qK⟩ := q; exact ⟨q0, qP, va_K.moved (u := U) (U := U.calling g mk a) (Vm.Alike.refl U.vm) qK⟩, va_recv hK hP (ci := 0) (q0 := 0) rfl rfl, fun U hU hW => ⟨rfl, by rw [hU]; exact hP, va_K.moved hW.alike hK⟩⟩ rfl rfl hl.1 rfl (lv_room (Nat.le_of_ble_eq_true rfl)) dX0_store_72 ⟨Nat.zero_le _, Nat.zero_le _⟩) (fun r_11 hw => ?_)
        subst hw
        refine lv_i2l (v := (F_registerB rs a1).toInt64) hx hb dX0_store_75 rfl ?_
        have hFc := va_free (wc := [(x0, .inr (0, [.ref xw, .ref xr, .ref xg, .int pcv, .int trv, .int vav, .int dnv])), (xw, .inl (c1, 4096, .inl wd)), (xr, .inl (c2, 4, .inl rg)), (xg, .inl (c3, 32, .inl rs))]) hD hS hA [0, 1, 2, 3] rfl
        refine va_callv (va_runV (As := [.int ((F_registerA rs a1) + (F_storeImmediate a1)), .int (1 <<< ((F_partF a1) &&& 31)), .long ((F_registerB rs a1).toInt64)]) (rest := []) ⟨hx, hb, hml, hown, hts⟩ (c_putBytes l dC dI x0 xw xr xg c1 c2 c3 s.heap.size wd rg rs pcv trv vav dnv ((F_registerA rs a1) + (F_storeImmediate a1)) (1 <<< ((F_partF a1) &&& 31)) ((F_registerB rs a1).toInt64) ((in_put c_2 c_7 c_10))) (cwV 3 hts (gV mL_X0_32 mI_X0_putBytes mE_X0_putBytes mN_X0 mC_X0_putBytes) rfl rfl rfl (by decide +kernel) ⟨Nat.le_of_ble_eq_true rfl, Nat.le_of_ble_eq_true rfl⟩) ⟨fun a U g mk q => by obtain ⟨q0, q1, qP, qK, qD⟩ := q; exact ⟨q0, q1, qP, va_K.moved (u := U) (U := U.calling g mk a) (Vm.Alike.refl U.vm) qK, qD⟩, va_recv hK hP (ci := 0) (q0 := 0) rfl rfl, fun U hU hW => ⟨rfl, by rw [hU], by rw [hU]; exact hP, va_K.moved hW.alike hK, hD.weaken (fun _ _ _ _ => trivial)⟩⟩ rfl rfl hl.1 rfl (lv_room (Nat.le_of_ble_eq_true rfl)) dX0_store_76 ⟨Nat.zero_le _, Nat.zero_le _⟩) hS (fun q _ h => hFc q h) hFc (fun u t H1 locs ht hvm hw hB hz1 hk1 hS => ?_)
        subst hw
        obtain ⟨hP1, hK1, hD1⟩ := hB
        rw [ht] at hP1
        obtain ⟨hP, hD⟩ := va_join (wr := []) (w1 := [(x0, .inr (0, [.ref xw, .ref xr, .ref xg, .int pcv, .int trv, .int vav, .int dnv])), (xw, .inl (c1, 4096, .inl (F_putBytes wd ((F_registerA rs a1) + (F_storeImmediate a1)) (1 <<< ((F_partF a1) &&& 31)) ((F_registerB rs a1).toInt64)))), (xr, .inl (c2, 4, .inl rg)), (xg, .inl (c3, 32, .inl rs))]) hP hD [0, 1, 2, 3] [] rfl rfl (by decide) (by decide) hk1 hFc hP1 hD1
        generalize H1 = H at hP hS ⊢
        have hP : va_P (dC, dI) vwCl [(x0, .inr (0, [.ref xw, .ref xr, .ref xg, .int pcv, .int trv, .int vav, .int dnv])), (xw, .inl (c1, 4096, .inl (F_putBytes wd ((F_registerA rs a1) + (F_storeImmediate a1)) (1 <<< ((F_partF a1) &&& 31)) ((F_registerB rs a1).toInt64)))), (xr, .inl (c2, 4, .inl rg)), (xg, .inl (c3, 32, .inl rs))] H := hP
        have hD : va_D A [(x0, .inr (0, [.ref xw, .ref xr, .ref xg, .int pcv, .int trv, .int vav, .int dnv])), (xw, .inl (c1, 4096, .inl (F_putBytes wd ((F_registerA rs a1) + (F_storeImmediate a1)) (1 <<< ((F_partF a1) &&& 31)) ((F_registerB rs a1).toInt64)))), (xr, .inl (c2, 4, .inl rg)), (xg, .inl (c3, 32, .inl rs))] := hD
        refine lv_aload_n hx hb dX0_store_79 rfl (lv_at hl 3 rfl) ?_
        refine lv_dup hx hb dX0_store_80 rfl ?_
        refine va_get (D := (dC, dI)) (ci := 0) (v := .int pcv) (C := RX0) (T := TX0) (N := 7) hx hb hts (gw_lay lay_X0) hown hK hP 0 rfl rfl 3 (by decide) (hts _ (gcons mF_X0_19)) (fun _ h9 => h9) rfl dX0_store_81 ?_
        refine lv_iconst (v := 4) hx hb dX0_store_84 (by decide) ?_
        refine lv_iadd hx hb dX0_store_85 ?_
        refine va_put (D := (dC, dI)) (ci := 0) (v := .int (pcv + 4)) (ty := .int) (C := RX0) (T := TX0) (N := 7) hx hb hts (gw_lay lay_X0) tyX0 tyX0_ok nmX0 hown hK hP hD hS 0 rfl rfl 3 (by decide) (hts _ (gcons mF_X0_19)) (fun _ h9 => h9) rfl (by decide +kernel) rfl rfl (Nat.le_of_ble_eq_true rfl) dX0_store_86 (fun H locs hP hD hS => ?_)
        have hP : va_P (dC, dI) vwCl [(x0, .inr (0, [.ref xw, .ref xr, .ref xg, .int (pcv + 4), .int trv, .int vav, .int dnv])), (xw, .inl (c1, 4096, .inl (F_putBytes wd ((F_registerA rs a1) + (F_storeImmediate a1)) (1 <<< ((F_partF a1) &&& 31)) ((F_registerB rs a1).toInt64)))), (xr, .inl (c2, 4, .inl rg)), (xg, .inl (c3, 32, .inl rs))] H := hP
        have hD : va_D A [(x0, .inr (0, [.ref xw, .ref xr, .ref xg, .int (pcv + 4), .int trv, .int vav, .int dnv])), (xw, .inl (c1, 4096, .inl (F_putBytes wd ((F_registerA rs a1) + (F_storeImmediate a1)) (1 <<< ((F_partF a1) &&& 31)) ((F_registerB rs a1).toInt64)))), (xr, .inl (c2, 4, .inl rg)), (xg, .inl (c3, 32, .inl rs))] := hD
        refine lv_iconst (v := 1) hx hb dX0_store_89 (by decide) ?_
        exact W.zret (v := 1) (ty := .boolean) hx hb hr rfl (fun t ht hW => ⟨⟨_, (F_putBytes wd ((F_registerA rs a1) + (F_storeImmediate a1)) (1 <<< ((F_partF a1) &&& 31)) ((F_registerB rs a1).toInt64), rs, pcv + 4, trv, vav), rfl, ⟨rfl, (by unfold F_store; rw [if_pos c_2, if_pos c_7, if_neg c_10])⟩, by rw [ht]; exact hP, va_K.moved hW.alike hK, hD⟩, hS.F ht⟩) hS.2.2 dX0_store_90
      · refine lv_aload_n hx hb dX0_store_58 rfl (lv_at hl 3 rfl) ?_
        refine lv_bipush (v := 15) hx hb dX0_store_59 (by decide) ?_
        refine lv_iload_n hx hb dX0_store_61 rfl (lv_at hl 1 rfl) ?_
        have hFc := va_free (wc := [(x0, .inr (0, [.ref xw, .ref xr, .ref xg, .int pcv, .int trv, .int vav, .int dnv])), (xw, .inl (c1, 4096, .inl wd)), (xr, .inl (c2, 4, .inl rg)), (xg, .inl (c3, 32, .inl rs))]) hD hS hA [0, 1, 2, 3] rfl
        refine va_calli (va_runV (As := [.int 15, .int ((F_registerA rs a1) + (F_storeImmediate a1))]) (rest := []) ⟨hx, hb, hml, hown, hts⟩ (c_trapWith l dC dI x0 xw xr xg c1 c2 c3 s.heap.size wd rg rs pcv trv vav dnv 15 ((F_registerA rs a1) + (F_storeImmediate a1))) (cwV 2 hts (gV mL_X0_66 mI_X0_trapWith mE_X0_trapWith mN_X0 mC_X0_trapWith) rfl rfl rfl (by decide +kernel) ⟨Nat.le_of_ble_eq_true rfl, Nat.le_of_ble_eq_true rfl⟩) ⟨fun a U g mk q => by obtain ⟨q0, q1, qP, qK, qD⟩ := q; exact ⟨q0, q1, qP, va_K.moved (u := U) (U := U.calling g mk a) (Vm.Alike.refl U.vm) qK, qD⟩, va_recv hK hP (ci := 0) (q0 := 0) rfl rfl, fun U hU hW => ⟨rfl, by rw [hU], by rw [hU]; exact hP, va_K.moved hW.alike hK, hD.weaken (fun _ _ _ _ => trivial)⟩⟩ rfl rfl hl.1 rfl (lv_room (Nat.le_of_ble_eq_true rfl)) dX0_store_62 ⟨Nat.zero_le _, Nat.zero_le _⟩) hS (fun q _ h => hFc q h) hFc (fun r_13 u t H1 locs ht hvm hw hB hz1 hk1 hS => ?_)
        obtain ⟨b_14, hw⟩ := hw
        obtain ⟨wd_15, rs_16, pcv_17, trv_18, vav_19⟩ := u
        obtain ⟨hP1, hK1, hD1⟩ := hB
        rw [ht] at hP1
        obtain ⟨hP, hD⟩ := va_join (wr := []) (w1 := [(x0, .inr (0, [.ref xw, .ref xr, .ref xg, .int pcv_17, .int trv_18, .int vav_19, .int dnv])), (xw, .inl (c1, 4096, .inl wd_15)), (xr, .inl (c2, 4, .inl rg)), (xg, .inl (c3, 32, .inl rs_16))]) hP hD [0, 1, 2, 3] [] rfl rfl (by decide) (by decide) hk1 hFc hP1 hD1
        generalize H1 = H at hP hS ⊢
        have hP : va_P (dC, dI) vwCl [(x0, .inr (0, [.ref xw, .ref xr, .ref xg, .int pcv_17, .int trv_18, .int vav_19, .int dnv])), (xw, .inl (c1, 4096, .inl wd_15)), (xr, .inl (c2, 4, .inl rg)), (xg, .inl (c3, 32, .inl rs_16))] H := hP
        have hD : va_D A [(x0, .inr (0, [.ref xw, .ref xr, .ref xg, .int pcv_17, .int trv_18, .int vav_19, .int dnv])), (xw, .inl (c1, 4096, .inl wd_15)), (xr, .inl (c2, 4, .inl rg)), (xg, .inl (c3, 32, .inl rs_16))] := hD
        exact W.zret (v := r_13) (ty := .boolean) hx hb hr b_14 (fun t ht hW => ⟨⟨_, (wd_15, rs_16, pcv_17, trv_18, vav_19), rfl, ⟨b_14, (by unfold F_store; rw [if_pos c_2, if_pos c_7, if_pos c_10]; exact hw)⟩, by rw [ht]; exact hP, va_K.moved hW.alike hK, hD⟩, hS.F ht⟩) hS.2.2 dX0_store_65
    · refine lv_aload_n hx hb dX0_store_41 rfl (lv_at hl 3 rfl) ?_
      refine lv_bipush (v := 6) hx hb dX0_store_42 (by decide) ?_
      refine lv_iload_n hx hb dX0_store_44 rfl (lv_at hl 1 rfl) ?_
      have hFc := va_free (wc := [(x0, .inr (0, [.ref xw, .ref xr, .ref xg, .int pcv, .int trv, .int vav, .int dnv])), (xw, .inl (c1, 4096, .inl wd)), (xr, .inl (c2, 4, .inl rg)), (xg, .inl (c3, 32, .inl rs))]) hD hS hA [0, 1, 2, 3] rfl
      refine va_calli (va_runV (As := [.int 6, .int ((F_registerA rs a1) + (F_storeImmediate a1))]) (rest := []) ⟨hx, hb, hml, hown, hts⟩ (c_trapWith l dC dI x0 xw xr xg c1 c2 c3 s.heap.size wd rg rs pcv trv vav dnv 6 ((F_registerA rs a1) + (F_storeImmediate a1))) (cwV 2 hts (gV mL_X0_66 mI_X0_trapWith mE_X0_trapWith mN_X0 mC_X0_trapWith) rfl rfl rfl (by decide +kernel) ⟨Nat.le_of_ble_eq_true rfl, Nat.le_of_ble_eq_true rfl⟩) ⟨fun a U g mk q => by obtain ⟨q0, q1, qP, qK, qD⟩ := q; exact ⟨q0, q1, qP, va_K.moved (u := U) (U := U.calling g mk a) (Vm.Alike.refl U.vm) qK, qD⟩, va_recv hK hP (ci := 0) (q0 := 0) rfl rfl, fun U hU hW => ⟨rfl, by rw [hU], by rw [hU]; exact hP, va_K.moved hW.alike hK, hD.weaken (fun _ _ _ _ => trivial)⟩⟩ rfl rfl hl.1 rfl (lv_room (Nat.le_of_ble_eq_true rfl)) dX0_store_45 ⟨Nat.zero_le _, Nat.zero_le _⟩) hS (fun q _ h => hFc q h) hFc (fun r_20 u t H1 locs ht hvm hw hB hz1 hk1 hS => ?_)
      obtain ⟨b_21, hw⟩ := hw
      obtain ⟨wd_22, rs_23, pcv_24, trv_25, vav_26⟩ := u
      obtain ⟨hP1, hK1, hD1⟩ := hB
      rw [ht] at hP1
      obtain ⟨hP, hD⟩ := va_join (wr := []) (w1 := [(x0, .inr (0, [.ref xw, .ref xr, .ref xg, .int pcv_24, .int trv_25, .int vav_26, .int dnv])), (xw, .inl (c1, 4096, .inl wd_22)), (xr, .inl (c2, 4, .inl rg)), (xg, .inl (c3, 32, .inl rs_23))]) hP hD [0, 1, 2, 3] [] rfl rfl (by decide) (by decide) hk1 hFc hP1 hD1
      generalize H1 = H at hP hS ⊢
      have hP : va_P (dC, dI) vwCl [(x0, .inr (0, [.ref xw, .ref xr, .ref xg, .int pcv_24, .int trv_25, .int vav_26, .int dnv])), (xw, .inl (c1, 4096, .inl wd_22)), (xr, .inl (c2, 4, .inl rg)), (xg, .inl (c3, 32, .inl rs_23))] H := hP
      have hD : va_D A [(x0, .inr (0, [.ref xw, .ref xr, .ref xg, .int pcv_24, .int trv_25, .int vav_26, .int dnv])), (xw, .inl (c1, 4096, .inl wd_22)), (xr, .inl (c2, 4, .inl rg)), (xg, .inl (c3, 32, .inl rs_23))] := hD
      exact W.zret (v := r_20) (ty := .boolean) hx hb hr b_21 (fun t ht hW => ⟨⟨_, (wd_22, rs_23, pcv_24, trv_25, vav_26), rfl, ⟨b_21, (by unfold F_store; rw [if_pos c_2, if_neg c_7]; exact hw)⟩, by rw [ht]; exact hP, va_K.moved hW.alike hK, hD⟩, hS.F ht⟩) hS.2.2 dX0_store_48
  · refine lv_aload_n hx hb dX0_store_10 rfl (lv_at hl 1 rfl) ?_
    refine lv_iload_n hx hb dX0_store_11 rfl (lv_at hl 2 rfl) ?_
    have hFc := va_free (wc := [(x0, .inr (0, [.ref xw, .ref xr, .ref xg, .int pcv, .int trv, .int vav, .int dnv])), (xw, .inl (c1, 4096, .inl wd)), (xr, .inl (c2, 4, .inl rg)), (xg, .inl (c3, 32, .inl rs))]) hD hS hA [0, 1, 2, 3] rfl
    refine va_calli (va_runV (As := [.int a1]) (rest := []) ⟨hx, hb, hml, hown, hts⟩ (c_refuse l dC dI x0 xw xr xg c1 c2 c3 s.heap.size wd rg rs pcv trv vav dnv a1) (cwV 1 hts (gV mL_X0_111 mI_X0_refuse mE_X0_refuse mN_X0 mC_X0_refuse) rfl rfl rfl (by decide +kernel) ⟨Nat.le_of_ble_eq_true rfl, Nat.le_of_ble_eq_true rfl⟩) ⟨fun a U g mk q => by obtain ⟨q0, q1, qP, qK, qD⟩ := q; exact ⟨q0, q1, qP, va_K.moved (u := U) (U := U.calling g mk a) (Vm.Alike.refl U.vm) qK, qD⟩, va_recv hK hP (ci := 0) (q0 := 0) rfl rfl, fun U hU hW => ⟨rfl, by rw [hU], by rw [hU]; exact hP, va_K.moved hW.alike hK, hD.weaken (fun _ _ _ _ => trivial)⟩⟩ rfl rfl hl.1 rfl (lv_room (Nat.le_of_ble_eq_true rfl)) dX0_store_12 ⟨Nat.zero_le _, Nat.zero_le _⟩) hS (fun q _ h => hFc q h) hFc (fun r_27 u t H1 locs ht hvm hw hB hz1 hk1 hS => ?_)
    obtain ⟨b_28, hw⟩ := hw
    obtain ⟨wd_29, rs_30, pcv_31, trv_32, vav_33⟩ := u
    obtain ⟨hP1, hK1, hD1⟩ := hB
    rw [ht] at hP1
    obtain ⟨hP, hD⟩ := va_join (wr := []) (w1 := [(x0, .inr (0, [.ref xw, .ref xr, .ref xg, .int pcv_31, .int trv_32, .int vav_33, .int dnv])), (xw, .inl (c1, 4096, .inl wd_29)), (xr, .inl (c2, 4, .inl rg)), (xg, .inl (c3, 32, .inl rs_30))]) hP hD [0, 1, 2, 3] [] rfl rfl (by decide) (by decide) hk1 hFc hP1 hD1
    generalize H1 = H at hP hS ⊢
    have hP : va_P (dC, dI) vwCl [(x0, .inr (0, [.ref xw, .ref xr, .ref xg, .int pcv_31, .int trv_32, .int vav_33, .int dnv])), (xw, .inl (c1, 4096, .inl wd_29)), (xr, .inl (c2, 4, .inl rg)), (xg, .inl (c3, 32, .inl rs_30))] H := hP
    have hD : va_D A [(x0, .inr (0, [.ref xw, .ref xr, .ref xg, .int pcv_31, .int trv_32, .int vav_33, .int dnv])), (xw, .inl (c1, 4096, .inl wd_29)), (xr, .inl (c2, 4, .inl rg)), (xg, .inl (c3, 32, .inl rs_30))] := hD
    exact W.zret (v := r_27) (ty := .boolean) hx hb hr b_28 (fun t ht hW => ⟨⟨_, (wd_29, rs_30, pcv_31, trv_32, vav_33), rfl, ⟨b_28, (by unfold F_store; rw [if_neg c_2]; exact hw)⟩, by rw [ht]; exact hP, va_K.moved hW.alike hK, hD⟩, hS.F ht⟩) hS.2.2 dX0_store_15
def F_load (wd : Nat → Int32) (rg : Nat → Int32) (rs : Nat → Int32) (pcv : Int32) (trv : Int32) (vav : Int32) (a1 : Int32) : Int32 × (Nat → Int32) × (Nat → Int32) × Int32 × Int32 × Int32 :=
  if (F_partF a1) = 3 then
    F_refuse wd rg rs pcv trv vav a1
  else
    if (F_partF a1) ≤ 5 then
      if (F_isCrooked ((F_registerA rs a1) + (F_lowImmediate a1)) (1 <<< (((F_partF a1) &&& 3) &&& 31))) = 0 then
        if (F_hasRight rg ((F_registerA rs a1) + (F_lowImmediate a1)) 1) = 0 then
          F_trapWith wd rg rs pcv trv vav 13 ((F_registerA rs a1) + (F_lowImmediate a1))
        else
          F_finish wd rg rs pcv trv vav a1 (F_narrow (F_partF a1) (F_bytesFrom wd ((F_registerA rs a1) + (F_lowImmediate a1))))
      else
        F_trapWith wd rg rs pcv trv vav 4 ((F_registerA rs a1) + (F_lowImmediate a1))
    else
      F_refuse wd rg rs pcv trv vav a1
set_option maxHeartbeats 4000000 in
set_option maxRecDepth 100000 in
theorem c_load (l : Launch) (dC : Nat → ClassId) (dI : Nat → Nat → Nat) (x0 xw xr xg : Nat) (c1 c2 c3 : ClassId) (sz : Nat) (wd : Nat → Int32) (rg : Nat → Int32) (rs : Nat → Int32) (pcv : Int32) (trv : Int32) (vav : Int32) (dnv : Int32) (a1 : Int32)  : Met l yX0_load wsX0_load ({ frames := 2, cells := 0, slots := 0, locals := 44 }) (va_Pc [.ref x0, .int a1] (fun U => U.heap.size = sz ∧ va_P (dC, dI) vwCl [(x0, .inr (0, [.ref xw, .ref xr, .ref xg, .int pcv, .int trv, .int vav, .int dnv])), (xw, .inl (c1, 4096, .inl wd)), (xr, .inl (c2, 4, .inl rg)), (xg, .inl (c3, 32, .inl rs))] U.heap ∧ va_K (dC, dI) vwCl [(c1, .int), (c2, .int), (c3, .int)] U ∧ va_D (fun _ => True) [(x0, .inr (0, [.ref xw, .ref xr, .ref xg, .int pcv, .int trv, .int vav, .int dnv])), (xw, .inl (c1, 4096, .inl wd)), (xr, .inl (c2, 4, .inl rg)), (xg, .inl (c3, 32, .inl rs))])) (va_Qi (fun (r : Int32) (u : (Nat → Int32) × (Nat → Int32) × Int32 × Int32 × Int32) => narrow .boolean (.int r) = .int r ∧ (r, u) = F_load wd rg rs pcv trv vav a1) (fun (u : (Nat → Int32) × (Nat → Int32) × Int32 × Int32 × Int32) (t : State) => va_P (dC, dI) vwCl [(x0, .inr (0, [.ref xw, .ref xr, .ref xg, .int u.2.2.1, .int u.2.2.2.1, .int u.2.2.2.2, .int dnv])), (xw, .inl (c1, 4096, .inl u.1)), (xr, .inl (c2, 4, .inl rg)), (xg, .inl (c3, 32, .inl u.2.1))] t.heap ∧ va_K (dC, dI) vwCl [(c1, .int), (c2, .int), (c3, .int)] t ∧ va_D (va_A [(x0, .inr (0, [.ref xw, .ref xr, .ref xg, .int pcv, .int trv, .int vav, .int dnv])), (xw, .inl (c1, 4096, .inl wd)), (xr, .inl (c2, 4, .inl rg)), (xg, .inl (c3, 32, .inl rs))] sz) [(x0, .inr (0, [.ref xw, .ref xr, .ref xg, .int u.2.2.1, .int u.2.2.2.1, .int u.2.2.2.2, .int dnv])), (xw, .inl (c1, 4096, .inl u.1)), (xr, .inl (c2, 4, .inl rg)), (xg, .inl (c3, 32, .inl u.2.1))]) (va_A [(x0, .inr (0, [.ref xw, .ref xr, .ref xg, .int pcv, .int trv, .int vav, .int dnv])), (xw, .inl (c1, 4096, .inl wd)), (xr, .inl (c2, 4, .inl rg)), (xg, .inl (c3, 32, .inl rs))] sz)) 0 0 (va_A [(x0, .inr (0, [.ref xw, .ref xr, .ref xg, .int pcv, .int trv, .int vav, .int dnv])), (xw, .inl (c1, 4096, .inl wd)), (xr, .inl (c2, 4, .inl rg)), (xg, .inl (c3, 32, .inl rs))] sz) := by
  refine Met.ofW (cc := cX0_load) (maxL := 4) (ret := (some .boolean)) (by decide) rfl ?_
  intro p e s m args below meth c s₁ B hml hv
  obtain ⟨rfl, hsz, hP, hK, hD0⟩ := hv
  have hx := B.exec
  have hb := B.bytes
  have hr := B.returns
  have hts := atoms_spec (ws := wsX0_load) B.pre
  have hown : s.vm.findClass RX0 = some m.cls := findClass_of_methodNamed B.named
  have hlocks := B.notSynchronized
  subst hsz
  have hD := hD0.self (sz := s.heap.size)
  generalize hAe : va_A [(x0, .inr (0, [.ref xw, .ref xr, .ref xg, .int pcv, .int trv, .int vav, .int dnv])), (xw, .inl (c1, 4096, .inl wd)), (xr, .inl (c2, 4, .inl rg)), (xg, .inl (c3, 32, .inl rs))] s.heap.size = A at hD ⊢
  have hA : ∀ q : Nat, s.heap.size ≤ q → A q := fun q h => by rw [← hAe]; exact Or.inr h
  have hS : va_S A s.heap s.heap [] := va_S.rf
  have hP : va_P (dC, dI) vwCl [(x0, .inr (0, [.ref xw, .ref xr, .ref xg, .int pcv, .int trv, .int vav, .int dnv])), (xw, .inl (c1, 4096, .inl wd)), (xr, .inl (c2, 4, .inl rg)), (xg, .inl (c3, 32, .inl rs))] s.heap := hP
  have hl := lv_entry ([.ref x0, .int a1]) (n := 4) (Nat.le_of_ble_eq_true rfl)
  rw [lg_entry_eq]
  generalize (lg_sl ([.ref x0, .int a1]) ++ List.replicate (4 - (lg_sl ([.ref x0, .int a1])).length) Slot.unset).toArray = ls at hl ⊢
  have hl : lv_has ls 4 [(0, .ref x0), (1, .int a1)] := hl
  refine lv_iload_n hx hb dX0_load_0 rfl (lv_at hl 1 rfl) ?_
  refine vp_callSi (W.runS (As := [.int a1]) (rest := []) ⟨hx, hb, hml, hown, hts⟩ (c_partF l a1) (cwS 1 hts (gS mL_X0_114 mS_X0_partF mN_X0 mC_X0_partF) rfl rfl rfl (by decide +kernel) ⟨Nat.le_of_ble_eq_true rfl, Nat.le_of_ble_eq_true rfl⟩) preEq rfl rfl hl.1 rfl (lv_room (Nat.le_of_ble_eq_true rfl)) dX0_load_1 ⟨Nat.zero_le _, Nat.zero_le _⟩) (fun r_1 hw => ?_)
  subst hw
  refine lv_istore_n (lv' := [(2, .int (F_partF a1)), (0, .ref x0), (1, .int a1)]) hx hb dX0_load_4 rfl hl (by decide) rfl (fun ls hl => ?_)
  refine lv_iload_n hx hb dX0_load_5 rfl (lv_at hl 0 rfl) ?_
  refine lv_iconst (v := 3) hx hb dX0_load_6 (by decide) ?_
  refine lv_icmp_eq (tgt := 15) hx hb dX0_load_7 (by decide) (fun c_2 => ?_) (fun c_2 => ?_)
  · refine lv_aload_n hx hb dX0_load_15 rfl (lv_at hl 1 rfl) ?_
    refine lv_iload_n hx hb dX0_load_16 rfl (lv_at hl 2 rfl) ?_
    have hFc := va_free (wc := [(x0, .inr (0, [.ref xw, .ref xr, .ref xg, .int pcv, .int trv, .int vav, .int dnv])), (xw, .inl (c1, 4096, .inl wd)), (xr, .inl (c2, 4, .inl rg)), (xg, .inl (c3, 32, .inl rs))]) hD hS hA [0, 1, 2, 3] rfl
    refine va_calli (va_runV (As := [.int a1]) (rest := []) ⟨hx, hb, hml, hown, hts⟩ (c_refuse l dC dI x0 xw xr xg c1 c2 c3 s.heap.size wd rg rs pcv trv vav dnv a1) (cwV 1 hts (gV mL_X0_111 mI_X0_refuse mE_X0_refuse mN_X0 mC_X0_refuse) rfl rfl rfl (by decide +kernel) ⟨Nat.le_of_ble_eq_true rfl, Nat.le_of_ble_eq_true rfl⟩) ⟨fun a U g mk q => by obtain ⟨q0, q1, qP, qK, qD⟩ := q; exact ⟨q0, q1, qP, va_K.moved (u := U) (U := U.calling g mk a) (Vm.Alike.refl U.vm) qK, qD⟩, va_recv hK hP (ci := 0) (q0 := 0) rfl rfl, fun U hU hW => ⟨rfl, by rw [hU], by rw [hU]; exact hP, va_K.moved hW.alike hK, hD.weaken (fun _ _ _ _ => trivial)⟩⟩ rfl rfl hl.1 rfl (lv_room (Nat.le_of_ble_eq_true rfl)) dX0_load_17 ⟨Nat.zero_le _, Nat.zero_le _⟩) hS (fun q _ h => hFc q h) hFc (fun r_3 u t H1 locs ht hvm hw hB hz1 hk1 hS => ?_)
    obtain ⟨b_4, hw⟩ := hw
    obtain ⟨wd_5, rs_6, pcv_7, trv_8, vav_9⟩ := u
    obtain ⟨hP1, hK1, hD1⟩ := hB
    rw [ht] at hP1
    obtain ⟨hP, hD⟩ := va_join (wr := []) (w1 := [(x0, .inr (0, [.ref xw, .ref xr, .ref xg, .int pcv_7, .int trv_8, .int vav_9, .int dnv])), (xw, .inl (c1, 4096, .inl wd_5)), (xr, .inl (c2, 4, .inl rg)), (xg, .inl (c3, 32, .inl rs_6))]) hP hD [0, 1, 2, 3] [] rfl rfl (by decide) (by decide) hk1 hFc hP1 hD1
    generalize H1 = H at hP hS ⊢
    have hP : va_P (dC, dI) vwCl [(x0, .inr (0, [.ref xw, .ref xr, .ref xg, .int pcv_7, .int trv_8, .int vav_9, .int dnv])), (xw, .inl (c1, 4096, .inl wd_5)), (xr, .inl (c2, 4, .inl rg)), (xg, .inl (c3, 32, .inl rs_6))] H := hP
    have hD : va_D A [(x0, .inr (0, [.ref xw, .ref xr, .ref xg, .int pcv_7, .int trv_8, .int vav_9, .int dnv])), (xw, .inl (c1, 4096, .inl wd_5)), (xr, .inl (c2, 4, .inl rg)), (xg, .inl (c3, 32, .inl rs_6))] := hD
    exact W.zret (v := r_3) (ty := .boolean) hx hb hr b_4 (fun t ht hW => ⟨⟨_, (wd_5, rs_6, pcv_7, trv_8, vav_9), rfl, ⟨b_4, (by unfold F_load; rw [if_pos c_2]; exact hw)⟩, by rw [ht]; exact hP, va_K.moved hW.alike hK, hD⟩, hS.F ht⟩) hS.2.2 dX0_load_20
  · refine lv_iload_n hx hb dX0_load_10 rfl (lv_at hl 0 rfl) ?_
    refine lv_iconst (v := 5) hx hb dX0_load_11 (by decide) ?_
    refine lv_icmp_le (tgt := 21) hx hb dX0_load_12 (by decide) (fun c_10 => ?_) (fun c_10 => ?_)
    · refine lv_aload_n hx hb dX0_load_21 rfl (lv_at hl 1 rfl) ?_
      refine lv_iload_n hx hb dX0_load_22 rfl (lv_at hl 2 rfl) ?_
      refine vp_callSi (W.runV (As := [.int a1]) (rest := []) ⟨hx, hb, hml, hown, hts⟩ (c_registerA l dC dI x0 xw xr xg c1 c2 c3 wd rg rs pcv trv vav dnv a1) (cwV 1 hts (gV mL_X0_117 mI_X0_registerA mE_X0_registerA mN_X0 mC_X0_registerA) rfl rfl rfl (by decide +kernel) ⟨Nat.le_of_ble_eq_true rfl, Nat.le_of_ble_eq_true rfl⟩) ⟨fun a U g mk q => by obtain ⟨q0, qP, qK⟩ := q; exact ⟨q0, qP, va_K.moved (u := U) (U := U.calling g mk a) (Vm.Alike.refl U.vm) qK⟩, va_recv hK hP (ci := 0) (q0 := 0) rfl rfl, fun U hU hW => ⟨rfl, by rw [hU]; exact hP, va_K.moved hW.alike hK⟩⟩ rfl rfl hl.1 rfl (lv_room (Nat.le_of_ble_eq_true rfl)) dX0_load_23 ⟨Nat.zero_le _, Nat.zero_le _⟩) (fun r_11 hw => ?_)
      subst hw
      refine lv_iload_n hx hb dX0_load_26 rfl (lv_at hl 2 rfl) ?_
      refine vp_callSi (W.runS (As := [.int a1]) (rest := [.int (F_registerA rs a1)]) ⟨hx, hb, hml, hown, hts⟩ (c_lowImmediate l a1) (cwS 1 hts (gS mL_X0_120 mS_X0_lowImmediate mN_X0 mC_X0_lowImmediate) rfl rfl rfl (by decide +kernel) ⟨Nat.le_of_ble_eq_true rfl, Nat.le_of_ble_eq_true rfl⟩) preEq rfl rfl hl.1 rfl (lv_room (Nat.le_of_ble_eq_true rfl)) dX0_load_27 ⟨Nat.zero_le _, Nat.zero_le _⟩) (fun r_12 hw => ?_)
      subst hw
      refine lv_iadd hx hb dX0_load_30 ?_
      refine lv_istore_n (lv' := [(3, .int ((F_registerA rs a1) + (F_lowImmediate a1))), (2, .int (F_partF a1)), (0, .ref x0), (1, .int a1)]) hx hb dX0_load_31 rfl hl (by decide) rfl (fun ls hl => ?_)
      refine lv_iload_n hx hb dX0_load_32 rfl (lv_at hl 0 rfl) ?_
      refine lv_iconst (v := 1) hx hb dX0_load_33 (by decide) ?_
      refine lv_iload_n hx hb dX0_load_34 rfl (lv_at hl 1 rfl) ?_
      refine lv_iconst (v := 3) hx hb dX0_load_35 (by decide) ?_
      refine lv_iand hx hb dX0_load_36 ?_
      refine lv_ishl hx hb dX0_load_37 ?_
      refine vp_callSi (W.runS (As := [.int ((F_registerA rs a1) + (F_lowImmediate a1)), .int (1 <<< (((F_partF a1) &&& 3) &&& 31))]) (rest := []) ⟨hx, hb, hml, hown, hts⟩ (c_isCrooked l ((F_registerA rs a1) + (F_lowImmediate a1)) (1 <<< (((F_partF a1) &&& 3) &&& 31))) (cwS 2 hts (gS mL_X0_62 mS_X0_isCrooked mN_X0 mC_X0_isCrooked) rfl rfl rfl (by decide +kernel) ⟨Nat.le_of_ble_eq_true rfl, Nat.le_of_ble_eq_true rfl⟩) preEq rfl rfl hl.1 rfl (lv_room (Nat.le_of_ble_eq_true rfl)) dX0_load_38 ⟨Nat.zero_le _, Nat.zero_le _⟩) (fun r_13 hw => ?_)
      obtain ⟨b_14, hw⟩ := hw
      subst hw
      refine lv_if_eq (tgt := 51) hx hb dX0_load_41 (by decide) (fun c_15 => ?_) (fun c_15 => ?_)
      · refine lv_aload_n hx hb dX0_load_51 rfl (lv_at hl 2 rfl) ?_
        refine lv_iload_n hx hb dX0_load_52 rfl (lv_at hl 0 rfl) ?_
        refine lv_iconst (v := 1) hx hb dX0_load_53 (by decide) ?_
        refine vp_callSi (W.runV (As := [.int ((F_registerA rs a1) + (F_lowImmediate a1)), .int 1]) (rest := []) ⟨hx, hb, hml, hown, hts⟩ (c_hasRight l dC dI x0 xw xr xg c1 c2 c3 wd rg rs pcv trv vav dnv ((F_registerA rs a1) + (F_lowImmediate a1)) 1) (cwV 2 hts (gV mL_X0_69 mI_X0_hasRight mE_X0_hasRight mN_X0 mC_X0_hasRight) rfl rfl rfl (by decide +kernel) ⟨Nat.le_of_ble_eq_true rfl, Nat.le_of_ble_eq_true rfl⟩) ⟨fun a U g mk q => by obtain ⟨q0, qP, qK⟩ := q; exact ⟨q0, qP, va_K.moved (u := U) (U := U.calling g mk a) (Vm.Alike.refl U.vm) qK⟩, va_recv hK hP (ci := 0) (q0 := 0) rfl rfl, fun U hU hW => ⟨rfl, by rw [hU]; exact hP, va_K.moved hW.alike hK⟩⟩ rfl rfl hl.1 rfl (lv_room (Nat.le_of_ble_eq_true rfl)) dX0_load_54 ⟨Nat.zero_le _, Nat.zero_le _⟩) (fun r_16 hw => ?_)
        obtain ⟨b_17, hw⟩ := hw
        subst hw
        refine lv_if_ne (tgt := 68) hx hb dX0_load_57 (by decide) (fun c_18 => ?_) (fun c_18 => ?_)
        · refine lv_aload_n hx hb dX0_load_68 rfl (lv_at hl 2 rfl) ?_
          refine lv_iload_n hx hb dX0_load_69 rfl (lv_at hl 3 rfl) ?_
          refine lv_iload_n hx hb dX0_load_70 rfl (lv_at hl 1 rfl) ?_
          refine lv_aload_n hx hb dX0_load_71 rfl (lv_at hl 2 rfl) ?_
          refine lv_iload_n hx hb dX0_load_72 rfl (lv_at hl 0 rfl) ?_
          refine vp_callSi (W.runV (As := [.int ((F_registerA rs a1) + (F_lowImmediate a1))]) (rest := [.int (F_partF a1), .int a1, .ref x0]) ⟨hx, hb, hml, hown, hts⟩ (c_bytesFrom l dC dI x0 xw xr xg c1 c2 c3 wd rg rs pcv trv vav dnv ((F_registerA rs a1) + (F_lowImmediate a1)) ((in_has c_18))) (cwV 1 hts (gV mL_X0_40 mI_X0_bytesFrom mE_X0_bytesFrom mN_X0 mC_X0_bytesFrom) rfl rfl rfl (by decide +kernel) ⟨Nat.le_of_ble_eq_true rfl, Nat.le_of_ble_eq_true rfl⟩) ⟨fun a U g mk q => by obtain ⟨q0, qP, qK⟩ := q; exact ⟨q0, qP, va_K.moved (u := U) (U := U.calling g mk a) (Vm.Alike.refl U.vm) qK⟩, va_recv hK hP (ci := 0) (q0 := 0) rfl rfl, fun U hU hW => ⟨rfl, by rw [hU]; exact hP, va_K.moved hW.alike hK⟩⟩ rfl rfl hl.1 rfl (lv_room (Nat.le_of_ble_eq_true rfl)) dX0_load_73 ⟨Nat.zero_le _, Nat.zero_le _⟩) (fun r_19 hw => ?_)
          subst hw
          refine vp_callSi (W.runS (As := [.int (F_partF a1), .int (F_bytesFrom wd ((F_registerA rs a1) + (F_lowImmediate a1)))]) (rest := [.int a1, .ref x0]) ⟨hx, hb, hml, hown, hts⟩ (c_narrow l (F_partF a1) (F_bytesFrom wd ((F_registerA rs a1) + (F_lowImmediate a1)))) (cwS 2 hts (gS mL_X0_133 mS_X0_narrow mN_X0 mC_X0_narrow) rfl rfl rfl (by decide +kernel) ⟨Nat.le_of_ble_eq_true rfl, Nat.le_of_ble_eq_true rfl⟩) preEq rfl rfl hl.1 rfl (lv_room (Nat.le_of_ble_eq_true rfl)) dX0_load_76 ⟨Nat.zero_le _, Nat.zero_le _⟩) (fun r_20 hw => ?_)
          subst hw
          have hFc := va_free (wc := [(x0, .inr (0, [.ref xw, .ref xr, .ref xg, .int pcv, .int trv, .int vav, .int dnv])), (xw, .inl (c1, 4096, .inl wd)), (xr, .inl (c2, 4, .inl rg)), (xg, .inl (c3, 32, .inl rs))]) hD hS hA [0, 1, 2, 3] rfl
          refine va_calli (va_runV (As := [.int a1, .int (F_narrow (F_partF a1) (F_bytesFrom wd ((F_registerA rs a1) + (F_lowImmediate a1))))]) (rest := []) ⟨hx, hb, hml, hown, hts⟩ (c_finish l dC dI x0 xw xr xg c1 c2 c3 s.heap.size wd rg rs pcv trv vav dnv a1 (F_narrow (F_partF a1) (F_bytesFrom wd ((F_registerA rs a1) + (F_lowImmediate a1))))) (cwV 2 hts (gV mL_X0_78 mI_X0_finish mE_X0_finish mN_X0 mC_X0_finish) rfl rfl rfl (by decide +kernel) ⟨Nat.le_of_ble_eq_true rfl, Nat.le_of_ble_eq_true rfl⟩) ⟨fun a U g mk q => by obtain ⟨q0, q1, qP, qK, qD⟩ := q; exact ⟨q0, q1, qP, va_K.moved (u := U) (U := U.calling g mk a) (Vm.Alike.refl U.vm) qK, qD⟩, va_recv hK hP (ci := 0) (q0 := 0) rfl rfl, fun U hU hW => ⟨rfl, by rw [hU], by rw [hU]; exact hP, va_K.moved hW.alike hK, hD.weaken (fun _ _ _ _ => trivial)⟩⟩ rfl rfl hl.1 rfl (lv_room (Nat.le_of_ble_eq_true rfl)) dX0_load_79 ⟨Nat.zero_le _, Nat.zero_le _⟩) hS (fun q _ h => hFc q h) hFc (fun r_21 u t H1 locs ht hvm hw hB hz1 hk1 hS => ?_)
          obtain ⟨b_22, hw⟩ := hw
          obtain ⟨wd_23, rs_24, pcv_25, trv_26, vav_27⟩ := u
          obtain ⟨hP1, hK1, hD1⟩ := hB
          rw [ht] at hP1
          obtain ⟨hP, hD⟩ := va_join (wr := []) (w1 := [(x0, .inr (0, [.ref xw, .ref xr, .ref xg, .int pcv_25, .int trv_26, .int vav_27, .int dnv])), (xw, .inl (c1, 4096, .inl wd_23)), (xr, .inl (c2, 4, .inl rg)), (xg, .inl (c3, 32, .inl rs_24))]) hP hD [0, 1, 2, 3] [] rfl rfl (by decide) (by decide) hk1 hFc hP1 hD1
          generalize H1 = H at hP hS ⊢
          have hP : va_P (dC, dI) vwCl [(x0, .inr (0, [.ref xw, .ref xr, .ref xg, .int pcv_25, .int trv_26, .int vav_27, .int dnv])), (xw, .inl (c1, 4096, .inl wd_23)), (xr, .inl (c2, 4, .inl rg)), (xg, .inl (c3, 32, .inl rs_24))] H := hP
          have hD : va_D A [(x0, .inr (0, [.ref xw, .ref xr, .ref xg, .int pcv_25, .int trv_26, .int vav_27, .int dnv])), (xw, .inl (c1, 4096, .inl wd_23)), (xr, .inl (c2, 4, .inl rg)), (xg, .inl (c3, 32, .inl rs_24))] := hD
          exact W.zret (v := r_21) (ty := .boolean) hx hb hr b_22 (fun t ht hW => ⟨⟨_, (wd_23, rs_24, pcv_25, trv_26, vav_27), rfl, ⟨b_22, (by unfold F_load; rw [if_neg c_2, if_pos c_10, if_pos c_15, if_neg c_18]; exact hw)⟩, by rw [ht]; exact hP, va_K.moved hW.alike hK, hD⟩, hS.F ht⟩) hS.2.2 dX0_load_82
        · refine lv_aload_n hx hb dX0_load_60 rfl (lv_at hl 2 rfl) ?_
          refine lv_bipush (v := 13) hx hb dX0_load_61 (by decide) ?_
          refine lv_iload_n hx hb dX0_load_63 rfl (lv_at hl 0 rfl) ?_
          have hFc := va_free (wc := [(x0, .inr (0, [.ref xw, .ref xr, .ref xg, .int pcv, .int trv, .int vav, .int dnv])), (xw, .inl (c1, 4096, .inl wd)), (xr, .inl (c2, 4, .inl rg)), (xg, .inl (c3, 32, .inl rs))]) hD hS hA [0, 1, 2, 3] rfl
          refine va_calli (va_runV (As := [.int 13, .int ((F_registerA rs a1) + (F_lowImmediate a1))]) (rest := []) ⟨hx, hb, hml, hown, hts⟩ (c_trapWith l dC dI x0 xw xr xg c1 c2 c3 s.heap.size wd rg rs pcv trv vav dnv 13 ((F_registerA rs a1) + (F_lowImmediate a1))) (cwV 2 hts (gV mL_X0_66 mI_X0_trapWith mE_X0_trapWith mN_X0 mC_X0_trapWith) rfl rfl rfl (by decide +kernel) ⟨Nat.le_of_ble_eq_true rfl, Nat.le_of_ble_eq_true rfl⟩) ⟨fun a U g mk q => by obtain ⟨q0, q1, qP, qK, qD⟩ := q; exact ⟨q0, q1, qP, va_K.moved (u := U) (U := U.calling g mk a) (Vm.Alike.refl U.vm) qK, qD⟩, va_recv hK hP (ci := 0) (q0 := 0) rfl rfl, fun U hU hW => ⟨rfl, by rw [hU], by rw [hU]; exact hP, va_K.moved hW.alike hK, hD.weaken (fun _ _ _ _ => trivial)⟩⟩ rfl rfl hl.1 rfl (lv_room (Nat.le_of_ble_eq_true rfl)) dX0_load_64 ⟨Nat.zero_le _, Nat.zero_le _⟩) hS (fun q _ h => hFc q h) hFc (fun r_28 u t H1 locs ht hvm hw hB hz1 hk1 hS => ?_)
          obtain ⟨b_29, hw⟩ := hw
          obtain ⟨wd_30, rs_31, pcv_32, trv_33, vav_34⟩ := u
          obtain ⟨hP1, hK1, hD1⟩ := hB
          rw [ht] at hP1
          obtain ⟨hP, hD⟩ := va_join (wr := []) (w1 := [(x0, .inr (0, [.ref xw, .ref xr, .ref xg, .int pcv_32, .int trv_33, .int vav_34, .int dnv])), (xw, .inl (c1, 4096, .inl wd_30)), (xr, .inl (c2, 4, .inl rg)), (xg, .inl (c3, 32, .inl rs_31))]) hP hD [0, 1, 2, 3] [] rfl rfl (by decide) (by decide) hk1 hFc hP1 hD1
          generalize H1 = H at hP hS ⊢
          have hP : va_P (dC, dI) vwCl [(x0, .inr (0, [.ref xw, .ref xr, .ref xg, .int pcv_32, .int trv_33, .int vav_34, .int dnv])), (xw, .inl (c1, 4096, .inl wd_30)), (xr, .inl (c2, 4, .inl rg)), (xg, .inl (c3, 32, .inl rs_31))] H := hP
          have hD : va_D A [(x0, .inr (0, [.ref xw, .ref xr, .ref xg, .int pcv_32, .int trv_33, .int vav_34, .int dnv])), (xw, .inl (c1, 4096, .inl wd_30)), (xr, .inl (c2, 4, .inl rg)), (xg, .inl (c3, 32, .inl rs_31))] := hD
          exact W.zret (v := r_28) (ty := .boolean) hx hb hr b_29 (fun t ht hW => ⟨⟨_, (wd_30, rs_31, pcv_32, trv_33, vav_34), rfl, ⟨b_29, (by unfold F_load; rw [if_neg c_2, if_pos c_10, if_pos c_15, if_pos c_18]; exact hw)⟩, by rw [ht]; exact hP, va_K.moved hW.alike hK, hD⟩, hS.F ht⟩) hS.2.2 dX0_load_67
      · refine lv_aload_n hx hb dX0_load_44 rfl (lv_at hl 2 rfl) ?_
        refine lv_iconst (v := 4) hx hb dX0_load_45 (by decide) ?_
        refine lv_iload_n hx hb dX0_load_46 rfl (lv_at hl 0 rfl) ?_
        have hFc := va_free (wc := [(x0, .inr (0, [.ref xw, .ref xr, .ref xg, .int pcv, .int trv, .int vav, .int dnv])), (xw, .inl (c1, 4096, .inl wd)), (xr, .inl (c2, 4, .inl rg)), (xg, .inl (c3, 32, .inl rs))]) hD hS hA [0, 1, 2, 3] rfl
        refine va_calli (va_runV (As := [.int 4, .int ((F_registerA rs a1) + (F_lowImmediate a1))]) (rest := []) ⟨hx, hb, hml, hown, hts⟩ (c_trapWith l dC dI x0 xw xr xg c1 c2 c3 s.heap.size wd rg rs pcv trv vav dnv 4 ((F_registerA rs a1) + (F_lowImmediate a1))) (cwV 2 hts (gV mL_X0_66 mI_X0_trapWith mE_X0_trapWith mN_X0 mC_X0_trapWith) rfl rfl rfl (by decide +kernel) ⟨Nat.le_of_ble_eq_true rfl, Nat.le_of_ble_eq_true rfl⟩) ⟨fun a U g mk q => by obtain ⟨q0, q1, qP, qK, qD⟩ := q; exact ⟨q0, q1, qP, va_K.moved (u := U) (U := U.calling g mk a) (Vm.Alike.refl U.vm) qK, qD⟩, va_recv hK hP (ci := 0) (q0 := 0) rfl rfl, fun U hU hW => ⟨rfl, by rw [hU], by rw [hU]; exact hP, va_K.moved hW.alike hK, hD.weaken (fun _ _ _ _ => trivial)⟩⟩ rfl rfl hl.1 rfl (lv_room (Nat.le_of_ble_eq_true rfl)) dX0_load_47 ⟨Nat.zero_le _, Nat.zero_le _⟩) hS (fun q _ h => hFc q h) hFc (fun r_35 u t H1 locs ht hvm hw hB hz1 hk1 hS => ?_)
        obtain ⟨b_36, hw⟩ := hw
        obtain ⟨wd_37, rs_38, pcv_39, trv_40, vav_41⟩ := u
        obtain ⟨hP1, hK1, hD1⟩ := hB
        rw [ht] at hP1
        obtain ⟨hP, hD⟩ := va_join (wr := []) (w1 := [(x0, .inr (0, [.ref xw, .ref xr, .ref xg, .int pcv_39, .int trv_40, .int vav_41, .int dnv])), (xw, .inl (c1, 4096, .inl wd_37)), (xr, .inl (c2, 4, .inl rg)), (xg, .inl (c3, 32, .inl rs_38))]) hP hD [0, 1, 2, 3] [] rfl rfl (by decide) (by decide) hk1 hFc hP1 hD1
        generalize H1 = H at hP hS ⊢
        have hP : va_P (dC, dI) vwCl [(x0, .inr (0, [.ref xw, .ref xr, .ref xg, .int pcv_39, .int trv_40, .int vav_41, .int dnv])), (xw, .inl (c1, 4096, .inl wd_37)), (xr, .inl (c2, 4, .inl rg)), (xg, .inl (c3, 32, .inl rs_38))] H := hP
        have hD : va_D A [(x0, .inr (0, [.ref xw, .ref xr, .ref xg, .int pcv_39, .int trv_40, .int vav_41, .int dnv])), (xw, .inl (c1, 4096, .inl wd_37)), (xr, .inl (c2, 4, .inl rg)), (xg, .inl (c3, 32, .inl rs_38))] := hD
        exact W.zret (v := r_35) (ty := .boolean) hx hb hr b_36 (fun t ht hW => ⟨⟨_, (wd_37, rs_38, pcv_39, trv_40, vav_41), rfl, ⟨b_36, (by unfold F_load; rw [if_neg c_2, if_pos c_10, if_neg c_15]; exact hw)⟩, by rw [ht]; exact hP, va_K.moved hW.alike hK, hD⟩, hS.F ht⟩) hS.2.2 dX0_load_50
    · refine lv_aload_n hx hb dX0_load_15 rfl (lv_at hl 1 rfl) ?_
      refine lv_iload_n hx hb dX0_load_16 rfl (lv_at hl 2 rfl) ?_
      have hFc := va_free (wc := [(x0, .inr (0, [.ref xw, .ref xr, .ref xg, .int pcv, .int trv, .int vav, .int dnv])), (xw, .inl (c1, 4096, .inl wd)), (xr, .inl (c2, 4, .inl rg)), (xg, .inl (c3, 32, .inl rs))]) hD hS hA [0, 1, 2, 3] rfl
      refine va_calli (va_runV (As := [.int a1]) (rest := []) ⟨hx, hb, hml, hown, hts⟩ (c_refuse l dC dI x0 xw xr xg c1 c2 c3 s.heap.size wd rg rs pcv trv vav dnv a1) (cwV 1 hts (gV mL_X0_111 mI_X0_refuse mE_X0_refuse mN_X0 mC_X0_refuse) rfl rfl rfl (by decide +kernel) ⟨Nat.le_of_ble_eq_true rfl, Nat.le_of_ble_eq_true rfl⟩) ⟨fun a U g mk q => by obtain ⟨q0, q1, qP, qK, qD⟩ := q; exact ⟨q0, q1, qP, va_K.moved (u := U) (U := U.calling g mk a) (Vm.Alike.refl U.vm) qK, qD⟩, va_recv hK hP (ci := 0) (q0 := 0) rfl rfl, fun U hU hW => ⟨rfl, by rw [hU], by rw [hU]; exact hP, va_K.moved hW.alike hK, hD.weaken (fun _ _ _ _ => trivial)⟩⟩ rfl rfl hl.1 rfl (lv_room (Nat.le_of_ble_eq_true rfl)) dX0_load_17 ⟨Nat.zero_le _, Nat.zero_le _⟩) hS (fun q _ h => hFc q h) hFc (fun r_42 u t H1 locs ht hvm hw hB hz1 hk1 hS => ?_)
      obtain ⟨b_43, hw⟩ := hw
      obtain ⟨wd_44, rs_45, pcv_46, trv_47, vav_48⟩ := u
      obtain ⟨hP1, hK1, hD1⟩ := hB
      rw [ht] at hP1
      obtain ⟨hP, hD⟩ := va_join (wr := []) (w1 := [(x0, .inr (0, [.ref xw, .ref xr, .ref xg, .int pcv_46, .int trv_47, .int vav_48, .int dnv])), (xw, .inl (c1, 4096, .inl wd_44)), (xr, .inl (c2, 4, .inl rg)), (xg, .inl (c3, 32, .inl rs_45))]) hP hD [0, 1, 2, 3] [] rfl rfl (by decide) (by decide) hk1 hFc hP1 hD1
      generalize H1 = H at hP hS ⊢
      have hP : va_P (dC, dI) vwCl [(x0, .inr (0, [.ref xw, .ref xr, .ref xg, .int pcv_46, .int trv_47, .int vav_48, .int dnv])), (xw, .inl (c1, 4096, .inl wd_44)), (xr, .inl (c2, 4, .inl rg)), (xg, .inl (c3, 32, .inl rs_45))] H := hP
      have hD : va_D A [(x0, .inr (0, [.ref xw, .ref xr, .ref xg, .int pcv_46, .int trv_47, .int vav_48, .int dnv])), (xw, .inl (c1, 4096, .inl wd_44)), (xr, .inl (c2, 4, .inl rg)), (xg, .inl (c3, 32, .inl rs_45))] := hD
      exact W.zret (v := r_42) (ty := .boolean) hx hb hr b_43 (fun t ht hW => ⟨⟨_, (wd_44, rs_45, pcv_46, trv_47, vav_48), rfl, ⟨b_43, (by unfold F_load; rw [if_neg c_2, if_neg c_10]; exact hw)⟩, by rw [ht]; exact hP, va_K.moved hW.alike hK, hD⟩, hS.F ht⟩) hS.2.2 dX0_load_20
def F_branch (wd : Nat → Int32) (rg : Nat → Int32) (rs : Nat → Int32) (pcv : Int32) (trv : Int32) (vav : Int32) (a1 : Int32) : Int32 × (Nat → Int32) × (Nat → Int32) × Int32 × Int32 × Int32 :=
  if (F_partF a1) = 2 then
    F_refuse wd rg rs pcv trv vav a1
  else
    if (F_partF a1) = 3 then
      F_refuse wd rg rs pcv trv vav a1
    else
      if ((F_partF a1) &&& 1) = 1 then
        if (F_compare ((F_partF a1) &&& 6) (F_registerA rs a1) (F_registerB rs a1)) = 1 then
          if (F_isCrooked (pcv + 4) 4) = 0 then
            (1, (wd, rs, pcv + 4, trv, vav))
          else
            F_trapWith wd rg rs pcv trv vav 0 (pcv + 4)
        else
          if (F_isCrooked (pcv + (F_branchImmediate a1)) 4) = 0 then
            (1, (wd, rs, pcv + (F_branchImmediate a1), trv, vav))
          else
            F_trapWith wd rg rs pcv trv vav 0 (pcv + (F_branchImmediate a1))
      else
        if (F_compare ((F_partF a1) &&& 6) (F_registerA rs a1) (F_registerB rs a1)) = 0 then
          if (F_isCrooked (pcv + 4) 4) = 0 then
            (1, (wd, rs, pcv + 4, trv, vav))
          else
            F_trapWith wd rg rs pcv trv vav 0 (pcv + 4)
        else
          if (F_isCrooked (pcv + (F_branchImmediate a1)) 4) = 0 then
            (1, (wd, rs, pcv + (F_branchImmediate a1), trv, vav))
          else
            F_trapWith wd rg rs pcv trv vav 0 (pcv + (F_branchImmediate a1))
set_option maxHeartbeats 4000000 in
set_option maxRecDepth 100000 in
theorem c_branch (l : Launch) (dC : Nat → ClassId) (dI : Nat → Nat → Nat) (x0 xw xr xg : Nat) (c1 c2 c3 : ClassId) (sz : Nat) (wd : Nat → Int32) (rg : Nat → Int32) (rs : Nat → Int32) (pcv : Int32) (trv : Int32) (vav : Int32) (dnv : Int32) (a1 : Int32)  : Met l yX0_branch wsX0_branch ({ frames := 2, cells := 0, slots := 0, locals := 43 }) (va_Pc [.ref x0, .int a1] (fun U => U.heap.size = sz ∧ va_P (dC, dI) vwCl [(x0, .inr (0, [.ref xw, .ref xr, .ref xg, .int pcv, .int trv, .int vav, .int dnv])), (xw, .inl (c1, 4096, .inl wd)), (xr, .inl (c2, 4, .inl rg)), (xg, .inl (c3, 32, .inl rs))] U.heap ∧ va_K (dC, dI) vwCl [(c1, .int), (c2, .int), (c3, .int)] U ∧ va_D (fun _ => True) [(x0, .inr (0, [.ref xw, .ref xr, .ref xg, .int pcv, .int trv, .int vav, .int dnv])), (xw, .inl (c1, 4096, .inl wd)), (xr, .inl (c2, 4, .inl rg)), (xg, .inl (c3, 32, .inl rs))])) (va_Qi (fun (r : Int32) (u : (Nat → Int32) × (Nat → Int32) × Int32 × Int32 × Int32) => narrow .boolean (.int r) = .int r ∧ (r, u) = F_branch wd rg rs pcv trv vav a1) (fun (u : (Nat → Int32) × (Nat → Int32) × Int32 × Int32 × Int32) (t : State) => va_P (dC, dI) vwCl [(x0, .inr (0, [.ref xw, .ref xr, .ref xg, .int u.2.2.1, .int u.2.2.2.1, .int u.2.2.2.2, .int dnv])), (xw, .inl (c1, 4096, .inl u.1)), (xr, .inl (c2, 4, .inl rg)), (xg, .inl (c3, 32, .inl u.2.1))] t.heap ∧ va_K (dC, dI) vwCl [(c1, .int), (c2, .int), (c3, .int)] t ∧ va_D (va_A [(x0, .inr (0, [.ref xw, .ref xr, .ref xg, .int pcv, .int trv, .int vav, .int dnv])), (xw, .inl (c1, 4096, .inl wd)), (xr, .inl (c2, 4, .inl rg)), (xg, .inl (c3, 32, .inl rs))] sz) [(x0, .inr (0, [.ref xw, .ref xr, .ref xg, .int u.2.2.1, .int u.2.2.2.1, .int u.2.2.2.2, .int dnv])), (xw, .inl (c1, 4096, .inl u.1)), (xr, .inl (c2, 4, .inl rg)), (xg, .inl (c3, 32, .inl u.2.1))]) (va_A [(x0, .inr (0, [.ref xw, .ref xr, .ref xg, .int pcv, .int trv, .int vav, .int dnv])), (xw, .inl (c1, 4096, .inl wd)), (xr, .inl (c2, 4, .inl rg)), (xg, .inl (c3, 32, .inl rs))] sz)) 0 0 (va_A [(x0, .inr (0, [.ref xw, .ref xr, .ref xg, .int pcv, .int trv, .int vav, .int dnv])), (xw, .inl (c1, 4096, .inl wd)), (xr, .inl (c2, 4, .inl rg)), (xg, .inl (c3, 32, .inl rs))] sz) := by
  refine Met.ofW (cc := cX0_branch) (maxL := 6) (ret := (some .boolean)) (by decide) rfl ?_
  intro p e s m args below meth c s₁ B hml hv
  obtain ⟨rfl, hsz, hP, hK, hD0⟩ := hv
  have hx := B.exec
  have hb := B.bytes
  have hr := B.returns
  have hts := atoms_spec (ws := wsX0_branch) B.pre
  have hown : s.vm.findClass RX0 = some m.cls := findClass_of_methodNamed B.named
  have hlocks := B.notSynchronized
  subst hsz
  have hD := hD0.self (sz := s.heap.size)
  generalize hAe : va_A [(x0, .inr (0, [.ref xw, .ref xr, .ref xg, .int pcv, .int trv, .int vav, .int dnv])), (xw, .inl (c1, 4096, .inl wd)), (xr, .inl (c2, 4, .inl rg)), (xg, .inl (c3, 32, .inl rs))] s.heap.size = A at hD ⊢
  have hA : ∀ q : Nat, s.heap.size ≤ q → A q := fun q h => by rw [← hAe]; exact Or.inr h
  have hS : va_S A s.heap s.heap [] := va_S.rf
  have hP : va_P (dC, dI) vwCl [(x0, .inr (0, [.ref xw, .ref xr, .ref xg, .int pcv, .int trv, .int vav, .int dnv])), (xw, .inl (c1, 4096, .inl wd)), (xr, .inl (c2, 4, .inl rg)), (xg, .inl (c3, 32, .inl rs))] s.heap := hP
  have hl := lv_entry ([.ref x0, .int a1]) (n := 6) (Nat.le_of_ble_eq_true rfl)
  rw [lg_entry_eq]
  generalize (lg_sl ([.ref x0, .int a1]) ++ List.replicate (6 - (lg_sl ([.ref x0, .int a1])).length) Slot.unset).toArray = ls at hl ⊢
  have hl : lv_has ls 6 [(0, .ref x0), (1, .int a1)] := hl
  refine lv_iload_n hx hb dX0_branch_0 rfl (lv_at hl 1 rfl) ?_
  refine vp_callSi (W.runS (As := [.int a1]) (rest := []) ⟨hx, hb, hml, hown, hts⟩ (c_partF l a1) (cwS 1 hts (gS mL_X0_114 mS_X0_partF mN_X0 mC_X0_partF) rfl rfl rfl (by decide +kernel) ⟨Nat.le_of_ble_eq_true rfl, Nat.le_of_ble_eq_true rfl⟩) preEq rfl rfl hl.1 rfl (lv_room (Nat.le_of_ble_eq_true rfl)) dX0_branch_1 ⟨Nat.zero_le _, Nat.zero_le _⟩) (fun r_1 hw => ?_)
  subst hw
  refine lv_istore_n (lv' := [(2, .int (F_partF a1)), (0, .ref x0), (1, .int a1)]) hx hb dX0_branch_4 rfl hl (by decide) rfl (fun ls hl => ?_)
  refine lv_iload_n hx hb dX0_branch_5 rfl (lv_at hl 0 rfl) ?_
  refine lv_iconst (v := 2) hx hb dX0_branch_6 (by decide) ?_
  refine lv_icmp_eq (tgt := 15) hx hb dX0_branch_7 (by decide) (fun c_2 => ?_) (fun c_2 => ?_)
  · refine lv_aload_n hx hb dX0_branch_15 rfl (lv_at hl 1 rfl) ?_
    refine lv_iload_n hx hb dX0_branch_16 rfl (lv_at hl 2 rfl) ?_
    have hFc := va_free (wc := [(x0, .inr (0, [.ref xw, .ref xr, .ref xg, .int pcv, .int trv, .int vav, .int dnv])), (xw, .inl (c1, 4096, .inl wd)), (xr, .inl (c2, 4, .inl rg)), (xg, .inl (c3, 32, .inl rs))]) hD hS hA [0, 1, 2, 3] rfl
    refine va_calli (va_runV (As := [.int a1]) (rest := []) ⟨hx, hb, hml, hown, hts⟩ (c_refuse l dC dI x0 xw xr xg c1 c2 c3 s.heap.size wd rg rs pcv trv vav dnv a1) (cwV 1 hts (gV mL_X0_111 mI_X0_refuse mE_X0_refuse mN_X0 mC_X0_refuse) rfl rfl rfl (by decide +kernel) ⟨Nat.le_of_ble_eq_true rfl, Nat.le_of_ble_eq_true rfl⟩) ⟨fun a U g mk q => by obtain ⟨q0, q1, qP, qK, qD⟩ := q; exact ⟨q0, q1, qP, va_K.moved (u := U) (U := U.calling g mk a) (Vm.Alike.refl U.vm) qK, qD⟩, va_recv hK hP (ci := 0) (q0 := 0) rfl rfl, fun U hU hW => ⟨rfl, by rw [hU], by rw [hU]; exact hP, va_K.moved hW.alike hK, hD.weaken (fun _ _ _ _ => trivial)⟩⟩ rfl rfl hl.1 rfl (lv_room (Nat.le_of_ble_eq_true rfl)) dX0_branch_17 ⟨Nat.zero_le _, Nat.zero_le _⟩) hS (fun q _ h => hFc q h) hFc (fun r_3 u t H1 locs ht hvm hw hB hz1 hk1 hS => ?_)
    obtain ⟨b_4, hw⟩ := hw
    obtain ⟨wd_5, rs_6, pcv_7, trv_8, vav_9⟩ := u
    obtain ⟨hP1, hK1, hD1⟩ := hB
    rw [ht] at hP1
    obtain ⟨hP, hD⟩ := va_join (wr := []) (w1 := [(x0, .inr (0, [.ref xw, .ref xr, .ref xg, .int pcv_7, .int trv_8, .int vav_9, .int dnv])), (xw, .inl (c1, 4096, .inl wd_5)), (xr, .inl (c2, 4, .inl rg)), (xg, .inl (c3, 32, .inl rs_6))]) hP hD [0, 1, 2, 3] [] rfl rfl (by decide) (by decide) hk1 hFc hP1 hD1
    generalize H1 = H at hP hS ⊢
    have hP : va_P (dC, dI) vwCl [(x0, .inr (0, [.ref xw, .ref xr, .ref xg, .int pcv_7, .int trv_8, .int vav_9, .int dnv])), (xw, .inl (c1, 4096, .inl wd_5)), (xr, .inl (c2, 4, .inl rg)), (xg, .inl (c3, 32, .inl rs_6))] H := hP
    have hD : va_D A [(x0, .inr (0, [.ref xw, .ref xr, .ref xg, .int pcv_7, .int trv_8, .int vav_9, .int dnv])), (xw, .inl (c1, 4096, .inl wd_5)), (xr, .inl (c2, 4, .inl rg)), (xg, .inl (c3, 32, .inl rs_6))] := hD
    exact W.zret (v := r_3) (ty := .boolean) hx hb hr b_4 (fun t ht hW => ⟨⟨_, (wd_5, rs_6, pcv_7, trv_8, vav_9), rfl, ⟨b_4, (by unfold F_branch; rw [if_pos c_2]; exact hw)⟩, by rw [ht]; exact hP, va_K.moved hW.alike hK, hD⟩, hS.F ht⟩) hS.2.2 dX0_branch_20
  · refine lv_iload_n hx hb dX0_branch_10 rfl (lv_at hl 0 rfl) ?_
    refine lv_iconst (v := 3) hx hb dX0_branch_11 (by decide) ?_
    refine lv_icmp_ne (tgt := 21) hx hb dX0_branch_12 (by decide) (fun c_10 => ?_) (fun c_10 => ?_)
    · refine lv_iload_n hx hb dX0_branch_21 rfl (lv_at hl 0 rfl) ?_
      refine lv_iconst (v := 1) hx hb dX0_branch_22 (by decide) ?_
      refine lv_iand hx hb dX0_branch_23 ?_
      refine lv_iconst (v := 1) hx hb dX0_branch_24 (by decide) ?_
      refine lv_icmp_ne (tgt := 32) hx hb dX0_branch_25 (by decide) (fun c_11 => ?_) (fun c_11 => ?_)
      · refine lv_iconst (v := 0) hx hb dX0_branch_32 (by decide) ?_
        refine lv_istore_n (lv' := [(3, .int 0), (2, .int (F_partF a1)), (0, .ref x0), (1, .int a1)]) hx hb dX0_branch_33 rfl hl (by decide) rfl (fun ls hl => ?_)
        refine lv_iload_n hx hb dX0_branch_34 rfl (lv_at hl 1 rfl) ?_
        refine lv_bipush (v := 6) hx hb dX0_branch_35 (by decide) ?_
        refine lv_iand hx hb dX0_branch_37 ?_
        refine lv_aload_n hx hb dX0_branch_38 rfl (lv_at hl 2 rfl) ?_
        refine lv_iload_n hx hb dX0_branch_39 rfl (lv_at hl 3 rfl) ?_
        refine vp_callSi (W.runV (As := [.int a1]) (rest := [.int ((F_partF a1) &&& 6)]) ⟨hx, hb, hml, hown, hts⟩ (c_registerA l dC dI x0 xw xr xg c1 c2 c3 wd rg rs pcv trv vav dnv a1) (cwV 1 hts (gV mL_X0_117 mI_X0_registerA mE_X0_registerA mN_X0 mC_X0_registerA) rfl rfl rfl (by decide +kernel) ⟨Nat.le_of_ble_eq_true rfl, Nat.le_of_ble_eq_true rfl⟩) ⟨fun a U g mk q => by obtain ⟨q0, qP, qK⟩ := q; exact ⟨q0, qP, va_K.moved (u := U) (U := U.calling g mk a) (Vm.Alike.refl U.vm) qK⟩, va_recv hK hP (ci := 0) (q0 := 0) rfl rfl, fun U hU hW => ⟨rfl, by rw [hU]; exact hP, va_K.moved hW.alike hK⟩⟩ rfl rfl hl.1 rfl (lv_room (Nat.le_of_ble_eq_true rfl)) dX0_branch_40 ⟨Nat.zero_le _, Nat.zero_le _⟩) (fun r_12 hw => ?_)
        subst hw
        refine lv_aload_n hx hb dX0_branch_43 rfl (lv_at hl 2 rfl) ?_
        refine lv_iload_n hx hb dX0_branch_44 rfl (lv_at hl 3 rfl) ?_
        refine vp_callSi (W.runV (As := [.int a1]) (rest := [.int (F_registerA rs a1), .int ((F_partF a1) &&& 6)]) ⟨hx, hb, hml, hown, hts⟩ (c_registerB l dC dI x0 xw xr xg c1 c2 c3 wd rg rs pcv trv vav dnv a1) (cwV 1 hts (gV mL_X0_123 mI_X0_registerB mE_X0_registerB mN_X0 mC_X0_registerB) rfl rfl rfl (by decide +kernel) ⟨Nat.le_of_ble_eq_true rfl, Nat.le_of_ble_eq_true rfl⟩) ⟨fun a U g mk q => by obtain ⟨q0, qP, qK⟩ := q; exact ⟨q0, qP, va_K.moved (u := U) (U := U.calling g mk a) (Vm.Alike.refl U.vm) qK⟩, va_recv hK hP (ci := 0) (q0 := 0) rfl rfl, fun U hU hW => ⟨rfl, by rw [hU]; exact hP, va_K.moved hW.alike hK⟩⟩ rfl rfl hl.1 rfl (lv_room (Nat.le_of_ble_eq_true rfl)) dX0_branch_45 ⟨Nat.zero_le _, Nat.zero_le _⟩) (fun r_13 hw => ?_)
        subst hw
        refine vp_callSi (W.runS (As := [.int ((F_partF a1) &&& 6), .int (F_registerA rs a1), .int (F_registerB rs a1)]) (rest := []) ⟨hx, hb, hml, hown, hts⟩ (c_compare l ((F_partF a1) &&& 6) (F_registerA rs a1) (F_registerB rs a1)) (cwS 3 hts (gS mL_X0_126 mS_X0_compare mN_X0 mC_X0_compare) rfl rfl rfl (by decide +kernel) ⟨Nat.le_of_ble_eq_true rfl, Nat.le_of_ble_eq_true rfl⟩) preEq rfl rfl hl.1 rfl (lv_room (Nat.le_of_ble_eq_true rfl)) dX0_branch_48 ⟨Nat.zero_le _, Nat.zero_le _⟩) (fun r_14 hw => ?_)
        obtain ⟨b_15, hw⟩ := hw
        subst hw
        refine lv_iload_n hx hb dX0_branch_51 rfl (lv_at hl 0 rfl) ?_
        refine lv_icmp_eq (tgt := 59) hx hb dX0_branch_52 (by decide) (fun c_16 => ?_) (fun c_16 => ?_)
        · refine lv_iconst (v := 0) hx hb dX0_branch_59 (by decide) ?_
          refine lv_istore (lv' := [(4, .int 0), (3, .int 0), (2, .int (F_partF a1)), (0, .ref x0), (1, .int a1)]) hx hb dX0_branch_60 hl (by decide) rfl (fun ls hl => ?_)
          refine lv_iload hx hb dX0_branch_62 (lv_at hl 0 rfl) ?_
          refine lv_if_eq (tgt := 79) hx hb dX0_branch_64 (by decide) (fun c_17 => ?_) (fun c_17 => ?_)
          · refine lv_aload_n hx hb dX0_branch_79 rfl (lv_at hl 3 rfl) ?_
            refine va_get (D := (dC, dI)) (ci := 0) (v := .int pcv) (C := RX0) (T := TX0) (N := 7) hx hb hts (gw_lay lay_X0) hown hK hP 0 rfl rfl 3 (by decide) (hts _ (gcons mF_X0_19)) (fun _ h9 => h9) rfl dX0_branch_80 ?_
            refine lv_iconst (v := 4) hx hb dX0_branch_83 (by decide) ?_
            refine lv_iadd hx hb dX0_branch_84 ?_
            refine lv_istore (lv' := [(5, .int (pcv + 4)), (4, .int 0), (3, .int 0), (2, .int (F_partF a1)), (0, .ref x0), (1, .int a1)]) hx hb dX0_branch_85 hl (by decide) rfl (fun ls hl => ?_)
            refine lv_iload hx hb dX0_branch_87 (lv_at hl 0 rfl) ?_
            refine lv_iconst (v := 4) hx hb dX0_branch_89 (by decide) ?_
            refine vp_callSi (W.runS (As := [.int (pcv + 4), .int 4]) (rest := []) ⟨hx, hb, hml, hown, hts⟩ (c_isCrooked l (pcv + 4) 4) (cwS 2 hts (gS mL_X0_62 mS_X0_isCrooked mN_X0 mC_X0_isCrooked) rfl rfl rfl (by decide +kernel) ⟨Nat.le_of_ble_eq_true rfl, Nat.le_of_ble_eq_true rfl⟩) preEq rfl rfl hl.1 rfl (lv_room (Nat.le_of_ble_eq_true rfl)) dX0_branch_90 ⟨Nat.zero_le _, Nat.zero_le _⟩) (fun r_18 hw => ?_)
            obtain ⟨b_19, hw⟩ := hw
            subst hw
            refine lv_if_eq (tgt := 104) hx hb dX0_branch_93 (by decide) (fun c_20 => ?_) (fun c_20 => ?_)
            · refine lv_aload_n hx hb dX0_branch_104 rfl (lv_at hl 4 rfl) ?_
              refine lv_iload hx hb dX0_branch_105 (lv_at hl 0 rfl) ?_
              refine va_put (D := (dC, dI)) (ci := 0) (v := .int (pcv + 4)) (ty := .int) (C := RX0) (T := TX0) (N := 7) hx hb hts (gw_lay lay_X0) tyX0 tyX0_ok nmX0 hown hK hP hD hS 0 rfl rfl 3 (by decide) (hts _ (gcons mF_X0_19)) (fun _ h9 => h9) rfl (by decide +kernel) rfl rfl (Nat.le_of_ble_eq_true rfl) dX0_branch_107 (fun H locs hP hD hS => ?_)
              have hP : va_P (dC, dI) vwCl [(x0, .inr (0, [.ref xw, .ref xr, .ref xg, .int (pcv + 4), .int trv, .int vav, .int dnv])), (xw, .inl (c1, 4096, .inl wd)), (xr, .inl (c2, 4, .inl rg)), (xg, .inl (c3, 32, .inl rs))] H := hP
              have hD : va_D A [(x0, .inr (0, [.ref xw, .ref xr, .ref xg, .int (pcv + 4), .int trv, .int vav, .int dnv])), (xw, .inl (c1, 4096, .inl wd)), (xr, .inl (c2, 4, .inl rg)), (xg, .inl (c3, 32, .inl rs))] := hD
              refine lv_iconst (v := 1) hx hb dX0_branch_110 (by decide) ?_
              exact W.zret (v := 1) (ty := .boolean) hx hb hr rfl (fun t ht hW => ⟨⟨_, (wd, rs, pcv + 4, trv, vav), rfl, ⟨rfl, (by unfold F_branch; rw [if_neg c_2, if_neg c_10, if_neg c_11, if_pos c_16, if_pos c_20])⟩, by rw [ht]; exact hP, va_K.moved hW.alike hK, hD⟩, hS.F ht⟩) hS.2.2 dX0_branch_111
            · refine lv_aload_n hx hb dX0_branch_96 rfl (lv_at hl 4 rfl) ?_
              refine lv_iconst (v := 0) hx hb dX0_branch_97 (by decide) ?_
              refine lv_iload hx hb dX0_branch_98 (lv_at hl 0 rfl) ?_
              have hFc := va_free (wc := [(x0, .inr (0, [.ref xw, .ref xr, .ref xg, .int pcv, .int trv, .int vav, .int dnv])), (xw, .inl (c1, 4096, .inl wd)), (xr, .inl (c2, 4, .inl rg)), (xg, .inl (c3, 32, .inl rs))]) hD hS hA [0, 1, 2, 3] rfl
              refine va_calli (va_runV (As := [.int 0, .int (pcv + 4)]) (rest := []) ⟨hx, hb, hml, hown, hts⟩ (c_trapWith l dC dI x0 xw xr xg c1 c2 c3 s.heap.size wd rg rs pcv trv vav dnv 0 (pcv + 4)) (cwV 2 hts (gV mL_X0_66 mI_X0_trapWith mE_X0_trapWith mN_X0 mC_X0_trapWith) rfl rfl rfl (by decide +kernel) ⟨Nat.le_of_ble_eq_true rfl, Nat.le_of_ble_eq_true rfl⟩) ⟨fun a U g mk q => by obtain ⟨q0, q1, qP, qK, qD⟩ := q; exact ⟨q0, q1, qP, va_K.moved (u := U) (U := U.calling g mk a) (Vm.Alike.refl U.vm) qK, qD⟩, va_recv hK hP (ci := 0) (q0 := 0) rfl rfl, fun U hU hW => ⟨rfl, by rw [hU], by rw [hU]; exact hP, va_K.moved hW.alike hK, hD.weaken (fun _ _ _ _ => trivial)⟩⟩ rfl rfl hl.1 rfl (lv_room (Nat.le_of_ble_eq_true rfl)) dX0_branch_100 ⟨Nat.zero_le _, Nat.zero_le _⟩) hS (fun q _ h => hFc q h) hFc (fun r_21 u t H1 locs ht hvm hw hB hz1 hk1 hS => ?_)
              obtain ⟨b_22, hw⟩ := hw
              obtain ⟨wd_23, rs_24, pcv_25, trv_26, vav_27⟩ := u
              obtain ⟨hP1, hK1, hD1⟩ := hB
              rw [ht] at hP1
              obtain ⟨hP, hD⟩ := va_join (wr := []) (w1 := [(x0, .inr (0, [.ref xw, .ref xr, .ref xg, .int pcv_25, .int trv_26, .int vav_27, .int dnv])), (xw, .inl (c1, 4096, .inl wd_23)), (xr, .inl (c2, 4, .inl rg)), (xg, .inl (c3, 32, .inl rs_24))]) hP hD [0, 1, 2, 3] [] rfl rfl (by decide) (by decide) hk1 hFc hP1 hD1
              generalize H1 = H at hP hS ⊢
              have hP : va_P (dC, dI) vwCl [(x0, .inr (0, [.ref xw, .ref xr, .ref xg, .int pcv_25, .int trv_26, .int vav_27, .int dnv])), (xw, .inl (c1, 4096, .inl wd_23)), (xr, .inl (c2, 4, .inl rg)), (xg, .inl (c3, 32, .inl rs_24))] H := hP
              have hD : va_D A [(x0, .inr (0, [.ref xw, .ref xr, .ref xg, .int pcv_25, .int trv_26, .int vav_27, .int dnv])), (xw, .inl (c1, 4096, .inl wd_23)), (xr, .inl (c2, 4, .inl rg)), (xg, .inl (c3, 32, .inl rs_24))] := hD
              exact W.zret (v := r_21) (ty := .boolean) hx hb hr b_22 (fun t ht hW => ⟨⟨_, (wd_23, rs_24, pcv_25, trv_26, vav_27), rfl, ⟨b_22, (by unfold F_branch; rw [if_neg c_2, if_neg c_10, if_neg c_11, if_pos c_16, if_neg c_20]; exact hw)⟩, by rw [ht]; exact hP, va_K.moved hW.alike hK, hD⟩, hS.F ht⟩) hS.2.2 dX0_branch_103
          · exact absurd (by decide) c_17
        · refine lv_iconst (v := 1) hx hb dX0_branch_55 (by decide) ?_
          refine lv_goto (tgt := 60) hx hb dX0_branch_56 (by decide) ?_
          refine lv_istore (lv' := [(4, .int 1), (3, .int 0), (2, .int (F_partF a1)), (0, .ref x0), (1, .int a1)]) hx hb dX0_branch_60 hl (by decide) rfl (fun ls hl => ?_)
          refine lv_iload hx hb dX0_branch_62 (lv_at hl 0 rfl) ?_
          refine lv_if_eq (tgt := 79) hx hb dX0_branch_64 (by decide) (fun c_28 => ?_) (fun c_28 => ?_)
          · exact absurd c_28 (by decide)
          · refine lv_aload_n hx hb dX0_branch_67 rfl (lv_at hl 3 rfl) ?_
            refine va_get (D := (dC, dI)) (ci := 0) (v := .int pcv) (C := RX0) (T := TX0) (N := 7) hx hb hts (gw_lay lay_X0) hown hK hP 0 rfl rfl 3 (by decide) (hts _ (gcons mF_X0_19)) (fun _ h9 => h9) rfl dX0_branch_68 ?_
            refine lv_iload_n hx hb dX0_branch_71 rfl (lv_at hl 4 rfl) ?_
            refine vp_callSi (W.runS (As := [.int a1]) (rest := [.int pcv]) ⟨hx, hb, hml, hown, hts⟩ (c_branchImmediate l a1) (cwS 1 hts (gS mL_X0_130 mS_X0_branchImmediate mN_X0 mC_X0_branchImmediate) rfl rfl rfl (by decide +kernel) ⟨Nat.le_of_ble_eq_true rfl, Nat.le_of_ble_eq_true rfl⟩) preEq rfl rfl hl.1 rfl (lv_room (Nat.le_of_ble_eq_true rfl)) dX0_branch_72 ⟨Nat.zero_le _, Nat.zero_le _⟩) (fun r_29 hw => ?_)
            subst hw
            refine lv_iadd hx hb dX0_branch_75 ?_
            refine lv_goto (tgt := 85) hx hb dX0_branch_76 (by decide) ?_
            refine lv_istore (lv' := [(5, .int (pcv + (F_branchImmediate a1))), (4, .int 1), (3, .int 0), (2, .int (F_partF a1)), (0, .ref x0), (1, .int a1)]) hx hb dX0_branch_85 hl (by decide) rfl (fun ls hl => ?_)
            refine lv_iload hx hb dX0_branch_87 (lv_at hl 0 rfl) ?_
            refine lv_iconst (v := 4) hx hb dX0_branch_89 (by decide) ?_
            refine vp_callSi (W.runS (As := [.int (pcv + (F_branchImmediate a1)), .int 4]) (rest := []) ⟨hx, hb, hml, hown, hts⟩ (c_isCrooked l (pcv + (F_branchImmediate a1)) 4) (cwS 2 hts (gS mL_X0_62 mS_X0_isCrooked mN_X0 mC_X0_isCrooked) rfl rfl rfl (by decide +kernel) ⟨Nat.le_of_ble_eq_true rfl, Nat.le_of_ble_eq_true rfl⟩) preEq rfl rfl hl.1 rfl (lv_room (Nat.le_of_ble_eq_true rfl)) dX0_branch_90 ⟨Nat.zero_le _, Nat.zero_le _⟩) (fun r_30 hw => ?_)
            obtain ⟨b_31, hw⟩ := hw
            subst hw
            refine lv_if_eq (tgt := 104) hx hb dX0_branch_93 (by decide) (fun c_32 => ?_) (fun c_32 => ?_)
            · refine lv_aload_n hx hb dX0_branch_104 rfl (lv_at hl 4 rfl) ?_
              refine lv_iload hx hb dX0_branch_105 (lv_at hl 0 rfl) ?_
              refine va_put (D := (dC, dI)) (ci := 0) (v := .int (pcv + (F_branchImmediate a1))) (ty := .int) (C := RX0) (T := TX0) (N := 7) hx hb hts (gw_lay lay_X0) tyX0 tyX0_ok nmX0 hown hK hP hD hS 0 rfl rfl 3 (by decide) (hts _ (gcons mF_X0_19)) (fun _ h9 => h9) rfl (by decide +kernel) rfl rfl (Nat.le_of_ble_eq_true rfl) dX0_branch_107 (fun H locs hP hD hS => ?_)
              have hP : va_P (dC, dI) vwCl [(x0, .inr (0, [.ref xw, .ref xr, .ref xg, .int (pcv + (F_branchImmediate a1)), .int trv, .int vav, .int dnv])), (xw, .inl (c1, 4096, .inl wd)), (xr, .inl (c2, 4, .inl rg)), (xg, .inl (c3, 32, .inl rs))] H := hP
              have hD : va_D A [(x0, .inr (0, [.ref xw, .ref xr, .ref xg, .int (pcv + (F_branchImmediate a1)), .int trv, .int vav, .int dnv])), (xw, .inl (c1, 4096, .inl wd)), (xr, .inl (c2, 4, .inl rg)), (xg, .inl (c3, 32, .inl rs))] := hD
              refine lv_iconst (v := 1) hx hb dX0_branch_110 (by decide) ?_
              exact W.zret (v := 1) (ty := .boolean) hx hb hr rfl (fun t ht hW => ⟨⟨_, (wd, rs, pcv + (F_branchImmediate a1), trv, vav), rfl, ⟨rfl, (by unfold F_branch; rw [if_neg c_2, if_neg c_10, if_neg c_11, if_neg c_16, if_pos c_32])⟩, by rw [ht]; exact hP, va_K.moved hW.alike hK, hD⟩, hS.F ht⟩) hS.2.2 dX0_branch_111
            · refine lv_aload_n hx hb dX0_branch_96 rfl (lv_at hl 4 rfl) ?_
              refine lv_iconst (v := 0) hx hb dX0_branch_97 (by decide) ?_
              refine lv_iload hx hb dX0_branch_98 (lv_at hl 0 rfl) ?_
              have hFc := va_free (wc := [(x0, .inr (0, [.ref xw, .ref xr, .ref xg, .int pcv, .int trv, .int vav, .int dnv])), (xw, .inl (c1, 4096, .inl wd)), (xr, .inl (c2, 4, .inl rg)), (xg, .inl (c3, 32, .inl rs))]) hD hS hA [0, 1, 2, 3] rfl
              refine va_calli (va_runV (As := [.int 0, .int (pcv + (F_branchImmediate a1))]) (rest := []) ⟨hx, hb, hml, hown, hts⟩ (c_trapWith l dC dI x0 xw xr xg c1 c2 c3 s.heap.size wd rg rs pcv trv vav dnv 0 (pcv + (F_branchImmediate a1))) (cwV 2 hts (gV mL_X0_66 mI_X0_trapWith mE_X0_trapWith mN_X0 mC_X0_trapWith) rfl rfl rfl (by decide +kernel) ⟨Nat.le_of_ble_eq_true rfl, Nat.le_of_ble_eq_true rfl⟩) ⟨fun a U g mk q => by obtain ⟨q0, q1, qP, qK, qD⟩ := q; exact ⟨q0, q1, qP, va_K.moved (u := U) (U := U.calling g mk a) (Vm.Alike.refl U.vm) qK, qD⟩, va_recv hK hP (ci := 0) (q0 := 0) rfl rfl, fun U hU hW => ⟨rfl, by rw [hU], by rw [hU]; exact hP, va_K.moved hW.alike hK, hD.weaken (fun _ _ _ _ => trivial)⟩⟩ rfl rfl hl.1 rfl (lv_room (Nat.le_of_ble_eq_true rfl)) dX0_branch_100 ⟨Nat.zero_le _, Nat.zero_le _⟩) hS (fun q _ h => hFc q h) hFc (fun r_33 u t H1 locs ht hvm hw hB hz1 hk1 hS => ?_)
              obtain ⟨b_34, hw⟩ := hw
              obtain ⟨wd_35, rs_36, pcv_37, trv_38, vav_39⟩ := u
              obtain ⟨hP1, hK1, hD1⟩ := hB
              rw [ht] at hP1
              obtain ⟨hP, hD⟩ := va_join (wr := []) (w1 := [(x0, .inr (0, [.ref xw, .ref xr, .ref xg, .int pcv_37, .int trv_38, .int vav_39, .int dnv])), (xw, .inl (c1, 4096, .inl wd_35)), (xr, .inl (c2, 4, .inl rg)), (xg, .inl (c3, 32, .inl rs_36))]) hP hD [0, 1, 2, 3] [] rfl rfl (by decide) (by decide) hk1 hFc hP1 hD1
              generalize H1 = H at hP hS ⊢
              have hP : va_P (dC, dI) vwCl [(x0, .inr (0, [.ref xw, .ref xr, .ref xg, .int pcv_37, .int trv_38, .int vav_39, .int dnv])), (xw, .inl (c1, 4096, .inl wd_35)), (xr, .inl (c2, 4, .inl rg)), (xg, .inl (c3, 32, .inl rs_36))] H := hP
              have hD : va_D A [(x0, .inr (0, [.ref xw, .ref xr, .ref xg, .int pcv_37, .int trv_38, .int vav_39, .int dnv])), (xw, .inl (c1, 4096, .inl wd_35)), (xr, .inl (c2, 4, .inl rg)), (xg, .inl (c3, 32, .inl rs_36))] := hD
              exact W.zret (v := r_33) (ty := .boolean) hx hb hr b_34 (fun t ht hW => ⟨⟨_, (wd_35, rs_36, pcv_37, trv_38, vav_39), rfl, ⟨b_34, (by unfold F_branch; rw [if_neg c_2, if_neg c_10, if_neg c_11, if_neg c_16, if_neg c_32]; exact hw)⟩, by rw [ht]; exact hP, va_K.moved hW.alike hK, hD⟩, hS.F ht⟩) hS.2.2 dX0_branch_103
      · refine lv_iconst (v := 1) hx hb dX0_branch_28 (by decide) ?_
        refine lv_goto (tgt := 33) hx hb dX0_branch_29 (by decide) ?_
        refine lv_istore_n (lv' := [(3, .int 1), (2, .int (F_partF a1)), (0, .ref x0), (1, .int a1)]) hx hb dX0_branch_33 rfl hl (by decide) rfl (fun ls hl => ?_)
        refine lv_iload_n hx hb dX0_branch_34 rfl (lv_at hl 1 rfl) ?_
        refine lv_bipush (v := 6) hx hb dX0_branch_35 (by decide) ?_
        refine lv_iand hx hb dX0_branch_37 ?_
        refine lv_aload_n hx hb dX0_branch_38 rfl (lv_at hl 2 rfl) ?_
        refine lv_iload_n hx hb dX0_branch_39 rfl (lv_at hl 3 rfl) ?_
        refine vp_callSi (W.runV (As := [.int a1]) (rest := [.int ((F_partF a1) &&& 6)]) ⟨hx, hb, hml, hown, hts⟩ (c_registerA l dC dI x0 xw xr xg c1 c2 c3 wd rg rs pcv trv vav dnv a1) (cwV 1 hts (gV mL_X0_117 mI_X0_registerA mE_X0_registerA mN_X0 mC_X0_registerA) rfl rfl rfl (by decide +kernel) ⟨Nat.le_of_ble_eq_true rfl, Nat.le_of_ble_eq_true rfl⟩) ⟨fun a U g mk q => by obtain ⟨q0, qP, qK⟩ := q; exact ⟨q0, qP, va_K.moved (u := U) (U := U.calling g mk a) (Vm.Alike.refl U.vm) qK⟩, va_recv hK hP (ci := 0) (q0 := 0) rfl rfl, fun U hU hW => ⟨rfl, by rw [hU]; exact hP, va_K.moved hW.alike hK⟩⟩ rfl rfl hl.1 rfl (lv_room (Nat.le_of_ble_eq_true rfl)) dX0_branch_40 ⟨Nat.zero_le _, Nat.zero_le _⟩) (fun r_40 hw => ?_)
        subst hw
        refine lv_aload_n hx hb dX0_branch_43 rfl (lv_at hl 2 rfl) ?_
        refine lv_iload_n hx hb dX0_branch_44 rfl (lv_at hl 3 rfl) ?_
        refine vp_callSi (W.runV (As := [.int a1]) (rest := [.int (F_registerA rs a1), .int ((F_partF a1) &&& 6)]) ⟨hx, hb, hml, hown, hts⟩ (c_registerB l dC dI x0 xw xr xg c1 c2 c3 wd rg rs pcv trv vav dnv a1) (cwV 1 hts (gV mL_X0_123 mI_X0_registerB mE_X0_registerB mN_X0 mC_X0_registerB) rfl rfl rfl (by decide +kernel) ⟨Nat.le_of_ble_eq_true rfl, Nat.le_of_ble_eq_true rfl⟩) ⟨fun a U g mk q => by obtain ⟨q0, qP, qK⟩ := q; exact ⟨q0, qP, va_K.moved (u := U) (U := U.calling g mk a) (Vm.Alike.refl U.vm) qK⟩, va_recv hK hP (ci := 0) (q0 := 0) rfl rfl, fun U hU hW => ⟨rfl, by rw [hU]; exact hP, va_K.moved hW.alike hK⟩⟩ rfl rfl hl.1 rfl (lv_room (Nat.le_of_ble_eq_true rfl)) dX0_branch_45 ⟨Nat.zero_le _, Nat.zero_le _⟩) (fun r_41 hw => ?_)
        subst hw
        refine vp_callSi (W.runS (As := [.int ((F_partF a1) &&& 6), .int (F_registerA rs a1), .int (F_registerB rs a1)]) (rest := []) ⟨hx, hb, hml, hown, hts⟩ (c_compare l ((F_partF a1) &&& 6) (F_registerA rs a1) (F_registerB rs a1)) (cwS 3 hts (gS mL_X0_126 mS_X0_compare mN_X0 mC_X0_compare) rfl rfl rfl (by decide +kernel) ⟨Nat.le_of_ble_eq_true rfl, Nat.le_of_ble_eq_true rfl⟩) preEq rfl rfl hl.1 rfl (lv_room (Nat.le_of_ble_eq_true rfl)) dX0_branch_48 ⟨Nat.zero_le _, Nat.zero_le _⟩) (fun r_42 hw => ?_)
        obtain ⟨b_43, hw⟩ := hw
        subst hw
        refine lv_iload_n hx hb dX0_branch_51 rfl (lv_at hl 0 rfl) ?_
        refine lv_icmp_eq (tgt := 59) hx hb dX0_branch_52 (by decide) (fun c_44 => ?_) (fun c_44 => ?_)
        · refine lv_iconst (v := 0) hx hb dX0_branch_59 (by decide) ?_
          refine lv_istore (lv' := [(4, .int 0), (3, .int 1), (2, .int (F_partF a1)), (0, .ref x0), (1, .int a1)]) hx hb dX0_branch_60 hl (by decide) rfl (fun ls hl => ?_)
          refine lv_iload hx hb dX0_branch_62 (lv_at hl 0 rfl) ?_
          refine lv_if_eq (tgt := 79) hx hb dX0_branch_64 (by decide) (fun c_45 => ?_) (fun c_45 => ?_)
          · refine lv_aload_n hx hb dX0_branch_79 rfl (lv_at hl 3 rfl) ?_
            refine va_get (D := (dC, dI)) (ci := 0) (v := .int pcv) (C := RX0) (T := TX0) (N := 7) hx hb hts (gw_lay lay_X0) hown hK hP 0 rfl rfl 3 (by decide) (hts _ (gcons mF_X0_19)) (fun _ h9 => h9) rfl dX0_branch_80 ?_
            refine lv_iconst (v := 4) hx hb dX0_branch_83 (by decide) ?_
            refine lv_iadd hx hb dX0_branch_84 ?_
            refine lv_istore (lv' := [(5, .int (pcv + 4)), (4, .int 0), (3, .int 1), (2, .int (F_partF a1)), (0, .ref x0), (1, .int a1)]) hx hb dX0_branch_85 hl (by decide) rfl (fun ls hl => ?_)
            refine lv_iload hx hb dX0_branch_87 (lv_at hl 0 rfl) ?_
            refine lv_iconst (v := 4) hx hb dX0_branch_89 (by decide) ?_
            refine vp_callSi (W.runS (As := [.int (pcv + 4), .int 4]) (rest := []) ⟨hx, hb, hml, hown, hts⟩ (c_isCrooked l (pcv + 4) 4) (cwS 2 hts (gS mL_X0_62 mS_X0_isCrooked mN_X0 mC_X0_isCrooked) rfl rfl rfl (by decide +kernel) ⟨Nat.le_of_ble_eq_true rfl, Nat.le_of_ble_eq_true rfl⟩) preEq rfl rfl hl.1 rfl (lv_room (Nat.le_of_ble_eq_true rfl)) dX0_branch_90 ⟨Nat.zero_le _, Nat.zero_le _⟩) (fun r_46 hw => ?_)
            obtain ⟨b_47, hw⟩ := hw
            subst hw
            refine lv_if_eq (tgt := 104) hx hb dX0_branch_93 (by decide) (fun c_48 => ?_) (fun c_48 => ?_)
            · refine lv_aload_n hx hb dX0_branch_104 rfl (lv_at hl 4 rfl) ?_
              refine lv_iload hx hb dX0_branch_105 (lv_at hl 0 rfl) ?_
              refine va_put (D := (dC, dI)) (ci := 0) (v := .int (pcv + 4)) (ty := .int) (C := RX0) (T := TX0) (N := 7) hx hb hts (gw_lay lay_X0) tyX0 tyX0_ok nmX0 hown hK hP hD hS 0 rfl rfl 3 (by decide) (hts _ (gcons mF_X0_19)) (fun _ h9 => h9) rfl (by decide +kernel) rfl rfl (Nat.le_of_ble_eq_true rfl) dX0_branch_107 (fun H locs hP hD hS => ?_)
              have hP : va_P (dC, dI) vwCl [(x0, .inr (0, [.ref xw, .ref xr, .ref xg, .int (pcv + 4), .int trv, .int vav, .int dnv])), (xw, .inl (c1, 4096, .inl wd)), (xr, .inl (c2, 4, .inl rg)), (xg, .inl (c3, 32, .inl rs))] H := hP
              have hD : va_D A [(x0, .inr (0, [.ref xw, .ref xr, .ref xg, .int (pcv + 4), .int trv, .int vav, .int dnv])), (xw, .inl (c1, 4096, .inl wd)), (xr, .inl (c2, 4, .inl rg)), (xg, .inl (c3, 32, .inl rs))] := hD
              refine lv_iconst (v := 1) hx hb dX0_branch_110 (by decide) ?_
              exact W.zret (v := 1) (ty := .boolean) hx hb hr rfl (fun t ht hW => ⟨⟨_, (wd, rs, pcv + 4, trv, vav), rfl, ⟨rfl, (by unfold F_branch; rw [if_neg c_2, if_neg c_10, if_pos c_11, if_pos c_44, if_pos c_48])⟩, by rw [ht]; exact hP, va_K.moved hW.alike hK, hD⟩, hS.F ht⟩) hS.2.2 dX0_branch_111
            · refine lv_aload_n hx hb dX0_branch_96 rfl (lv_at hl 4 rfl) ?_
              refine lv_iconst (v := 0) hx hb dX0_branch_97 (by decide) ?_
              refine lv_iload hx hb dX0_branch_98 (lv_at hl 0 rfl) ?_
              have hFc := va_free (wc := [(x0, .inr (0, [.ref xw, .ref xr, .ref xg, .int pcv, .int trv, .int vav, .int dnv])), (xw, .inl (c1, 4096, .inl wd)), (xr, .inl (c2, 4, .inl rg)), (xg, .inl (c3, 32, .inl rs))]) hD hS hA [0, 1, 2, 3] rfl
              refine va_calli (va_runV (As := [.int 0, .int (pcv + 4)]) (rest := []) ⟨hx, hb, hml, hown, hts⟩ (c_trapWith l dC dI x0 xw xr xg c1 c2 c3 s.heap.size wd rg rs pcv trv vav dnv 0 (pcv + 4)) (cwV 2 hts (gV mL_X0_66 mI_X0_trapWith mE_X0_trapWith mN_X0 mC_X0_trapWith) rfl rfl rfl (by decide +kernel) ⟨Nat.le_of_ble_eq_true rfl, Nat.le_of_ble_eq_true rfl⟩) ⟨fun a U g mk q => by obtain ⟨q0, q1, qP, qK, qD⟩ := q; exact ⟨q0, q1, qP, va_K.moved (u := U) (U := U.calling g mk a) (Vm.Alike.refl U.vm) qK, qD⟩, va_recv hK hP (ci := 0) (q0 := 0) rfl rfl, fun U hU hW => ⟨rfl, by rw [hU], by rw [hU]; exact hP, va_K.moved hW.alike hK, hD.weaken (fun _ _ _ _ => trivial)⟩⟩ rfl rfl hl.1 rfl (lv_room (Nat.le_of_ble_eq_true rfl)) dX0_branch_100 ⟨Nat.zero_le _, Nat.zero_le _⟩) hS (fun q _ h => hFc q h) hFc (fun r_49 u t H1 locs ht hvm hw hB hz1 hk1 hS => ?_)
              obtain ⟨b_50, hw⟩ := hw
              obtain ⟨wd_51, rs_52, pcv_53, trv_54, vav_55⟩ := u
              obtain ⟨hP1, hK1, hD1⟩ := hB
              rw [ht] at hP1
              obtain ⟨hP, hD⟩ := va_join (wr := []) (w1 := [(x0, .inr (0, [.ref xw, .ref xr, .ref xg, .int pcv_53, .int trv_54, .int vav_55, .int dnv])), (xw, .inl (c1, 4096, .inl wd_51)), (xr, .inl (c2, 4, .inl rg)), (xg, .inl (c3, 32, .inl rs_52))]) hP hD [0, 1, 2, 3] [] rfl rfl (by decide) (by decide) hk1 hFc hP1 hD1
              generalize H1 = H at hP hS ⊢
              have hP : va_P (dC, dI) vwCl [(x0, .inr (0, [.ref xw, .ref xr, .ref xg, .int pcv_53, .int trv_54, .int vav_55, .int dnv])), (xw, .inl (c1, 4096, .inl wd_51)), (xr, .inl (c2, 4, .inl rg)), (xg, .inl (c3, 32, .inl rs_52))] H := hP
              have hD : va_D A [(x0, .inr (0, [.ref xw, .ref xr, .ref xg, .int pcv_53, .int trv_54, .int vav_55, .int dnv])), (xw, .inl (c1, 4096, .inl wd_51)), (xr, .inl (c2, 4, .inl rg)), (xg, .inl (c3, 32, .inl rs_52))] := hD
              exact W.zret (v := r_49) (ty := .boolean) hx hb hr b_50 (fun t ht hW => ⟨⟨_, (wd_51, rs_52, pcv_53, trv_54, vav_55), rfl, ⟨b_50, (by unfold F_branch; rw [if_neg c_2, if_neg c_10, if_pos c_11, if_pos c_44, if_neg c_48]; exact hw)⟩, by rw [ht]; exact hP, va_K.moved hW.alike hK, hD⟩, hS.F ht⟩) hS.2.2 dX0_branch_103
          · exact absurd (by decide) c_45
        · refine lv_iconst (v := 1) hx hb dX0_branch_55 (by decide) ?_
          refine lv_goto (tgt := 60) hx hb dX0_branch_56 (by decide) ?_
          refine lv_istore (lv' := [(4, .int 1), (3, .int 1), (2, .int (F_partF a1)), (0, .ref x0), (1, .int a1)]) hx hb dX0_branch_60 hl (by decide) rfl (fun ls hl => ?_)
          refine lv_iload hx hb dX0_branch_62 (lv_at hl 0 rfl) ?_
          refine lv_if_eq (tgt := 79) hx hb dX0_branch_64 (by decide) (fun c_56 => ?_) (fun c_56 => ?_)
          · exact absurd c_56 (by decide)
          · refine lv_aload_n hx hb dX0_branch_67 rfl (lv_at hl 3 rfl) ?_
            refine va_get (D := (dC, dI)) (ci := 0) (v := .int pcv) (C := RX0) (T := TX0) (N := 7) hx hb hts (gw_lay lay_X0) hown hK hP 0 rfl rfl 3 (by decide) (hts _ (gcons mF_X0_19)) (fun _ h9 => h9) rfl dX0_branch_68 ?_
            refine lv_iload_n hx hb dX0_branch_71 rfl (lv_at hl 4 rfl) ?_
            refine vp_callSi (W.runS (As := [.int a1]) (rest := [.int pcv]) ⟨hx, hb, hml, hown, hts⟩ (c_branchImmediate l a1) (cwS 1 hts (gS mL_X0_130 mS_X0_branchImmediate mN_X0 mC_X0_branchImmediate) rfl rfl rfl (by decide +kernel) ⟨Nat.le_of_ble_eq_true rfl, Nat.le_of_ble_eq_true rfl⟩) preEq rfl rfl hl.1 rfl (lv_room (Nat.le_of_ble_eq_true rfl)) dX0_branch_72 ⟨Nat.zero_le _, Nat.zero_le _⟩) (fun r_57 hw => ?_)
            subst hw
            refine lv_iadd hx hb dX0_branch_75 ?_
            refine lv_goto (tgt := 85) hx hb dX0_branch_76 (by decide) ?_
            refine lv_istore (lv' := [(5, .int (pcv + (F_branchImmediate a1))), (4, .int 1), (3, .int 1), (2, .int (F_partF a1)), (0, .ref x0), (1, .int a1)]) hx hb dX0_branch_85 hl (by decide) rfl (fun ls hl => ?_)
            refine lv_iload hx hb dX0_branch_87 (lv_at hl 0 rfl) ?_
            refine lv_iconst (v := 4) hx hb dX0_branch_89 (by decide) ?_
            refine vp_callSi (W.runS (As := [.int (pcv + (F_branchImmediate a1)), .int 4]) (rest := []) ⟨hx, hb, hml, hown, hts⟩ (c_isCrooked l (pcv + (F_branchImmediate a1)) 4) (cwS 2 hts (gS mL_X0_62 mS_X0_isCrooked mN_X0 mC_X0_isCrooked) rfl rfl rfl (by decide +kernel) ⟨Nat.le_of_ble_eq_true rfl, Nat.le_of_ble_eq_true rfl⟩) preEq rfl rfl hl.1 rfl (lv_room (Nat.le_of_ble_eq_true rfl)) dX0_branch_90 ⟨Nat.zero_le _, Nat.zero_le _⟩) (fun r_58 hw => ?_)
            obtain ⟨b_59, hw⟩ := hw
            subst hw
            refine lv_if_eq (tgt := 104) hx hb dX0_branch_93 (by decide) (fun c_60 => ?_) (fun c_60 => ?_)
            · refine lv_aload_n hx hb dX0_branch_104 rfl (lv_at hl 4 rfl) ?_
              refine lv_iload hx hb dX0_branch_105 (lv_at hl 0 rfl) ?_
              refine va_put (D := (dC, dI)) (ci := 0) (v := .int (pcv + (F_branchImmediate a1))) (ty := .int) (C := RX0) (T := TX0) (N := 7) hx hb hts (gw_lay lay_X0) tyX0 tyX0_ok nmX0 hown hK hP hD hS 0 rfl rfl 3 (by decide) (hts _ (gcons mF_X0_19)) (fun _ h9 => h9) rfl (by decide +kernel) rfl rfl (Nat.le_of_ble_eq_true rfl) dX0_branch_107 (fun H locs hP hD hS => ?_)
              have hP : va_P (dC, dI) vwCl [(x0, .inr (0, [.ref xw, .ref xr, .ref xg, .int (pcv + (F_branchImmediate a1)), .int trv, .int vav, .int dnv])), (xw, .inl (c1, 4096, .inl wd)), (xr, .inl (c2, 4, .inl rg)), (xg, .inl (c3, 32, .inl rs))] H := hP
              have hD : va_D A [(x0, .inr (0, [.ref xw, .ref xr, .ref xg, .int (pcv + (F_branchImmediate a1)), .int trv, .int vav, .int dnv])), (xw, .inl (c1, 4096, .inl wd)), (xr, .inl (c2, 4, .inl rg)), (xg, .inl (c3, 32, .inl rs))] := hD
              refine lv_iconst (v := 1) hx hb dX0_branch_110 (by decide) ?_
              exact W.zret (v := 1) (ty := .boolean) hx hb hr rfl (fun t ht hW => ⟨⟨_, (wd, rs, pcv + (F_branchImmediate a1), trv, vav), rfl, ⟨rfl, (by unfold F_branch; rw [if_neg c_2, if_neg c_10, if_pos c_11, if_neg c_44, if_pos c_60])⟩, by rw [ht]; exact hP, va_K.moved hW.alike hK, hD⟩, hS.F ht⟩) hS.2.2 dX0_branch_111
            · refine lv_aload_n hx hb dX0_branch_96 rfl (lv_at hl 4 rfl) ?_
              refine lv_iconst (v := 0) hx hb dX0_branch_97 (by decide) ?_
              refine lv_iload hx hb dX0_branch_98 (lv_at hl 0 rfl) ?_
              have hFc := va_free (wc := [(x0, .inr (0, [.ref xw, .ref xr, .ref xg, .int pcv, .int trv, .int vav, .int dnv])), (xw, .inl (c1, 4096, .inl wd)), (xr, .inl (c2, 4, .inl rg)), (xg, .inl (c3, 32, .inl rs))]) hD hS hA [0, 1, 2, 3] rfl
              refine va_calli (va_runV (As := [.int 0, .int (pcv + (F_branchImmediate a1))]) (rest := []) ⟨hx, hb, hml, hown, hts⟩ (c_trapWith l dC dI x0 xw xr xg c1 c2 c3 s.heap.size wd rg rs pcv trv vav dnv 0 (pcv + (F_branchImmediate a1))) (cwV 2 hts (gV mL_X0_66 mI_X0_trapWith mE_X0_trapWith mN_X0 mC_X0_trapWith) rfl rfl rfl (by decide +kernel) ⟨Nat.le_of_ble_eq_true rfl, Nat.le_of_ble_eq_true rfl⟩) ⟨fun a U g mk q => by obtain ⟨q0, q1, qP, qK, qD⟩ := q; exact ⟨q0, q1, qP, va_K.moved (u := U) (U := U.calling g mk a) (Vm.Alike.refl U.vm) qK, qD⟩, va_recv hK hP (ci := 0) (q0 := 0) rfl rfl, fun U hU hW => ⟨rfl, by rw [hU], by rw [hU]; exact hP, va_K.moved hW.alike hK, hD.weaken (fun _ _ _ _ => trivial)⟩⟩ rfl rfl hl.1 rfl (lv_room (Nat.le_of_ble_eq_true rfl)) dX0_branch_100 ⟨Nat.zero_le _, Nat.zero_le _⟩) hS (fun q _ h => hFc q h) hFc (fun r_61 u t H1 locs ht hvm hw hB hz1 hk1 hS => ?_)
              obtain ⟨b_62, hw⟩ := hw
              obtain ⟨wd_63, rs_64, pcv_65, trv_66, vav_67⟩ := u
              obtain ⟨hP1, hK1, hD1⟩ := hB
              rw [ht] at hP1
              obtain ⟨hP, hD⟩ := va_join (wr := []) (w1 := [(x0, .inr (0, [.ref xw, .ref xr, .ref xg, .int pcv_65, .int trv_66, .int vav_67, .int dnv])), (xw, .inl (c1, 4096, .inl wd_63)), (xr, .inl (c2, 4, .inl rg)), (xg, .inl (c3, 32, .inl rs_64))]) hP hD [0, 1, 2, 3] [] rfl rfl (by decide) (by decide) hk1 hFc hP1 hD1
              generalize H1 = H at hP hS ⊢
              have hP : va_P (dC, dI) vwCl [(x0, .inr (0, [.ref xw, .ref xr, .ref xg, .int pcv_65, .int trv_66, .int vav_67, .int dnv])), (xw, .inl (c1, 4096, .inl wd_63)), (xr, .inl (c2, 4, .inl rg)), (xg, .inl (c3, 32, .inl rs_64))] H := hP
              have hD : va_D A [(x0, .inr (0, [.ref xw, .ref xr, .ref xg, .int pcv_65, .int trv_66, .int vav_67, .int dnv])), (xw, .inl (c1, 4096, .inl wd_63)), (xr, .inl (c2, 4, .inl rg)), (xg, .inl (c3, 32, .inl rs_64))] := hD
              exact W.zret (v := r_61) (ty := .boolean) hx hb hr b_62 (fun t ht hW => ⟨⟨_, (wd_63, rs_64, pcv_65, trv_66, vav_67), rfl, ⟨b_62, (by unfold F_branch; rw [if_neg c_2, if_neg c_10, if_pos c_11, if_neg c_44, if_neg c_60]; exact hw)⟩, by rw [ht]; exact hP, va_K.moved hW.alike hK, hD⟩, hS.F ht⟩) hS.2.2 dX0_branch_103
    · refine lv_aload_n hx hb dX0_branch_15 rfl (lv_at hl 1 rfl) ?_
      refine lv_iload_n hx hb dX0_branch_16 rfl (lv_at hl 2 rfl) ?_
      have hFc := va_free (wc := [(x0, .inr (0, [.ref xw, .ref xr, .ref xg, .int pcv, .int trv, .int vav, .int dnv])), (xw, .inl (c1, 4096, .inl wd)), (xr, .inl (c2, 4, .inl rg)), (xg, .inl (c3, 32, .inl rs))]) hD hS hA [0, 1, 2, 3] rfl
      refine va_calli (va_runV (As := [.int a1]) (rest := []) ⟨hx, hb, hml, hown, hts⟩ (c_refuse l dC dI x0 xw xr xg c1 c2 c3 s.heap.size wd rg rs pcv trv vav dnv a1) (cwV 1 hts (gV mL_X0_111 mI_X0_refuse mE_X0_refuse mN_X0 mC_X0_refuse) rfl rfl rfl (by decide +kernel) ⟨Nat.le_of_ble_eq_true rfl, Nat.le_of_ble_eq_true rfl⟩) ⟨fun a U g mk q => by obtain ⟨q0, q1, qP, qK, qD⟩ := q; exact ⟨q0, q1, qP, va_K.moved (u := U) (U := U.calling g mk a) (Vm.Alike.refl U.vm) qK, qD⟩, va_recv hK hP (ci := 0) (q0 := 0) rfl rfl, fun U hU hW => ⟨rfl, by rw [hU], by rw [hU]; exact hP, va_K.moved hW.alike hK, hD.weaken (fun _ _ _ _ => trivial)⟩⟩ rfl rfl hl.1 rfl (lv_room (Nat.le_of_ble_eq_true rfl)) dX0_branch_17 ⟨Nat.zero_le _, Nat.zero_le _⟩) hS (fun q _ h => hFc q h) hFc (fun r_68 u t H1 locs ht hvm hw hB hz1 hk1 hS => ?_)
      obtain ⟨b_69, hw⟩ := hw
      obtain ⟨wd_70, rs_71, pcv_72, trv_73, vav_74⟩ := u
      obtain ⟨hP1, hK1, hD1⟩ := hB
      rw [ht] at hP1
      obtain ⟨hP, hD⟩ := va_join (wr := []) (w1 := [(x0, .inr (0, [.ref xw, .ref xr, .ref xg, .int pcv_72, .int trv_73, .int vav_74, .int dnv])), (xw, .inl (c1, 4096, .inl wd_70)), (xr, .inl (c2, 4, .inl rg)), (xg, .inl (c3, 32, .inl rs_71))]) hP hD [0, 1, 2, 3] [] rfl rfl (by decide) (by decide) hk1 hFc hP1 hD1
      generalize H1 = H at hP hS ⊢
      have hP : va_P (dC, dI) vwCl [(x0, .inr (0, [.ref xw, .ref xr, .ref xg, .int pcv_72, .int trv_73, .int vav_74, .int dnv])), (xw, .inl (c1, 4096, .inl wd_70)), (xr, .inl (c2, 4, .inl rg)), (xg, .inl (c3, 32, .inl rs_71))] H := hP
      have hD : va_D A [(x0, .inr (0, [.ref xw, .ref xr, .ref xg, .int pcv_72, .int trv_73, .int vav_74, .int dnv])), (xw, .inl (c1, 4096, .inl wd_70)), (xr, .inl (c2, 4, .inl rg)), (xg, .inl (c3, 32, .inl rs_71))] := hD
      exact W.zret (v := r_68) (ty := .boolean) hx hb hr b_69 (fun t ht hW => ⟨⟨_, (wd_70, rs_71, pcv_72, trv_73, vav_74), rfl, ⟨b_69, (by unfold F_branch; rw [if_neg c_2, if_pos c_10]; exact hw)⟩, by rw [ht]; exact hP, va_K.moved hW.alike hK, hD⟩, hS.F ht⟩) hS.2.2 dX0_branch_20
def F_goToRegister (wd : Nat → Int32) (rg : Nat → Int32) (rs : Nat → Int32) (pcv : Int32) (trv : Int32) (vav : Int32) (a1 : Int32) : Int32 × (Nat → Int32) × (Nat → Int32) × Int32 × Int32 × Int32 :=
  if (F_partF a1) = 0 then
    F_linkAndGo wd rg rs pcv trv vav a1 (((F_registerA rs a1) + (F_lowImmediate a1)) &&& ((-2)))
  else
    F_refuse wd rg rs pcv trv vav a1
set_option maxHeartbeats 4000000 in
set_option maxRecDepth 100000 in
theorem c_goToRegister (l : Launch) (dC : Nat → ClassId) (dI : Nat → Nat → Nat) (x0 xw xr xg : Nat) (c1 c2 c3 : ClassId) (sz : Nat) (wd : Nat → Int32) (rg : Nat → Int32) (rs : Nat → Int32) (pcv : Int32) (trv : Int32) (vav : Int32) (dnv : Int32) (a1 : Int32)  : Met l yX0_goToRegister wsX0_goToRegister ({ frames := 2, cells := 0, slots := 0, locals := 44 }) (va_Pc [.ref x0, .int a1] (fun U => U.heap.size = sz ∧ va_P (dC, dI) vwCl [(x0, .inr (0, [.ref xw, .ref xr, .ref xg, .int pcv, .int trv, .int vav, .int dnv])), (xw, .inl (c1, 4096, .inl wd)), (xr, .inl (c2, 4, .inl rg)), (xg, .inl (c3, 32, .inl rs))] U.heap ∧ va_K (dC, dI) vwCl [(c1, .int), (c2, .int), (c3, .int)] U ∧ va_D (fun _ => True) [(x0, .inr (0, [.ref xw, .ref xr, .ref xg, .int pcv, .int trv, .int vav, .int dnv])), (xw, .inl (c1, 4096, .inl wd)), (xr, .inl (c2, 4, .inl rg)), (xg, .inl (c3, 32, .inl rs))])) (va_Qi (fun (r : Int32) (u : (Nat → Int32) × (Nat → Int32) × Int32 × Int32 × Int32) => narrow .boolean (.int r) = .int r ∧ (r, u) = F_goToRegister wd rg rs pcv trv vav a1) (fun (u : (Nat → Int32) × (Nat → Int32) × Int32 × Int32 × Int32) (t : State) => va_P (dC, dI) vwCl [(x0, .inr (0, [.ref xw, .ref xr, .ref xg, .int u.2.2.1, .int u.2.2.2.1, .int u.2.2.2.2, .int dnv])), (xw, .inl (c1, 4096, .inl u.1)), (xr, .inl (c2, 4, .inl rg)), (xg, .inl (c3, 32, .inl u.2.1))] t.heap ∧ va_K (dC, dI) vwCl [(c1, .int), (c2, .int), (c3, .int)] t ∧ va_D (va_A [(x0, .inr (0, [.ref xw, .ref xr, .ref xg, .int pcv, .int trv, .int vav, .int dnv])), (xw, .inl (c1, 4096, .inl wd)), (xr, .inl (c2, 4, .inl rg)), (xg, .inl (c3, 32, .inl rs))] sz) [(x0, .inr (0, [.ref xw, .ref xr, .ref xg, .int u.2.2.1, .int u.2.2.2.1, .int u.2.2.2.2, .int dnv])), (xw, .inl (c1, 4096, .inl u.1)), (xr, .inl (c2, 4, .inl rg)), (xg, .inl (c3, 32, .inl u.2.1))]) (va_A [(x0, .inr (0, [.ref xw, .ref xr, .ref xg, .int pcv, .int trv, .int vav, .int dnv])), (xw, .inl (c1, 4096, .inl wd)), (xr, .inl (c2, 4, .inl rg)), (xg, .inl (c3, 32, .inl rs))] sz)) 0 0 (va_A [(x0, .inr (0, [.ref xw, .ref xr, .ref xg, .int pcv, .int trv, .int vav, .int dnv])), (xw, .inl (c1, 4096, .inl wd)), (xr, .inl (c2, 4, .inl rg)), (xg, .inl (c3, 32, .inl rs))] sz) := by
  refine Met.ofW (cc := cX0_goToRegister) (maxL := 2) (ret := (some .boolean)) (by decide) rfl ?_
  intro p e s m args below meth c s₁ B hml hv
  obtain ⟨rfl, hsz, hP, hK, hD0⟩ := hv
  have hx := B.exec
  have hb := B.bytes
  have hr := B.returns
  have hts := atoms_spec (ws := wsX0_goToRegister) B.pre
  have hown : s.vm.findClass RX0 = some m.cls := findClass_of_methodNamed B.named
  have hlocks := B.notSynchronized
  subst hsz
  have hD := hD0.self (sz := s.heap.size)
  generalize hAe : va_A [(x0, .inr (0, [.ref xw, .ref xr, .ref xg, .int pcv, .int trv, .int vav, .int dnv])), (xw, .inl (c1, 4096, .inl wd)), (xr, .inl (c2, 4, .inl rg)), (xg, .inl (c3, 32, .inl rs))] s.heap.size = A at hD ⊢
  have hA : ∀ q : Nat, s.heap.size ≤ q → A q := fun q h => by rw [← hAe]; exact Or.inr h
  have hS : va_S A s.heap s.heap [] := va_S.rf
  have hP : va_P (dC, dI) vwCl [(x0, .inr (0, [.ref xw, .ref xr, .ref xg, .int pcv, .int trv, .int vav, .int dnv])), (xw, .inl (c1, 4096, .inl wd)), (xr, .inl (c2, 4, .inl rg)), (xg, .inl (c3, 32, .inl rs))] s.heap := hP
  have hl := lv_entry ([.ref x0, .int a1]) (n := 2) (Nat.le_of_ble_eq_true rfl)
  rw [lg_entry_eq]
  generalize (lg_sl ([.ref x0, .int a1]) ++ List.replicate (2 - (lg_sl ([.ref x0, .int a1])).length) Slot.unset).toArray = ls at hl ⊢
  have hl : lv_has ls 2 [(0, .ref x0), (1, .int a1)] := hl
  refine lv_iload_n hx hb dX0_goToRegister_0 rfl (lv_at hl 1 rfl) ?_
  refine vp_callSi (W.runS (As := [.int a1]) (rest := []) ⟨hx, hb, hml, hown, hts⟩ (c_partF l a1) (cwS 1 hts (gS mL_X0_114 mS_X0_partF mN_X0 mC_X0_partF) rfl rfl rfl (by decide +kernel) ⟨Nat.le_of_ble_eq_true rfl, Nat.le_of_ble_eq_true rfl⟩) preEq rfl rfl hl.1 rfl (lv_room (Nat.le_of_ble_eq_true rfl)) dX0_goToRegister_1 ⟨Nat.zero_le _, Nat.zero_le _⟩) (fun r_1 hw => ?_)
  subst hw
  refine lv_if_eq (tgt := 13) hx hb dX0_goToRegister_4 (by decide) (fun c_2 => ?_) (fun c_2 => ?_)
  · refine lv_aload_n hx hb dX0_goToRegister_13 rfl (lv_at hl 0 rfl) ?_
    refine lv_iload_n hx hb dX0_goToRegister_14 rfl (lv_at hl 1 rfl) ?_
    refine lv_aload_n hx hb dX0_goToRegister_15 rfl (lv_at hl 0 rfl) ?_
    refine lv_iload_n hx hb dX0_goToRegister_16 rfl (lv_at hl 1 rfl) ?_
    refine vp_callSi (W.runV (As := [.int a1]) (rest := [.int a1, .ref x0]) ⟨hx, hb, hml, hown, hts⟩ (c_registerA l dC dI x0 xw xr xg c1 c2 c3 wd rg rs pcv trv vav dnv a1) (cwV 1 hts (gV mL_X0_117 mI_X0_registerA mE_X0_registerA mN_X0 mC_X0_registerA) rfl rfl rfl (by decide +kernel) ⟨Nat.le_of_ble_eq_true rfl, Nat.le_of_ble_eq_true rfl⟩) ⟨fun a U g mk q => by obtain ⟨q0, qP, qK⟩ := q; exact ⟨q0, qP, va_K.moved (u := U) (U := U.calling g mk a) (Vm.Alike.refl U.vm) qK⟩, va_recv hK hP (ci := 0) (q0 := 0) rfl rfl, fun U hU hW => ⟨rfl, by rw [hU]; exact hP, va_K.moved hW.alike hK⟩⟩ rfl rfl hl.1 rfl (lv_room (Nat.le_of_ble_eq_true rfl)) dX0_goToRegister_17 ⟨Nat.zero_le _, Nat.zero_le _⟩) (fun r_3 hw => ?_)
    subst hw
    refine lv_iload_n hx hb dX0_goToRegister_20 rfl (lv_at hl 1 rfl) ?_
    refine vp_callSi (W.runS (As := [.int a1]) (rest := [.int (F_registerA rs a1), .int a1, .ref x0]) ⟨hx, hb, hml, hown, hts⟩ (c_lowImmediate l a1) (cwS 1 hts (gS mL_X0_120 mS_X0_lowImmediate mN_X0 mC_X0_lowImmediate) rfl rfl rfl (by decide +kernel) ⟨Nat.le_of_ble_eq_true rfl, Nat.le_of_ble_eq_true rfl⟩) preEq rfl rfl hl.1 rfl (lv_room (Nat.le_of_ble_eq_true rfl)) dX0_goToRegister_21 ⟨Nat.zero_le _, Nat.zero_le _⟩) (fun r_4 hw => ?_)
    subst hw
    refine lv_iadd hx hb dX0_goToRegister_24 ?_
    refine lv_bipush (v := (-2)) hx hb dX0_goToRegister_25 (by decide) ?_
    refine lv_iand hx hb dX0_goToRegister_27 ?_
    have hFc := va_free (wc := [(x0, .inr (0, [.ref xw, .ref xr, .ref xg, .int pcv, .int trv, .int vav, .int dnv])), (xw, .inl (c1, 4096, .inl wd)), (xr, .inl (c2, 4, .inl rg)), (xg, .inl (c3, 32, .inl rs))]) hD hS hA [0, 1, 2, 3] rfl
    refine va_calli (va_runV (As := [.int a1, .int (((F_registerA rs a1) + (F_lowImmediate a1)) &&& ((-2)))]) (rest := []) ⟨hx, hb, hml, hown, hts⟩ (c_linkAndGo l dC dI x0 xw xr xg c1 c2 c3 s.heap.size wd rg rs pcv trv vav dnv a1 (((F_registerA rs a1) + (F_lowImmediate a1)) &&& ((-2)))) (cwV 2 hts (gV mL_X0_84 mI_X0_linkAndGo mE_X0_linkAndGo mN_X0 mC_X0_linkAndGo) rfl rfl rfl (by decide +kernel) ⟨Nat.le_of_ble_eq_true rfl, Nat.le_of_ble_eq_true rfl⟩) ⟨fun a U g mk q => by obtain ⟨q0, q1, qP, qK, qD⟩ := q; exact ⟨q0, q1, qP, va_K.moved (u := U) (U := U.calling g mk a) (Vm.Alike.refl U.vm) qK, qD⟩, va_recv hK hP (ci := 0) (q0 := 0) rfl rfl, fun U hU hW => ⟨rfl, by rw [hU], by rw [hU]; exact hP, va_K.moved hW.alike hK, hD.weaken (fun _ _ _ _ => trivial)⟩⟩ rfl rfl hl.1 rfl (lv_room (Nat.le_of_ble_eq_true rfl)) dX0_goToRegister_28 ⟨Nat.zero_le _, Nat.zero_le _⟩) hS (fun q _ h => hFc q h) hFc (fun r_5 u t H1 locs ht hvm hw hB hz1 hk1 hS => ?_)
    obtain ⟨b_6, hw⟩ := hw
    obtain ⟨wd_7, rs_8, pcv_9, trv_10, vav_11⟩ := u
    obtain ⟨hP1, hK1, hD1⟩ := hB
    rw [ht] at hP1
    obtain ⟨hP, hD⟩ := va_join (wr := []) (w1 := [(x0, .inr (0, [.ref xw, .ref xr, .ref xg, .int pcv_9, .int trv_10, .int vav_11, .int dnv])), (xw, .inl (c1, 4096, .inl wd_7)), (xr, .inl (c2, 4, .inl rg)), (xg, .inl (c3, 32, .inl rs_8))]) hP hD [0, 1, 2, 3] [] rfl rfl (by decide) (by decide) hk1 hFc hP1 hD1
    generalize H1 = H at hP hS ⊢
    have hP : va_P (dC, dI) vwCl [(x0, .inr (0, [.ref xw, .ref xr, .ref xg, .int pcv_9, .int trv_10, .int vav_11, .int dnv])), (xw, .inl (c1, 4096, .inl wd_7)), (xr, .inl (c2, 4, .inl rg)), (xg, .inl (c3, 32, .inl rs_8))] H := hP
    have hD : va_D A [(x0, .inr (0, [.ref xw, .ref xr, .ref xg, .int pcv_9, .int trv_10, .int vav_11, .int dnv])), (xw, .inl (c1, 4096, .inl wd_7)), (xr, .inl (c2, 4, .inl rg)), (xg, .inl (c3, 32, .inl rs_8))] := hD
    exact W.zret (v := r_5) (ty := .boolean) hx hb hr b_6 (fun t ht hW => ⟨⟨_, (wd_7, rs_8, pcv_9, trv_10, vav_11), rfl, ⟨b_6, (by unfold F_goToRegister; rw [if_pos c_2]; exact hw)⟩, by rw [ht]; exact hP, va_K.moved hW.alike hK, hD⟩, hS.F ht⟩) hS.2.2 dX0_goToRegister_31
  · refine lv_aload_n hx hb dX0_goToRegister_7 rfl (lv_at hl 0 rfl) ?_
    refine lv_iload_n hx hb dX0_goToRegister_8 rfl (lv_at hl 1 rfl) ?_
    have hFc := va_free (wc := [(x0, .inr (0, [.ref xw, .ref xr, .ref xg, .int pcv, .int trv, .int vav, .int dnv])), (xw, .inl (c1, 4096, .inl wd)), (xr, .inl (c2, 4, .inl rg)), (xg, .inl (c3, 32, .inl rs))]) hD hS hA [0, 1, 2, 3] rfl
    refine va_calli (va_runV (As := [.int a1]) (rest := []) ⟨hx, hb, hml, hown, hts⟩ (c_refuse l dC dI x0 xw xr xg c1 c2 c3 s.heap.size wd rg rs pcv trv vav dnv a1) (cwV 1 hts (gV mL_X0_111 mI_X0_refuse mE_X0_refuse mN_X0 mC_X0_refuse) rfl rfl rfl (by decide +kernel) ⟨Nat.le_of_ble_eq_true rfl, Nat.le_of_ble_eq_true rfl⟩) ⟨fun a U g mk q => by obtain ⟨q0, q1, qP, qK, qD⟩ := q; exact ⟨q0, q1, qP, va_K.moved (u := U) (U := U.calling g mk a) (Vm.Alike.refl U.vm) qK, qD⟩, va_recv hK hP (ci := 0) (q0 := 0) rfl rfl, fun U hU hW => ⟨rfl, by rw [hU], by rw [hU]; exact hP, va_K.moved hW.alike hK, hD.weaken (fun _ _ _ _ => trivial)⟩⟩ rfl rfl hl.1 rfl (lv_room (Nat.le_of_ble_eq_true rfl)) dX0_goToRegister_9 ⟨Nat.zero_le _, Nat.zero_le _⟩) hS (fun q _ h => hFc q h) hFc (fun r_12 u t H1 locs ht hvm hw hB hz1 hk1 hS => ?_)
    obtain ⟨b_13, hw⟩ := hw
    obtain ⟨wd_14, rs_15, pcv_16, trv_17, vav_18⟩ := u
    obtain ⟨hP1, hK1, hD1⟩ := hB
    rw [ht] at hP1
    obtain ⟨hP, hD⟩ := va_join (wr := []) (w1 := [(x0, .inr (0, [.ref xw, .ref xr, .ref xg, .int pcv_16, .int trv_17, .int vav_18, .int dnv])), (xw, .inl (c1, 4096, .inl wd_14)), (xr, .inl (c2, 4, .inl rg)), (xg, .inl (c3, 32, .inl rs_15))]) hP hD [0, 1, 2, 3] [] rfl rfl (by decide) (by decide) hk1 hFc hP1 hD1
    generalize H1 = H at hP hS ⊢
    have hP : va_P (dC, dI) vwCl [(x0, .inr (0, [.ref xw, .ref xr, .ref xg, .int pcv_16, .int trv_17, .int vav_18, .int dnv])), (xw, .inl (c1, 4096, .inl wd_14)), (xr, .inl (c2, 4, .inl rg)), (xg, .inl (c3, 32, .inl rs_15))] H := hP
    have hD : va_D A [(x0, .inr (0, [.ref xw, .ref xr, .ref xg, .int pcv_16, .int trv_17, .int vav_18, .int dnv])), (xw, .inl (c1, 4096, .inl wd_14)), (xr, .inl (c2, 4, .inl rg)), (xg, .inl (c3, 32, .inl rs_15))] := hD
    exact W.zret (v := r_12) (ty := .boolean) hx hb hr b_13 (fun t ht hW => ⟨⟨_, (wd_14, rs_15, pcv_16, trv_17, vav_18), rfl, ⟨b_13, (by unfold F_goToRegister; rw [if_neg c_2]; exact hw)⟩, by rw [ht]; exact hP, va_K.moved hW.alike hK, hD⟩, hS.F ht⟩) hS.2.2 dX0_goToRegister_12
end
section
def F_execute (wd : Nat → Int32) (rg : Nat → Int32) (rs : Nat → Int32) (pcv : Int32) (trv : Int32) (vav : Int32) (a1 : Int32) : Int32 × (Nat → Int32) × (Nat → Int32) × Int32 × Int32 × Int32 :=
  if (a1 &&& 127) = 3 then
    F_load wd rg rs pcv trv vav a1
  else
    if (a1 &&& 127) = 15 then
      F_fence wd rg rs pcv trv vav a1
    else
      if (a1 &&& 127) = 19 then
        F_computeWithImmediate wd rg rs pcv trv vav a1
      else
        if (a1 &&& 127) = 23 then
          F_finish wd rg rs pcv trv vav a1 (pcv + (F_upperImmediate a1))
        else
          if (a1 &&& 127) = 35 then
            F_store wd rg rs pcv trv vav a1
          else
            if (a1 &&& 127) = 51 then
              F_computeWithRegisters wd rg rs pcv trv vav a1
            else
              if (a1 &&& 127) = 55 then
                F_finish wd rg rs pcv trv vav a1 (F_upperImmediate a1)
              else
                if (a1 &&& 127) = 99 then
                  F_branch wd rg rs pcv trv vav a1
                else
                  if (a1 &&& 127) = 103 then
                    F_goToRegister wd rg rs pcv trv vav a1
                  else
                    if (a1 &&& 127) = 111 then
                      F_linkAndGo wd rg rs pcv trv vav a1 (pcv + (F_jumpImmediate a1))
                    else
                      if (a1 &&& 127) = 115 then
                        F_callOrBreak wd rg rs pcv trv vav a1
                      else
                        F_refuse wd rg rs pcv trv vav a1
set_option maxHeartbeats 4000000 in
set_option maxRecDepth 100000 in
theorem c_execute (l : Launch) (dC : Nat → ClassId) (dI : Nat → Nat → Nat) (x0 xw xr xg : Nat) (c1 c2 c3 : ClassId) (sz : Nat) (wd : Nat → Int32) (rg : Nat → Int32) (rs : Nat → Int32) (pcv : Int32) (trv : Int32) (vav : Int32) (dnv : Int32) (a1 : Int32)  : Met l yX0_execute wsX0_execute ({ frames := 4, cells := 0, slots := 0, locals := 88 }) (va_Pc [.ref x0, .int a1] (fun U => U.heap.size = sz ∧ va_P (dC, dI) vwCl [(x0, .inr (0, [.ref xw, .ref xr, .ref xg, .int pcv, .int trv, .int vav, .int dnv])), (xw, .inl (c1, 4096, .inl wd)), (xr, .inl (c2, 4, .inl rg)), (xg, .inl (c3, 32, .inl rs))] U.heap ∧ va_K (dC, dI) vwCl [(c1, .int), (c2, .int), (c3, .int)] U ∧ va_D (fun _ => True) [(x0, .inr (0, [.ref xw, .ref xr, .ref xg, .int pcv, .int trv, .int vav, .int dnv])), (xw, .inl (c1, 4096, .inl wd)), (xr, .inl (c2, 4, .inl rg)), (xg, .inl (c3, 32, .inl rs))])) (va_Qi (fun (r : Int32) (u : (Nat → Int32) × (Nat → Int32) × Int32 × Int32 × Int32) => narrow .boolean (.int r) = .int r ∧ (r, u) = F_execute wd rg rs pcv trv vav a1) (fun (u : (Nat → Int32) × (Nat → Int32) × Int32 × Int32 × Int32) (t : State) => va_P (dC, dI) vwCl [(x0, .inr (0, [.ref xw, .ref xr, .ref xg, .int u.2.2.1, .int u.2.2.2.1, .int u.2.2.2.2, .int dnv])), (xw, .inl (c1, 4096, .inl u.1)), (xr, .inl (c2, 4, .inl rg)), (xg, .inl (c3, 32, .inl u.2.1))] t.heap ∧ va_K (dC, dI) vwCl [(c1, .int), (c2, .int), (c3, .int)] t ∧ va_D (va_A [(x0, .inr (0, [.ref xw, .ref xr, .ref xg, .int pcv, .int trv, .int vav, .int dnv])), (xw, .inl (c1, 4096, .inl wd)), (xr, .inl (c2, 4, .inl rg)), (xg, .inl (c3, 32, .inl rs))] sz) [(x0, .inr (0, [.ref xw, .ref xr, .ref xg, .int u.2.2.1, .int u.2.2.2.1, .int u.2.2.2.2, .int dnv])), (xw, .inl (c1, 4096, .inl u.1)), (xr, .inl (c2, 4, .inl rg)), (xg, .inl (c3, 32, .inl u.2.1))]) (va_A [(x0, .inr (0, [.ref xw, .ref xr, .ref xg, .int pcv, .int trv, .int vav, .int dnv])), (xw, .inl (c1, 4096, .inl wd)), (xr, .inl (c2, 4, .inl rg)), (xg, .inl (c3, 32, .inl rs))] sz)) 0 0 (va_A [(x0, .inr (0, [.ref xw, .ref xr, .ref xg, .int pcv, .int trv, .int vav, .int dnv])), (xw, .inl (c1, 4096, .inl wd)), (xr, .inl (c2, 4, .inl rg)), (xg, .inl (c3, 32, .inl rs))] sz) := by
  refine Met.ofW (cc := cX0_execute) (maxL := 2) (ret := (some .boolean)) (by decide) rfl ?_
  intro p e s m args below meth c s₁ B hml hv
  obtain ⟨rfl, hsz, hP, hK, hD0⟩ := hv
  have hx := B.exec
  have hb := B.bytes
  have hr := B.returns
  have hts := atoms_spec (ws := wsX0_execute) B.pre
  have hown : s.vm.findClass RX0 = some m.cls := findClass_of_methodNamed B.named
  have hlocks := B.notSynchronized
  subst hsz
  have hD := hD0.self (sz := s.heap.size)
  generalize hAe : va_A [(x0, .inr (0, [.ref xw, .ref xr, .ref xg, .int pcv, .int trv, .int vav, .int dnv])), (xw, .inl (c1, 4096, .inl wd)), (xr, .inl (c2, 4, .inl rg)), (xg, .inl (c3, 32, .inl rs))] s.heap.size = A at hD ⊢
  have hA : ∀ q : Nat, s.heap.size ≤ q → A q := fun q h => by rw [← hAe]; exact Or.inr h
  have hS : va_S A s.heap s.heap [] := va_S.rf
  have hP : va_P (dC, dI) vwCl [(x0, .inr (0, [.ref xw, .ref xr, .ref xg, .int pcv, .int trv, .int vav, .int dnv])), (xw, .inl (c1, 4096, .inl wd)), (xr, .inl (c2, 4, .inl rg)), (xg, .inl (c3, 32, .inl rs))] s.heap := hP
  have hl := lv_entry ([.ref x0, .int a1]) (n := 2) (Nat.le_of_ble_eq_true rfl)
  rw [lg_entry_eq]
  generalize (lg_sl ([.ref x0, .int a1]) ++ List.replicate (2 - (lg_sl ([.ref x0, .int a1])).length) Slot.unset).toArray = ls at hl ⊢
  have hl : lv_has ls 2 [(0, .ref x0), (1, .int a1)] := hl
  refine lv_iload_n hx hb dX0_execute_0 rfl (lv_at hl 1 rfl) ?_
  refine lv_bipush (v := 127) hx hb dX0_execute_1 (by decide) ?_
  refine lv_iand hx hb dX0_execute_3 ?_
  by_cases c_1 : (a1 &&& 127) = 3
  · refine lv_lookup (tgt := 156) (off := 152) hx hb dX0_execute_4 (by decide) (by rw [c_1] <;> rfl) (by decide) ?_
    refine lv_aload_n hx hb dX0_execute_156 rfl (lv_at hl 0 rfl) ?_
    refine lv_iload_n hx hb dX0_execute_157 rfl (lv_at hl 1 rfl) ?_
    have hFc := va_free (wc := [(x0, .inr (0, [.ref xw, .ref xr, .ref xg, .int pcv, .int trv, .int vav, .int dnv])), (xw, .inl (c1, 4096, .inl wd)), (xr, .inl (c2, 4, .inl rg)), (xg, .inl (c3, 32, .inl rs))]) hD hS hA [0, 1, 2, 3] rfl
    refine va_calli (va_runV (As := [.int a1]) (rest := []) ⟨hx, hb, hml, hown, hts⟩ (c_load l dC dI x0 xw xr xg c1 c2 c3 s.heap.size wd rg rs pcv trv vav dnv a1) (cwV 1 hts (gV mL_X0_93 mI_X0_load mE_X0_load mN_X0 mC_X0_load) rfl rfl rfl (by decide +kernel) ⟨Nat.le_of_ble_eq_true rfl, Nat.le_of_ble_eq_true rfl⟩) ⟨fun a U g mk q => by obtain ⟨q0, q1, qP, qK, qD⟩ := q; exact ⟨q0, q1, qP, va_K.moved (u := U) (U := U.calling g mk a) (Vm.Alike.refl U.vm) qK, qD⟩, va_recv hK hP (ci := 0) (q0 := 0) rfl rfl, fun U hU hW => ⟨rfl, by rw [hU], by rw [hU]; exact hP, va_K.moved hW.alike hK, hD.weaken (fun _ _ _ _ => trivial)⟩⟩ rfl rfl hl.1 rfl (lv_room (Nat.le_of_ble_eq_true rfl)) dX0_execute_158 ⟨Nat.zero_le _, Nat.zero_le _⟩) hS (fun q _ h => hFc q h) hFc (fun r_2 u t H1 locs ht hvm hw hB hz1 hk1 hS => ?_)
    obtain ⟨b_3, hw⟩ := hw
    obtain ⟨wd_4, rs_5, pcv_6, trv_7, vav_8⟩ := u
    obtain ⟨hP1, hK1, hD1⟩ := hB
    rw [ht] at hP1
    obtain ⟨hP, hD⟩ := va_join (wr := []) (w1 := [(x0, .inr (0, [.ref xw, .ref xr, .ref xg, .int pcv_6, .int trv_7, .int vav_8, .int dnv])), (xw, .inl (c1, 4096, .inl wd_4)), (xr, .inl (c2, 4, .inl rg)), (xg, .inl (c3, 32, .inl rs_5))]) hP hD [0, 1, 2, 3] [] rfl rfl (by decide) (by decide) hk1 hFc hP1 hD1
    generalize H1 = H at hP hS ⊢
    have hP : va_P (dC, dI) vwCl [(x0, .inr (0, [.ref xw, .ref xr, .ref xg, .int pcv_6, .int trv_7, .int vav_8, .int dnv])), (xw, .inl (c1, 4096, .inl wd_4)), (xr, .inl (c2, 4, .inl rg)), (xg, .inl (c3, 32, .inl rs_5))] H := hP
    have hD : va_D A [(x0, .inr (0, [.ref xw, .ref xr, .ref xg, .int pcv_6, .int trv_7, .int vav_8, .int dnv])), (xw, .inl (c1, 4096, .inl wd_4)), (xr, .inl (c2, 4, .inl rg)), (xg, .inl (c3, 32, .inl rs_5))] := hD
    exact W.zret (v := r_2) (ty := .boolean) hx hb hr b_3 (fun t ht hW => ⟨⟨_, (wd_4, rs_5, pcv_6, trv_7, vav_8), rfl, ⟨b_3, (by unfold F_execute; rw [if_pos c_1]; exact hw)⟩, by rw [ht]; exact hP, va_K.moved hW.alike hK, hD⟩, hS.F ht⟩) hS.2.2 dX0_execute_161
  · by_cases c_9 : (a1 &&& 127) = 15
    · refine lv_lookup (tgt := 180) (off := 176) hx hb dX0_execute_4 (by decide) (by rw [c_9] <;> rfl) (by decide) ?_
      refine lv_aload_n hx hb dX0_execute_180 rfl (lv_at hl 0 rfl) ?_
      refine lv_iload_n hx hb dX0_execute_181 rfl (lv_at hl 1 rfl) ?_
      have hFc := va_free (wc := [(x0, .inr (0, [.ref xw, .ref xr, .ref xg, .int pcv, .int trv, .int vav, .int dnv])), (xw, .inl (c1, 4096, .inl wd)), (xr, .inl (c2, 4, .inl rg)), (xg, .inl (c3, 32, .inl rs))]) hD hS hA [0, 1, 2, 3] rfl
      refine va_calli (va_runV (As := [.int a1]) (rest := []) ⟨hx, hb, hml, hown, hts⟩ (c_fence l dC dI x0 xw xr xg c1 c2 c3 s.heap.size wd rg rs pcv trv vav dnv a1) (cwV 1 hts (gV mL_X0_105 mI_X0_fence mE_X0_fence mN_X0 mC_X0_fence) rfl rfl rfl (by decide +kernel) ⟨Nat.le_of_ble_eq_true rfl, Nat.le_of_ble_eq_true rfl⟩) ⟨fun a U g mk q => by obtain ⟨q0, q1, qP, qK, qD⟩ := q; exact ⟨q0, q1, qP, va_K.moved (u := U) (U := U.calling g mk a) (Vm.Alike.refl U.vm) qK, qD⟩, va_recv hK hP (ci := 0) (q0 := 0) rfl rfl, fun U hU hW => ⟨rfl, by rw [hU], by rw [hU]; exact hP, va_K.moved hW.alike hK, hD.weaken (fun _ _ _ _ => trivial)⟩⟩ rfl rfl hl.1 rfl (lv_room (Nat.le_of_ble_eq_true rfl)) dX0_execute_182 ⟨Nat.zero_le _, Nat.zero_le _⟩) hS (fun q _ h => hFc q h) hFc (fun r_10 u t H1 locs ht hvm hw hB hz1 hk1 hS => ?_)
      obtain ⟨b_11, hw⟩ := hw
      obtain ⟨wd_12, rs_13, pcv_14, trv_15, vav_16⟩ := u
      obtain ⟨hP1, hK1, hD1⟩ := hB
      rw [ht] at hP1
      obtain ⟨hP, hD⟩ := va_join (wr := []) (w1 := [(x0, .inr (0, [.ref xw, .ref xr, .ref xg, .int pcv_14, .int trv_15, .int vav_16, .int dnv])), (xw, .inl (c1, 4096, .inl wd_12)), (xr, .inl (c2, 4, .inl rg)), (xg, .inl (c3, 32, .inl rs_13))]) hP hD [0, 1, 2, 3] [] rfl rfl (by decide) (by decide) hk1 hFc hP1 hD1
      generalize H1 = H at hP hS ⊢
      have hP : va_P (dC, dI) vwCl [(x0, .inr (0, [.ref xw, .ref xr, .ref xg, .int pcv_14, .int trv_15, .int vav_16, .int dnv])), (xw, .inl (c1, 4096, .inl wd_12)), (xr, .inl (c2, 4, .inl rg)), (xg, .inl (c3, 32, .inl rs_13))] H := hP
      have hD : va_D A [(x0, .inr (0, [.ref xw, .ref xr, .ref xg, .int pcv_14, .int trv_15, .int vav_16, .int dnv])), (xw, .inl (c1, 4096, .inl wd_12)), (xr, .inl (c2, 4, .inl rg)), (xg, .inl (c3, 32, .inl rs_13))] := hD
      exact W.zret (v := r_10) (ty := .boolean) hx hb hr b_11 (fun t ht hW => ⟨⟨_, (wd_12, rs_13, pcv_14, trv_15, vav_16), rfl, ⟨b_11, (by unfold F_execute; rw [if_neg c_1, if_pos c_9]; exact hw)⟩, by rw [ht]; exact hP, va_K.moved hW.alike hK, hD⟩, hS.F ht⟩) hS.2.2 dX0_execute_185
    · by_cases c_17 : (a1 &&& 127) = 19
      · refine lv_lookup (tgt := 168) (off := 164) hx hb dX0_execute_4 (by decide) (by rw [c_17] <;> rfl) (by decide) ?_
        refine lv_aload_n hx hb dX0_execute_168 rfl (lv_at hl 0 rfl) ?_
        refine lv_iload_n hx hb dX0_execute_169 rfl (lv_at hl 1 rfl) ?_
        have hFc := va_free (wc := [(x0, .inr (0, [.ref xw, .ref xr, .ref xg, .int pcv, .int trv, .int vav, .int dnv])), (xw, .inl (c1, 4096, .inl wd)), (xr, .inl (c2, 4, .inl rg)), (xg, .inl (c3, 32, .inl rs))]) hD hS hA [0, 1, 2, 3] rfl
        refine va_calli (va_runV (As := [.int a1]) (rest := []) ⟨hx, hb, hml, hown, hts⟩ (c_computeWithImmediate l dC dI x0 xw xr xg c1 c2 c3 s.heap.size wd rg rs pcv trv vav dnv a1) (cwV 1 hts (gV mL_X0_99 mI_X0_computeWithImmediate mE_X0_computeWithImmediate mN_X0 mC_X0_computeWithImmediate) rfl rfl rfl (by decide +kernel) ⟨Nat.le_of_ble_eq_true rfl, Nat.le_of_ble_eq_true rfl⟩) ⟨fun a U g mk q => by obtain ⟨q0, q1, qP, qK, qD⟩ := q; exact ⟨q0, q1, qP, va_K.moved (u := U) (U := U.calling g mk a) (Vm.Alike.refl U.vm) qK, qD⟩, va_recv hK hP (ci := 0) (q0 := 0) rfl rfl, fun U hU hW => ⟨rfl, by rw [hU], by rw [hU]; exact hP, va_K.moved hW.alike hK, hD.weaken (fun _ _ _ _ => trivial)⟩⟩ rfl rfl hl.1 rfl (lv_room (Nat.le_of_ble_eq_true rfl)) dX0_execute_170 ⟨Nat.zero_le _, Nat.zero_le _⟩) hS (fun q _ h => hFc q h) hFc (fun r_18 u t H1 locs ht hvm hw hB hz1 hk1 hS => ?_)
        obtain ⟨b_19, hw⟩ := hw
        obtain ⟨wd_20, rs_21, pcv_22, trv_23, vav_24⟩ := u
        obtain ⟨hP1, hK1, hD1⟩ := hB
        rw [ht] at hP1
        obtain ⟨hP, hD⟩ := va_join (wr := []) (w1 := [(x0, .inr (0, [.ref xw, .ref xr, .ref xg, .int pcv_22, .int trv_23, .int vav_24, .int dnv])), (xw, .inl (c1, 4096, .inl wd_20)), (xr, .inl (c2, 4, .inl rg)), (xg, .inl (c3, 32, .inl rs_21))]) hP hD [0, 1, 2, 3] [] rfl rfl (by decide) (by decide) hk1 hFc hP1 hD1
        generalize H1 = H at hP hS ⊢
        have hP : va_P (dC, dI) vwCl [(x0, .inr (0, [.ref xw, .ref xr, .ref xg, .int pcv_22, .int trv_23, .int vav_24, .int dnv])), (xw, .inl (c1, 4096, .inl wd_20)), (xr, .inl (c2, 4, .inl rg)), (xg, .inl (c3, 32, .inl rs_21))] H := hP
        have hD : va_D A [(x0, .inr (0, [.ref xw, .ref xr, .ref xg, .int pcv_22, .int trv_23, .int vav_24, .int dnv])), (xw, .inl (c1, 4096, .inl wd_20)), (xr, .inl (c2, 4, .inl rg)), (xg, .inl (c3, 32, .inl rs_21))] := hD
        exact W.zret (v := r_18) (ty := .boolean) hx hb hr b_19 (fun t ht hW => ⟨⟨_, (wd_20, rs_21, pcv_22, trv_23, vav_24), rfl, ⟨b_19, (by unfold F_execute; rw [if_neg c_1, if_neg c_9, if_pos c_17]; exact hw)⟩, by rw [ht]; exact hP, va_K.moved hW.alike hK, hD⟩, hS.F ht⟩) hS.2.2 dX0_execute_173
      · by_cases c_25 : (a1 &&& 127) = 23
        · refine lv_lookup (tgt := 114) (off := 110) hx hb dX0_execute_4 (by decide) (by rw [c_25] <;> rfl) (by decide) ?_
          refine lv_aload_n hx hb dX0_execute_114 rfl (lv_at hl 0 rfl) ?_
          refine lv_iload_n hx hb dX0_execute_115 rfl (lv_at hl 1 rfl) ?_
          refine lv_aload_n hx hb dX0_execute_116 rfl (lv_at hl 0 rfl) ?_
          refine va_get (D := (dC, dI)) (ci := 0) (v := .int pcv) (C := RX0) (T := TX0) (N := 7) hx hb hts (gw_lay lay_X0) hown hK hP 0 rfl rfl 3 (by decide) (hts _ (gcons mF_X0_19)) (fun _ h9 => h9) rfl dX0_execute_117 ?_
          refine lv_iload_n hx hb dX0_execute_120 rfl (lv_at hl 1 rfl) ?_
          refine vp_callSi (W.runS (As := [.int a1]) (rest := [.int pcv, .int a1, .ref x0]) ⟨hx, hb, hml, hown, hts⟩ (c_upperImmediate l a1) (cwS 1 hts (gS mL_X0_75 mS_X0_upperImmediate mN_X0 mC_X0_upperImmediate) rfl rfl rfl (by decide +kernel) ⟨Nat.le_of_ble_eq_true rfl, Nat.le_of_ble_eq_true rfl⟩) preEq rfl rfl hl.1 rfl (lv_room (Nat.le_of_ble_eq_true rfl)) dX0_execute_121 ⟨Nat.zero_le _, Nat.zero_le _⟩) (fun r_26 hw => ?_)
          subst hw
          refine lv_iadd hx hb dX0_execute_124 ?_
          have hFc := va_free (wc := [(x0, .inr (0, [.ref xw, .ref xr, .ref xg, .int pcv, .int trv, .int vav, .int dnv])), (xw, .inl (c1, 4096, .inl wd)), (xr, .inl (c2, 4, .inl rg)), (xg, .inl (c3, 32, .inl rs))]) hD hS hA [0, 1, 2, 3] rfl
          refine va_calli (va_runV (As := [.int a1, .int (pcv + (F_upperImmediate a1))]) (rest := []) ⟨hx, hb, hml, hown, hts⟩ (c_finish l dC dI x0 xw xr xg c1 c2 c3 s.heap.size wd rg rs pcv trv vav dnv a1 (pcv + (F_upperImmediate a1))) (cwV 2 hts (gV mL_X0_78 mI_X0_finish mE_X0_finish mN_X0 mC_X0_finish) rfl rfl rfl (by decide +kernel) ⟨Nat.le_of_ble_eq_true rfl, Nat.le_of_ble_eq_true rfl⟩) ⟨fun a U g mk q => by obtain ⟨q0, q1, qP, qK, qD⟩ := q; exact ⟨q0, q1, qP, va_K.moved (u := U) (U := U.calling g mk a) (Vm.Alike.refl U.vm) qK, qD⟩, va_recv hK hP (ci := 0) (q0 := 0) rfl rfl, fun U hU hW => ⟨rfl, by rw [hU], by rw [hU]; exact hP, va_K.moved hW.alike hK, hD.weaken (fun _ _ _ _ => trivial)⟩⟩ rfl rfl hl.1 rfl (lv_room (Nat.le_of_ble_eq_true rfl)) dX0_execute_125 ⟨Nat.zero_le _, Nat.zero_le _⟩) hS (fun q _ h => hFc q h) hFc (fun r_27 u t H1 locs ht hvm hw hB hz1 hk1 hS => ?_)
          obtain ⟨b_28, hw⟩ := hw
          obtain ⟨wd_29, rs_30, pcv_31, trv_32, vav_33⟩ := u
          obtain ⟨hP1, hK1, hD1⟩ := hB
          rw [ht] at hP1
          obtain ⟨hP, hD⟩ := va_join (wr := []) (w1 := [(x0, .inr (0, [.ref xw, .ref xr, .ref xg, .int pcv_31, .int trv_32, .int vav_33, .int dnv])), (xw, .inl (c1, 4096, .inl wd_29)), (xr, .inl (c2, 4, .inl rg)), (xg, .inl (c3, 32, .inl rs_30))]) hP hD [0, 1, 2, 3] [] rfl rfl (by decide) (by decide) hk1 hFc hP1 hD1
          generalize H1 = H at hP hS ⊢
          have hP : va_P (dC, dI) vwCl [(x0, .inr (0, [.ref xw, .ref xr, .ref xg, .int pcv_31, .int trv_32, .int vav_33, .int dnv])), (xw, .inl (c1, 4096, .inl wd_29)), (xr, .inl (c2, 4, .inl rg)), (xg, .inl (c3, 32, .inl rs_30))] H := hP
          have hD : va_D A [(x0, .inr (0, [.ref xw, .ref xr, .ref xg, .int pcv_31, .int trv_32, .int vav_33, .int dnv])), (xw, .inl (c1, 4096, .inl wd_29)), (xr, .inl (c2, 4, .inl rg)), (xg, .inl (c3, 32, .inl rs_30))] := hD
          exact W.zret (v := r_27) (ty := .boolean) hx hb hr b_28 (fun t ht hW => ⟨⟨_, (wd_29, rs_30, pcv_31, trv_32, vav_33), rfl, ⟨b_28, (by unfold F_execute; rw [if_neg c_1, if_neg c_9, if_neg c_17, if_pos c_25]; exact hw)⟩, by rw [ht]; exact hP, va_K.moved hW.alike hK, hD⟩, hS.F ht⟩) hS.2.2 dX0_execute_128
        · by_cases c_34 : (a1 &&& 127) = 35
          · refine lv_lookup (tgt := 162) (off := 158) hx hb dX0_execute_4 (by decide) (by rw [c_34] <;> rfl) (by decide) ?_
            refine lv_aload_n hx hb dX0_execute_162 rfl (lv_at hl 0 rfl) ?_
            refine lv_iload_n hx hb dX0_execute_163 rfl (lv_at hl 1 rfl) ?_
            have hFc := va_free (wc := [(x0, .inr (0, [.ref xw, .ref xr, .ref xg, .int pcv, .int trv, .int vav, .int dnv])), (xw, .inl (c1, 4096, .inl wd)), (xr, .inl (c2, 4, .inl rg)), (xg, .inl (c3, 32, .inl rs))]) hD hS hA [0, 1, 2, 3] rfl
            refine va_calli (va_runV (As := [.int a1]) (rest := []) ⟨hx, hb, hml, hown, hts⟩ (c_store l dC dI x0 xw xr xg c1 c2 c3 s.heap.size wd rg rs pcv trv vav dnv a1) (cwV 1 hts (gV mL_X0_96 mI_X0_store mE_X0_store mN_X0 mC_X0_store) rfl rfl rfl (by decide +kernel) ⟨Nat.le_of_ble_eq_true rfl, Nat.le_of_ble_eq_true rfl⟩) ⟨fun a U g mk q => by obtain ⟨q0, q1, qP, qK, qD⟩ := q; exact ⟨q0, q1, qP, va_K.moved (u := U) (U := U.calling g mk a) (Vm.Alike.refl U.vm) qK, qD⟩, va_recv hK hP (ci := 0) (q0 := 0) rfl rfl, fun U hU hW => ⟨rfl, by rw [hU], by rw [hU]; exact hP, va_K.moved hW.alike hK, hD.weaken (fun _ _ _ _ => trivial)⟩⟩ rfl rfl hl.1 rfl (lv_room (Nat.le_of_ble_eq_true rfl)) dX0_execute_164 ⟨Nat.zero_le _, Nat.zero_le _⟩) hS (fun q _ h => hFc q h) hFc (fun r_35 u t H1 locs ht hvm hw hB hz1 hk1 hS => ?_)
            obtain ⟨b_36, hw⟩ := hw
            obtain ⟨wd_37, rs_38, pcv_39, trv_40, vav_41⟩ := u
            obtain ⟨hP1, hK1, hD1⟩ := hB
            rw [ht] at hP1
            obtain ⟨hP, hD⟩ := va_join (wr := []) (w1 := [(x0, .inr (0, [.ref xw, .ref xr, .ref xg, .int pcv_39, .int trv_40, .int vav_41, .int dnv])), (xw, .inl (c1, 4096, .inl wd_37)), (xr, .inl (c2, 4, .inl rg)), (xg, .inl (c3, 32, .inl rs_38))]) hP hD [0, 1, 2, 3] [] rfl rfl (by decide) (by decide) hk1 hFc hP1 hD1
            generalize H1 = H at hP hS ⊢
            have hP : va_P (dC, dI) vwCl [(x0, .inr (0, [.ref xw, .ref xr, .ref xg, .int pcv_39, .int trv_40, .int vav_41, .int dnv])), (xw, .inl (c1, 4096, .inl wd_37)), (xr, .inl (c2, 4, .inl rg)), (xg, .inl (c3, 32, .inl rs_38))] H := hP
            have hD : va_D A [(x0, .inr (0, [.ref xw, .ref xr, .ref xg, .int pcv_39, .int trv_40, .int vav_41, .int dnv])), (xw, .inl (c1, 4096, .inl wd_37)), (xr, .inl (c2, 4, .inl rg)), (xg, .inl (c3, 32, .inl rs_38))] := hD
            exact W.zret (v := r_35) (ty := .boolean) hx hb hr b_36 (fun t ht hW => ⟨⟨_, (wd_37, rs_38, pcv_39, trv_40, vav_41), rfl, ⟨b_36, (by unfold F_execute; rw [if_neg c_1, if_neg c_9, if_neg c_17, if_neg c_25, if_pos c_34]; exact hw)⟩, by rw [ht]; exact hP, va_K.moved hW.alike hK, hD⟩, hS.F ht⟩) hS.2.2 dX0_execute_167
          · by_cases c_42 : (a1 &&& 127) = 51
            · refine lv_lookup (tgt := 174) (off := 170) hx hb dX0_execute_4 (by decide) (by rw [c_42] <;> rfl) (by decide) ?_
              refine lv_aload_n hx hb dX0_execute_174 rfl (lv_at hl 0 rfl) ?_
              refine lv_iload_n hx hb dX0_execute_175 rfl (lv_at hl 1 rfl) ?_
              have hFc := va_free (wc := [(x0, .inr (0, [.ref xw, .ref xr, .ref xg, .int pcv, .int trv, .int vav, .int dnv])), (xw, .inl (c1, 4096, .inl wd)), (xr, .inl (c2, 4, .inl rg)), (xg, .inl (c3, 32, .inl rs))]) hD hS hA [0, 1, 2, 3] rfl
              refine va_calli (va_runV (As := [.int a1]) (rest := []) ⟨hx, hb, hml, hown, hts⟩ (c_computeWithRegisters l dC dI x0 xw xr xg c1 c2 c3 s.heap.size wd rg rs pcv trv vav dnv a1) (cwV 1 hts (gV mL_X0_102 mI_X0_computeWithRegisters mE_X0_computeWithRegisters mN_X0 mC_X0_computeWithRegisters) rfl rfl rfl (by decide +kernel) ⟨Nat.le_of_ble_eq_true rfl, Nat.le_of_ble_eq_true rfl⟩) ⟨fun a U g mk q => by obtain ⟨q0, q1, qP, qK, qD⟩ := q; exact ⟨q0, q1, qP, va_K.moved (u := U) (U := U.calling g mk a) (Vm.Alike.refl U.vm) qK, qD⟩, va_recv hK hP (ci := 0) (q0 := 0) rfl rfl, fun U hU hW => ⟨rfl, by rw [hU], by rw [hU]; exact hP, va_K.moved hW.alike hK, hD.weaken (fun _ _ _ _ => trivial)⟩⟩ rfl rfl hl.1 rfl (lv_room (Nat.le_of_ble_eq_true rfl)) dX0_execute_176 ⟨Nat.zero_le _, Nat.zero_le _⟩) hS (fun q _ h => hFc q h) hFc (fun r_43 u t H1 locs ht hvm hw hB hz1 hk1 hS => ?_)
              obtain ⟨b_44, hw⟩ := hw
              obtain ⟨wd_45, rs_46, pcv_47, trv_48, vav_49⟩ := u
              obtain ⟨hP1, hK1, hD1⟩ := hB
              rw [ht] at hP1
              obtain ⟨hP, hD⟩ := va_join (wr := []) (w1 := [(x0, .inr (0, [.ref xw, .ref xr, .ref xg, .int pcv_47, .int trv_48, .int vav_49, .int dnv])), (xw, .inl (c1, 4096, .inl wd_45)), (xr, .inl (c2, 4, .inl rg)), (xg, .inl (c3, 32, .inl rs_46))]) hP hD [0, 1, 2, 3] [] rfl rfl (by decide) (by decide) hk1 hFc hP1 hD1
              generalize H1 = H at hP hS ⊢
              have hP : va_P (dC, dI) vwCl [(x0, .inr (0, [.ref xw, .ref xr, .ref xg, .int pcv_47, .int trv_48, .int vav_49, .int dnv])), (xw, .inl (c1, 4096, .inl wd_45)), (xr, .inl (c2, 4, .inl rg)), (xg, .inl (c3, 32, .inl rs_46))] H := hP
              have hD : va_D A [(x0, .inr (0, [.ref xw, .ref xr, .ref xg, .int pcv_47, .int trv_48, .int vav_49, .int dnv])), (xw, .inl (c1, 4096, .inl wd_45)), (xr, .inl (c2, 4, .inl rg)), (xg, .inl (c3, 32, .inl rs_46))] := hD
              exact W.zret (v := r_43) (ty := .boolean) hx hb hr b_44 (fun t ht hW => ⟨⟨_, (wd_45, rs_46, pcv_47, trv_48, vav_49), rfl, ⟨b_44, (by unfold F_execute; rw [if_neg c_1, if_neg c_9, if_neg c_17, if_neg c_25, if_neg c_34, if_pos c_42]; exact hw)⟩, by rw [ht]; exact hP, va_K.moved hW.alike hK, hD⟩, hS.F ht⟩) hS.2.2 dX0_execute_179
            · by_cases c_50 : (a1 &&& 127) = 55
              · refine lv_lookup (tgt := 104) (off := 100) hx hb dX0_execute_4 (by decide) (by rw [c_50] <;> rfl) (by decide) ?_
                refine lv_aload_n hx hb dX0_execute_104 rfl (lv_at hl 0 rfl) ?_
                refine lv_iload_n hx hb dX0_execute_105 rfl (lv_at hl 1 rfl) ?_
                refine lv_iload_n hx hb dX0_execute_106 rfl (lv_at hl 1 rfl) ?_
                refine vp_callSi (W.runS (As := [.int a1]) (rest := [.int a1, .ref x0]) ⟨hx, hb, hml, hown, hts⟩ (c_upperImmediate l a1) (cwS 1 hts (gS mL_X0_75 mS_X0_upperImmediate mN_X0 mC_X0_upperImmediate) rfl rfl rfl (by decide +kernel) ⟨Nat.le_of_ble_eq_true rfl, Nat.le_of_ble_eq_true rfl⟩) preEq rfl rfl hl.1 rfl (lv_room (Nat.le_of_ble_eq_true rfl)) dX0_execute_107 ⟨Nat.zero_le _, Nat.zero_le _⟩) (fun r_51 hw => ?_)
                subst hw
                have hFc := va_free (wc := [(x0, .inr (0, [.ref xw, .ref xr, .ref xg, .int pcv, .int trv, .int vav, .int dnv])), (xw, .inl (c1, 4096, .inl wd)), (xr, .inl (c2, 4, .inl rg)), (xg, .inl (c3, 32, .inl rs))]) hD hS hA [0, 1, 2, 3] rfl
                refine va_calli (va_runV (As := [.int a1, .int (F_upperImmediate a1)]) (rest := []) ⟨hx, hb, hml, hown, hts⟩ (c_finish l dC dI x0 xw xr xg c1 c2 c3 s.heap.size wd rg rs pcv trv vav dnv a1 (F_upperImmediate a1)) (cwV 2 hts (gV mL_X0_78 mI_X0_finish mE_X0_finish mN_X0 mC_X0_finish) rfl rfl rfl (by decide +kernel) ⟨Nat.le_of_ble_eq_true rfl, Nat.le_of_ble_eq_true rfl⟩) ⟨fun a U g mk q => by obtain ⟨q0, q1, qP, qK, qD⟩ := q; exact ⟨q0, q1, qP, va_K.moved (u := U) (U := U.calling g mk a) (Vm.Alike.refl U.vm) qK, qD⟩, va_recv hK hP (ci := 0) (q0 := 0) rfl rfl, fun U hU hW => ⟨rfl, by rw [hU], by rw [hU]; exact hP, va_K.moved hW.alike hK, hD.weaken (fun _ _ _ _ => trivial)⟩⟩ rfl rfl hl.1 rfl (lv_room (Nat.le_of_ble_eq_true rfl)) dX0_execute_110 ⟨Nat.zero_le _, Nat.zero_le _⟩) hS (fun q _ h => hFc q h) hFc (fun r_52 u t H1 locs ht hvm hw hB hz1 hk1 hS => ?_)
                obtain ⟨b_53, hw⟩ := hw
                obtain ⟨wd_54, rs_55, pcv_56, trv_57, vav_58⟩ := u
                obtain ⟨hP1, hK1, hD1⟩ := hB
                rw [ht] at hP1
                obtain ⟨hP, hD⟩ := va_join (wr := []) (w1 := [(x0, .inr (0, [.ref xw, .ref xr, .ref xg, .int pcv_56, .int trv_57, .int vav_58, .int dnv])), (xw, .inl (c1, 4096, .inl wd_54)), (xr, .inl (c2, 4, .inl rg)), (xg, .inl (c3, 32, .inl rs_55))]) hP hD [0, 1, 2, 3] [] rfl rfl (by decide) (by decide) hk1 hFc hP1 hD1
                generalize H1 = H at hP hS ⊢
                have hP : va_P (dC, dI) vwCl [(x0, .inr (0, [.ref xw, .ref xr, .ref xg, .int pcv_56, .int trv_57, .int vav_58, .int dnv])), (xw, .inl (c1, 4096, .inl wd_54)), (xr, .inl (c2, 4, .inl rg)), (xg, .inl (c3, 32, .inl rs_55))] H := hP
                have hD : va_D A [(x0, .inr (0, [.ref xw, .ref xr, .ref xg, .int pcv_56, .int trv_57, .int vav_58, .int dnv])), (xw, .inl (c1, 4096, .inl wd_54)), (xr, .inl (c2, 4, .inl rg)), (xg, .inl (c3, 32, .inl rs_55))] := hD
                exact W.zret (v := r_52) (ty := .boolean) hx hb hr b_53 (fun t ht hW => ⟨⟨_, (wd_54, rs_55, pcv_56, trv_57, vav_58), rfl, ⟨b_53, (by unfold F_execute; rw [if_neg c_1, if_neg c_9, if_neg c_17, if_neg c_25, if_neg c_34, if_neg c_42, if_pos c_50]; exact hw)⟩, by rw [ht]; exact hP, va_K.moved hW.alike hK, hD⟩, hS.F ht⟩) hS.2.2 dX0_execute_113
              · by_cases c_59 : (a1 &&& 127) = 99
                · refine lv_lookup (tgt := 150) (off := 146) hx hb dX0_execute_4 (by decide) (by rw [c_59] <;> rfl) (by decide) ?_
                  refine lv_aload_n hx hb dX0_execute_150 rfl (lv_at hl 0 rfl) ?_
                  refine lv_iload_n hx hb dX0_execute_151 rfl (lv_at hl 1 rfl) ?_
                  have hFc := va_free (wc := [(x0, .inr (0, [.ref xw, .ref xr, .ref xg, .int pcv, .int trv, .int vav, .int dnv])), (xw, .inl (c1, 4096, .inl wd)), (xr, .inl (c2, 4, .inl rg)), (xg, .inl (c3, 32, .inl rs))]) hD hS hA [0, 1, 2, 3] rfl
                  refine va_calli (va_runV (As := [.int a1]) (rest := []) ⟨hx, hb, hml, hown, hts⟩ (c_branch l dC dI x0 xw xr xg c1 c2 c3 s.heap.size wd rg rs pcv trv vav dnv a1) (cwV 1 hts (gV mL_X0_90 mI_X0_branch mE_X0_branch mN_X0 mC_X0_branch) rfl rfl rfl (by decide +kernel) ⟨Nat.le_of_ble_eq_true rfl, Nat.le_of_ble_eq_true rfl⟩) ⟨fun a U g mk q => by obtain ⟨q0, q1, qP, qK, qD⟩ := q; exact ⟨q0, q1, qP, va_K.moved (u := U) (U := U.calling g mk a) (Vm.Alike.refl U.vm) qK, qD⟩, va_recv hK hP (ci := 0) (q0 := 0) rfl rfl, fun U hU hW => ⟨rfl, by rw [hU], by rw [hU]; exact hP, va_K.moved hW.alike hK, hD.weaken (fun _ _ _ _ => trivial)⟩⟩ rfl rfl hl.1 rfl (lv_room (Nat.le_of_ble_eq_true rfl)) dX0_execute_152 ⟨Nat.zero_le _, Nat.zero_le _⟩) hS (fun q _ h => hFc q h) hFc (fun r_60 u t H1 locs ht hvm hw hB hz1 hk1 hS => ?_)
                  obtain ⟨b_61, hw⟩ := hw
                  obtain ⟨wd_62, rs_63, pcv_64, trv_65, vav_66⟩ := u
                  obtain ⟨hP1, hK1, hD1⟩ := hB
                  rw [ht] at hP1
                  obtain ⟨hP, hD⟩ := va_join (wr := []) (w1 := [(x0, .inr (0, [.ref xw, .ref xr, .ref xg, .int pcv_64, .int trv_65, .int vav_66, .int dnv])), (xw, .inl (c1, 4096, .inl wd_62)), (xr, .inl (c2, 4, .inl rg)), (xg, .inl (c3, 32, .inl rs_63))]) hP hD [0, 1, 2, 3] [] rfl rfl (by decide) (by decide) hk1 hFc hP1 hD1
                  generalize H1 = H at hP hS ⊢
                  have hP : va_P (dC, dI) vwCl [(x0, .inr (0, [.ref xw, .ref xr, .ref xg, .int pcv_64, .int trv_65, .int vav_66, .int dnv])), (xw, .inl (c1, 4096, .inl wd_62)), (xr, .inl (c2, 4, .inl rg)), (xg, .inl (c3, 32, .inl rs_63))] H := hP
                  have hD : va_D A [(x0, .inr (0, [.ref xw, .ref xr, .ref xg, .int pcv_64, .int trv_65, .int vav_66, .int dnv])), (xw, .inl (c1, 4096, .inl wd_62)), (xr, .inl (c2, 4, .inl rg)), (xg, .inl (c3, 32, .inl rs_63))] := hD
                  exact W.zret (v := r_60) (ty := .boolean) hx hb hr b_61 (fun t ht hW => ⟨⟨_, (wd_62, rs_63, pcv_64, trv_65, vav_66), rfl, ⟨b_61, (by unfold F_execute; rw [if_neg c_1, if_neg c_9, if_neg c_17, if_neg c_25, if_neg c_34, if_neg c_42, if_neg c_50, if_pos c_59]; exact hw)⟩, by rw [ht]; exact hP, va_K.moved hW.alike hK, hD⟩, hS.F ht⟩) hS.2.2 dX0_execute_155
                · by_cases c_67 : (a1 &&& 127) = 103
                  · refine lv_lookup (tgt := 144) (off := 140) hx hb dX0_execute_4 (by decide) (by rw [c_67] <;> rfl) (by decide) ?_
                    refine lv_aload_n hx hb dX0_execute_144 rfl (lv_at hl 0 rfl) ?_
                    refine lv_iload_n hx hb dX0_execute_145 rfl (lv_at hl 1 rfl) ?_
                    have hFc := va_free (wc := [(x0, .inr (0, [.ref xw, .ref xr, .ref xg, .int pcv, .int trv, .int vav, .int dnv])), (xw, .inl (c1, 4096, .inl wd)), (xr, .inl (c2, 4, .inl rg)), (xg, .inl (c3, 32, .inl rs))]) hD hS hA [0, 1, 2, 3] rfl
                    refine va_calli (va_runV (As := [.int a1]) (rest := []) ⟨hx, hb, hml, hown, hts⟩ (c_goToRegister l dC dI x0 xw xr xg c1 c2 c3 s.heap.size wd rg rs pcv trv vav dnv a1) (cwV 1 hts (gV mL_X0_87 mI_X0_goToRegister mE_X0_goToRegister mN_X0 mC_X0_goToRegister) rfl rfl rfl (by decide +kernel) ⟨Nat.le_of_ble_eq_true rfl, Nat.le_of_ble_eq_true rfl⟩) ⟨fun a U g mk q => by obtain ⟨q0, q1, qP, qK, qD⟩ := q; exact ⟨q0, q1, qP, va_K.moved (u := U) (U := U.calling g mk a) (Vm.Alike.refl U.vm) qK, qD⟩, va_recv hK hP (ci := 0) (q0 := 0) rfl rfl, fun U hU hW => ⟨rfl, by rw [hU], by rw [hU]; exact hP, va_K.moved hW.alike hK, hD.weaken (fun _ _ _ _ => trivial)⟩⟩ rfl rfl hl.1 rfl (lv_room (Nat.le_of_ble_eq_true rfl)) dX0_execute_146 ⟨Nat.zero_le _, Nat.zero_le _⟩) hS (fun q _ h => hFc q h) hFc (fun r_68 u t H1 locs ht hvm hw hB hz1 hk1 hS => ?_)
                    obtain ⟨b_69, hw⟩ := hw
                    obtain ⟨wd_70, rs_71, pcv_72, trv_73, vav_74⟩ := u
                    obtain ⟨hP1, hK1, hD1⟩ := hB
                    rw [ht] at hP1
                    obtain ⟨hP, hD⟩ := va_join (wr := []) (w1 := [(x0, .inr (0, [.ref xw, .ref xr, .ref xg, .int pcv_72, .int trv_73, .int vav_74, .int dnv])), (xw, .inl (c1, 4096, .inl wd_70)), (xr, .inl (c2, 4, .inl rg)), (xg, .inl (c3, 32, .inl rs_71))]) hP hD [0, 1, 2, 3] [] rfl rfl (by decide) (by decide) hk1 hFc hP1 hD1
                    generalize H1 = H at hP hS ⊢
                    have hP : va_P (dC, dI) vwCl [(x0, .inr (0, [.ref xw, .ref xr, .ref xg, .int pcv_72, .int trv_73, .int vav_74, .int dnv])), (xw, .inl (c1, 4096, .inl wd_70)), (xr, .inl (c2, 4, .inl rg)), (xg, .inl (c3, 32, .inl rs_71))] H := hP
                    have hD : va_D A [(x0, .inr (0, [.ref xw, .ref xr, .ref xg, .int pcv_72, .int trv_73, .int vav_74, .int dnv])), (xw, .inl (c1, 4096, .inl wd_70)), (xr, .inl (c2, 4, .inl rg)), (xg, .inl (c3, 32, .inl rs_71))] := hD
                    exact W.zret (v := r_68) (ty := .boolean) hx hb hr b_69 (fun t ht hW => ⟨⟨_, (wd_70, rs_71, pcv_72, trv_73, vav_74), rfl, ⟨b_69, (by unfold F_execute; rw [if_neg c_1, if_neg c_9, if_neg c_17, if_neg c_25, if_neg c_34, if_neg c_42, if_neg c_50, if_neg c_59, if_pos c_67]; exact hw)⟩, by rw [ht]; exact hP, va_K.moved hW.alike hK, hD⟩, hS.F ht⟩) hS.2.2 dX0_execute_149
                  · by_cases c_75 : (a1 &&& 127) = 111
                    · refine lv_lookup (tgt := 129) (off := 125) hx hb dX0_execute_4 (by decide) (by rw [c_75] <;> rfl) (by decide) ?_
                      refine lv_aload_n hx hb dX0_execute_129 rfl (lv_at hl 0 rfl) ?_
                      refine lv_iload_n hx hb dX0_execute_130 rfl (lv_at hl 1 rfl) ?_
                      refine lv_aload_n hx hb dX0_execute_131 rfl (lv_at hl 0 rfl) ?_
                      refine va_get (D := (dC, dI)) (ci := 0) (v := .int pcv) (C := RX0) (T := TX0) (N := 7) hx hb hts (gw_lay lay_X0) hown hK hP 0 rfl rfl 3 (by decide) (hts _ (gcons mF_X0_19)) (fun _ h9 => h9) rfl dX0_execute_132 ?_
                      refine lv_iload_n hx hb dX0_execute_135 rfl (lv_at hl 1 rfl) ?_
                      refine vp_callSi (W.runS (As := [.int a1]) (rest := [.int pcv, .int a1, .ref x0]) ⟨hx, hb, hml, hown, hts⟩ (c_jumpImmediate l a1) (cwS 1 hts (gS mL_X0_81 mS_X0_jumpImmediate mN_X0 mC_X0_jumpImmediate) rfl rfl rfl (by decide +kernel) ⟨Nat.le_of_ble_eq_true rfl, Nat.le_of_ble_eq_true rfl⟩) preEq rfl rfl hl.1 rfl (lv_room (Nat.le_of_ble_eq_true rfl)) dX0_execute_136 ⟨Nat.zero_le _, Nat.zero_le _⟩) (fun r_76 hw => ?_)
                      subst hw
                      refine lv_iadd hx hb dX0_execute_139 ?_
                      have hFc := va_free (wc := [(x0, .inr (0, [.ref xw, .ref xr, .ref xg, .int pcv, .int trv, .int vav, .int dnv])), (xw, .inl (c1, 4096, .inl wd)), (xr, .inl (c2, 4, .inl rg)), (xg, .inl (c3, 32, .inl rs))]) hD hS hA [0, 1, 2, 3] rfl
                      refine va_calli (va_runV (As := [.int a1, .int (pcv + (F_jumpImmediate a1))]) (rest := []) ⟨hx, hb, hml, hown, hts⟩ (c_linkAndGo l dC dI x0 xw xr xg c1 c2 c3 s.heap.size wd rg rs pcv trv vav dnv a1 (pcv + (F_jumpImmediate a1))) (cwV 2 hts (gV mL_X0_84 mI_X0_linkAndGo mE_X0_linkAndGo mN_X0 mC_X0_linkAndGo) rfl rfl rfl (by decide +kernel) ⟨Nat.le_of_ble_eq_true rfl, Nat.le_of_ble_eq_true rfl⟩) ⟨fun a U g mk q => by obtain ⟨q0, q1, qP, qK, qD⟩ := q; exact ⟨q0, q1, qP, va_K.moved (u := U) (U := U.calling g mk a) (Vm.Alike.refl U.vm) qK, qD⟩, va_recv hK hP (ci := 0) (q0 := 0) rfl rfl, fun U hU hW => ⟨rfl, by rw [hU], by rw [hU]; exact hP, va_K.moved hW.alike hK, hD.weaken (fun _ _ _ _ => trivial)⟩⟩ rfl rfl hl.1 rfl (lv_room (Nat.le_of_ble_eq_true rfl)) dX0_execute_140 ⟨Nat.zero_le _, Nat.zero_le _⟩) hS (fun q _ h => hFc q h) hFc (fun r_77 u t H1 locs ht hvm hw hB hz1 hk1 hS => ?_)
                      obtain ⟨b_78, hw⟩ := hw
                      obtain ⟨wd_79, rs_80, pcv_81, trv_82, vav_83⟩ := u
                      obtain ⟨hP1, hK1, hD1⟩ := hB
                      rw [ht] at hP1
                      obtain ⟨hP, hD⟩ := va_join (wr := []) (w1 := [(x0, .inr (0, [.ref xw, .ref xr, .ref xg, .int pcv_81, .int trv_82, .int vav_83, .int dnv])), (xw, .inl (c1, 4096, .inl wd_79)), (xr, .inl (c2, 4, .inl rg)), (xg, .inl (c3, 32, .inl rs_80))]) hP hD [0, 1, 2, 3] [] rfl rfl (by decide) (by decide) hk1 hFc hP1 hD1
                      generalize H1 = H at hP hS ⊢
                      have hP : va_P (dC, dI) vwCl [(x0, .inr (0, [.ref xw, .ref xr, .ref xg, .int pcv_81, .int trv_82, .int vav_83, .int dnv])), (xw, .inl (c1, 4096, .inl wd_79)), (xr, .inl (c2, 4, .inl rg)), (xg, .inl (c3, 32, .inl rs_80))] H := hP
                      have hD : va_D A [(x0, .inr (0, [.ref xw, .ref xr, .ref xg, .int pcv_81, .int trv_82, .int vav_83, .int dnv])), (xw, .inl (c1, 4096, .inl wd_79)), (xr, .inl (c2, 4, .inl rg)), (xg, .inl (c3, 32, .inl rs_80))] := hD
                      exact W.zret (v := r_77) (ty := .boolean) hx hb hr b_78 (fun t ht hW => ⟨⟨_, (wd_79, rs_80, pcv_81, trv_82, vav_83), rfl, ⟨b_78, (by unfold F_execute; rw [if_neg c_1, if_neg c_9, if_neg c_17, if_neg c_25, if_neg c_34, if_neg c_42, if_neg c_50, if_neg c_59, if_neg c_67, if_pos c_75]; exact hw)⟩, by rw [ht]; exact hP, va_K.moved hW.alike hK, hD⟩, hS.F ht⟩) hS.2.2 dX0_execute_143
                    · by_cases c_84 : (a1 &&& 127) = 115
                      · refine lv_lookup (tgt := 186) (off := 182) hx hb dX0_execute_4 (by decide) (by rw [c_84] <;> rfl) (by decide) ?_
                        refine lv_aload_n hx hb dX0_execute_186 rfl (lv_at hl 0 rfl) ?_
                        refine lv_iload_n hx hb dX0_execute_187 rfl (lv_at hl 1 rfl) ?_
                        have hFc := va_free (wc := [(x0, .inr (0, [.ref xw, .ref xr, .ref xg, .int pcv, .int trv, .int vav, .int dnv])), (xw, .inl (c1, 4096, .inl wd)), (xr, .inl (c2, 4, .inl rg)), (xg, .inl (c3, 32, .inl rs))]) hD hS hA [0, 1, 2, 3] rfl
                        refine va_calli (va_runV (As := [.int a1]) (rest := []) ⟨hx, hb, hml, hown, hts⟩ (c_callOrBreak l dC dI x0 xw xr xg c1 c2 c3 s.heap.size wd rg rs pcv trv vav dnv a1) (cwV 1 hts (gV mL_X0_108 mI_X0_callOrBreak mE_X0_callOrBreak mN_X0 mC_X0_callOrBreak) rfl rfl rfl (by decide +kernel) ⟨Nat.le_of_ble_eq_true rfl, Nat.le_of_ble_eq_true rfl⟩) ⟨fun a U g mk q => by obtain ⟨q0, q1, qP, qK, qD⟩ := q; exact ⟨q0, q1, qP, va_K.moved (u := U) (U := U.calling g mk a) (Vm.Alike.refl U.vm) qK, qD⟩, va_recv hK hP (ci := 0) (q0 := 0) rfl rfl, fun U hU hW => ⟨rfl, by rw [hU], by rw [hU]; exact hP, va_K.moved hW.alike hK, hD.weaken (fun _ _ _ _ => trivial)⟩⟩ rfl rfl hl.1 rfl (lv_room (Nat.le_of_ble_eq_true rfl)) dX0_execute_188 ⟨Nat.zero_le _, Nat.zero_le _⟩) hS (fun q _ h => hFc q h) hFc (fun r_85 u t H1 locs ht hvm hw hB hz1 hk1 hS => ?_)
                        obtain ⟨b_86, hw⟩ := hw
                        obtain ⟨wd_87, rs_88, pcv_89, trv_90, vav_91⟩ := u
                        obtain ⟨hP1, hK1, hD1⟩ := hB
                        rw [ht] at hP1
                        obtain ⟨hP, hD⟩ := va_join (wr := []) (w1 := [(x0, .inr (0, [.ref xw, .ref xr, .ref xg, .int pcv_89, .int trv_90, .int vav_91, .int dnv])), (xw, .inl (c1, 4096, .inl wd_87)), (xr, .inl (c2, 4, .inl rg)), (xg, .inl (c3, 32, .inl rs_88))]) hP hD [0, 1, 2, 3] [] rfl rfl (by decide) (by decide) hk1 hFc hP1 hD1
                        generalize H1 = H at hP hS ⊢
                        have hP : va_P (dC, dI) vwCl [(x0, .inr (0, [.ref xw, .ref xr, .ref xg, .int pcv_89, .int trv_90, .int vav_91, .int dnv])), (xw, .inl (c1, 4096, .inl wd_87)), (xr, .inl (c2, 4, .inl rg)), (xg, .inl (c3, 32, .inl rs_88))] H := hP
                        have hD : va_D A [(x0, .inr (0, [.ref xw, .ref xr, .ref xg, .int pcv_89, .int trv_90, .int vav_91, .int dnv])), (xw, .inl (c1, 4096, .inl wd_87)), (xr, .inl (c2, 4, .inl rg)), (xg, .inl (c3, 32, .inl rs_88))] := hD
                        exact W.zret (v := r_85) (ty := .boolean) hx hb hr b_86 (fun t ht hW => ⟨⟨_, (wd_87, rs_88, pcv_89, trv_90, vav_91), rfl, ⟨b_86, (by unfold F_execute; rw [if_neg c_1, if_neg c_9, if_neg c_17, if_neg c_25, if_neg c_34, if_neg c_42, if_neg c_50, if_neg c_59, if_neg c_67, if_neg c_75, if_pos c_84]; exact hw)⟩, by rw [ht]; exact hP, va_K.moved hW.alike hK, hD⟩, hS.F ht⟩) hS.2.2 dX0_execute_191
                      · refine lv_lookup (tgt := 192) (off := 188) hx hb dX0_execute_4 (by decide) (by rw [lv_osw c_1 (by decide), lv_osw c_9 (by decide), lv_osw c_17 (by decide), lv_osw c_25 (by decide), lv_osw c_34 (by decide), lv_osw c_42 (by decide), lv_osw c_50 (by decide), lv_osw c_59 (by decide), lv_osw c_67 (by decide), lv_osw c_75 (by decide), lv_osw c_84 (by decide)] <;> rfl) (by decide) ?_
                        refine lv_aload_n hx hb dX0_execute_192 rfl (lv_at hl 0 rfl) ?_
                        refine lv_iload_n hx hb dX0_execute_193 rfl (lv_at hl 1 rfl) ?_
                        have hFc := va_free (wc := [(x0, .inr (0, [.ref xw, .ref xr, .ref xg, .int pcv, .int trv, .int vav, .int dnv])), (xw, .inl (c1, 4096, .inl wd)), (xr, .inl (c2, 4, .inl rg)), (xg, .inl (c3, 32, .inl rs))]) hD hS hA [0, 1, 2, 3] rfl
                        refine va_calli (va_runV (As := [.int a1]) (rest := []) ⟨hx, hb, hml, hown, hts⟩ (c_refuse l dC dI x0 xw xr xg c1 c2 c3 s.heap.size wd rg rs pcv trv vav dnv a1) (cwV 1 hts (gV mL_X0_111 mI_X0_refuse mE_X0_refuse mN_X0 mC_X0_refuse) rfl rfl rfl (by decide +kernel) ⟨Nat.le_of_ble_eq_true rfl, Nat.le_of_ble_eq_true rfl⟩) ⟨fun a U g mk q => by obtain ⟨q0, q1, qP, qK, qD⟩ := q; exact ⟨q0, q1, qP, va_K.moved (u := U) (U := U.calling g mk a) (Vm.Alike.refl U.vm) qK, qD⟩, va_recv hK hP (ci := 0) (q0 := 0) rfl rfl, fun U hU hW => ⟨rfl, by rw [hU], by rw [hU]; exact hP, va_K.moved hW.alike hK, hD.weaken (fun _ _ _ _ => trivial)⟩⟩ rfl rfl hl.1 rfl (lv_room (Nat.le_of_ble_eq_true rfl)) dX0_execute_194 ⟨Nat.zero_le _, Nat.zero_le _⟩) hS (fun q _ h => hFc q h) hFc (fun r_92 u t H1 locs ht hvm hw hB hz1 hk1 hS => ?_)
                        obtain ⟨b_93, hw⟩ := hw
                        obtain ⟨wd_94, rs_95, pcv_96, trv_97, vav_98⟩ := u
                        obtain ⟨hP1, hK1, hD1⟩ := hB
                        rw [ht] at hP1
                        obtain ⟨hP, hD⟩ := va_join (wr := []) (w1 := [(x0, .inr (0, [.ref xw, .ref xr, .ref xg, .int pcv_96, .int trv_97, .int vav_98, .int dnv])), (xw, .inl (c1, 4096, .inl wd_94)), (xr, .inl (c2, 4, .inl rg)), (xg, .inl (c3, 32, .inl rs_95))]) hP hD [0, 1, 2, 3] [] rfl rfl (by decide) (by decide) hk1 hFc hP1 hD1
                        generalize H1 = H at hP hS ⊢
                        have hP : va_P (dC, dI) vwCl [(x0, .inr (0, [.ref xw, .ref xr, .ref xg, .int pcv_96, .int trv_97, .int vav_98, .int dnv])), (xw, .inl (c1, 4096, .inl wd_94)), (xr, .inl (c2, 4, .inl rg)), (xg, .inl (c3, 32, .inl rs_95))] H := hP
                        have hD : va_D A [(x0, .inr (0, [.ref xw, .ref xr, .ref xg, .int pcv_96, .int trv_97, .int vav_98, .int dnv])), (xw, .inl (c1, 4096, .inl wd_94)), (xr, .inl (c2, 4, .inl rg)), (xg, .inl (c3, 32, .inl rs_95))] := hD
                        exact W.zret (v := r_92) (ty := .boolean) hx hb hr b_93 (fun t ht hW => ⟨⟨_, (wd_94, rs_95, pcv_96, trv_97, vav_98), rfl, ⟨b_93, (by unfold F_execute; rw [if_neg c_1, if_neg c_9, if_neg c_17, if_neg c_25, if_neg c_34, if_neg c_42, if_neg c_50, if_neg c_59, if_neg c_67, if_neg c_75, if_neg c_84]; exact hw)⟩, by rw [ht]; exact hP, va_K.moved hW.alike hK, hD⟩, hS.F ht⟩) hS.2.2 dX0_execute_197
def F_makeStep (wd : Nat → Int32) (rg : Nat → Int32) (rs : Nat → Int32) (pcv : Int32) (trv : Int32) (vav : Int32)  : Int32 × (Nat → Int32) × (Nat → Int32) × Int32 × Int32 × Int32 :=
  if (F_isCrooked pcv 4) = 0 then
    if (F_hasRight rg pcv 4) = 0 then
      F_trapWith wd rg rs pcv trv vav 12 pcv
    else
      F_execute wd rg rs pcv trv vav (wd ((pcv.toUInt32 >>> ((2 : Int32).toUInt32 &&& Int32.toUInt32 31)).toInt32).toNatClampNeg)
  else
    F_trapWith wd rg rs pcv trv vav 0 pcv
set_option maxHeartbeats 4000000 in
set_option maxRecDepth 100000 in
theorem c_makeStep (l : Launch) (dC : Nat → ClassId) (dI : Nat → Nat → Nat) (x0 xw xr xg : Nat) (c1 c2 c3 : ClassId) (sz : Nat) (wd : Nat → Int32) (rg : Nat → Int32) (rs : Nat → Int32) (pcv : Int32) (trv : Int32) (vav : Int32) (dnv : Int32)   : Met l yX0_makeStep wsX0_makeStep ({ frames := 5, cells := 0, slots := 0, locals := 109 }) (va_Pc [.ref x0] (fun U => U.heap.size = sz ∧ va_P (dC, dI) vwCl [(x0, .inr (0, [.ref xw, .ref xr, .ref xg, .int pcv, .int trv, .int vav, .int dnv])), (xw, .inl (c1, 4096, .inl wd)), (xr, .inl (c2, 4, .inl rg)), (xg, .inl (c3, 32, .inl rs))] U.heap ∧ va_K (dC, dI) vwCl [(c1, .int), (c2, .int), (c3, .int)] U ∧ va_D (fun _ => True) [(x0, .inr (0, [.ref xw, .ref xr, .ref xg, .int pcv, .int trv, .int vav, .int dnv])), (xw, .inl (c1, 4096, .inl wd)), (xr, .inl (c2, 4, .inl rg)), (xg, .inl (c3, 32, .inl rs))])) (va_Qi (fun (r : Int32) (u : (Nat → Int32) × (Nat → Int32) × Int32 × Int32 × Int32) => narrow .boolean (.int r) = .int r ∧ (r, u) = F_makeStep wd rg rs pcv trv vav) (fun (u : (Nat → Int32) × (Nat → Int32) × Int32 × Int32 × Int32) (t : State) => va_P (dC, dI) vwCl [(x0, .inr (0, [.ref xw, .ref xr, .ref xg, .int u.2.2.1, .int u.2.2.2.1, .int u.2.2.2.2, .int dnv])), (xw, .inl (c1, 4096, .inl u.1)), (xr, .inl (c2, 4, .inl rg)), (xg, .inl (c3, 32, .inl u.2.1))] t.heap ∧ va_K (dC, dI) vwCl [(c1, .int), (c2, .int), (c3, .int)] t ∧ va_D (va_A [(x0, .inr (0, [.ref xw, .ref xr, .ref xg, .int pcv, .int trv, .int vav, .int dnv])), (xw, .inl (c1, 4096, .inl wd)), (xr, .inl (c2, 4, .inl rg)), (xg, .inl (c3, 32, .inl rs))] sz) [(x0, .inr (0, [.ref xw, .ref xr, .ref xg, .int u.2.2.1, .int u.2.2.2.1, .int u.2.2.2.2, .int dnv])), (xw, .inl (c1, 4096, .inl u.1)), (xr, .inl (c2, 4, .inl rg)), (xg, .inl (c3, 32, .inl u.2.1))]) (va_A [(x0, .inr (0, [.ref xw, .ref xr, .ref xg, .int pcv, .int trv, .int vav, .int dnv])), (xw, .inl (c1, 4096, .inl wd)), (xr, .inl (c2, 4, .inl rg)), (xg, .inl (c3, 32, .inl rs))] sz)) 0 0 (va_A [(x0, .inr (0, [.ref xw, .ref xr, .ref xg, .int pcv, .int trv, .int vav, .int dnv])), (xw, .inl (c1, 4096, .inl wd)), (xr, .inl (c2, 4, .inl rg)), (xg, .inl (c3, 32, .inl rs))] sz) := by
  refine Met.ofW (cc := cX0_makeStep) (maxL := 1) (ret := (some .boolean)) (by decide) rfl ?_
  intro p e s m args below meth c s₁ B hml hv
  obtain ⟨rfl, hsz, hP, hK, hD0⟩ := hv
  have hx := B.exec
  have hb := B.bytes
  have hr := B.returns
  have hts := atoms_spec (ws := wsX0_makeStep) B.pre
  have hown : s.vm.findClass RX0 = some m.cls := findClass_of_methodNamed B.named
  have hlocks := B.notSynchronized
  subst hsz
  have hD := hD0.self (sz := s.heap.size)
  generalize hAe : va_A [(x0, .inr (0, [.ref xw, .ref xr, .ref xg, .int pcv, .int trv, .int vav, .int dnv])), (xw, .inl (c1, 4096, .inl wd)), (xr, .inl (c2, 4, .inl rg)), (xg, .inl (c3, 32, .inl rs))] s.heap.size = A at hD ⊢
  have hA : ∀ q : Nat, s.heap.size ≤ q → A q := fun q h => by rw [← hAe]; exact Or.inr h
  have hS : va_S A s.heap s.heap [] := va_S.rf
  have hP : va_P (dC, dI) vwCl [(x0, .inr (0, [.ref xw, .ref xr, .ref xg, .int pcv, .int trv, .int vav, .int dnv])), (xw, .inl (c1, 4096, .inl wd)), (xr, .inl (c2, 4, .inl rg)), (xg, .inl (c3, 32, .inl rs))] s.heap := hP
  have hl := lv_entry ([.ref x0]) (n := 1) (Nat.le_of_ble_eq_true rfl)
  rw [lg_entry_eq]
  generalize (lg_sl ([.ref x0]) ++ List.replicate (1 - (lg_sl ([.ref x0])).length) Slot.unset).toArray = ls at hl ⊢
  have hl : lv_has ls 1 [(0, .ref x0)] := hl
  refine lv_aload_n hx hb dX0_makeStep_0 rfl (lv_at hl 0 rfl) ?_
  refine va_get (D := (dC, dI)) (ci := 0) (v := .int pcv) (C := RX0) (T := TX0) (N := 7) hx hb hts (gw_lay lay_X0) hown hK hP 0 rfl rfl 3 (by decide) (hts _ (gcons mF_X0_19)) (fun _ h9 => h9) rfl dX0_makeStep_1 ?_
  refine lv_iconst (v := 4) hx hb dX0_makeStep_4 (by decide) ?_
  refine vp_callSi (W.runS (As := [.int pcv, .int 4]) (rest := []) ⟨hx, hb, hml, hown, hts⟩ (c_isCrooked l pcv 4) (cwS 2 hts (gS mL_X0_62 mS_X0_isCrooked mN_X0 mC_X0_isCrooked) rfl rfl rfl (by decide +kernel) ⟨Nat.le_of_ble_eq_true rfl, Nat.le_of_ble_eq_true rfl⟩) preEq rfl rfl hl.1 rfl (lv_room (Nat.le_of_ble_eq_true rfl)) dX0_makeStep_5 ⟨Nat.zero_le _, Nat.zero_le _⟩) (fun r_1 hw => ?_)
  obtain ⟨b_2, hw⟩ := hw
  subst hw
  refine lv_if_eq (tgt := 21) hx hb dX0_makeStep_8 (by decide) (fun c_3 => ?_) (fun c_3 => ?_)
  · refine lv_aload_n hx hb dX0_makeStep_21 rfl (lv_at hl 0 rfl) ?_
    refine lv_aload_n hx hb dX0_makeStep_22 rfl (lv_at hl 0 rfl) ?_
    refine va_get (D := (dC, dI)) (ci := 0) (v := .int pcv) (C := RX0) (T := TX0) (N := 7) hx hb hts (gw_lay lay_X0) hown hK hP 0 rfl rfl 3 (by decide) (hts _ (gcons mF_X0_19)) (fun _ h9 => h9) rfl dX0_makeStep_23 ?_
    refine lv_iconst (v := 4) hx hb dX0_makeStep_26 (by decide) ?_
    refine vp_callSi (W.runV (As := [.int pcv, .int 4]) (rest := []) ⟨hx, hb, hml, hown, hts⟩ (c_hasRight l dC dI x0 xw xr xg c1 c2 c3 wd rg rs pcv trv vav dnv pcv 4) (cwV 2 hts (gV mL_X0_69 mI_X0_hasRight mE_X0_hasRight mN_X0 mC_X0_hasRight) rfl rfl rfl (by decide +kernel) ⟨Nat.le_of_ble_eq_true rfl, Nat.le_of_ble_eq_true rfl⟩) ⟨fun a U g mk q => by obtain ⟨q0, qP, qK⟩ := q; exact ⟨q0, qP, va_K.moved (u := U) (U := U.calling g mk a) (Vm.Alike.refl U.vm) qK⟩, va_recv hK hP (ci := 0) (q0 := 0) rfl rfl, fun U hU hW => ⟨rfl, by rw [hU]; exact hP, va_K.moved hW.alike hK⟩⟩ rfl rfl hl.1 rfl (lv_room (Nat.le_of_ble_eq_true rfl)) dX0_makeStep_27 ⟨Nat.zero_le _, Nat.zero_le _⟩) (fun r_4 hw => ?_)
    obtain ⟨b_5, hw⟩ := hw
    subst hw
    refine lv_if_ne (tgt := 44) hx hb dX0_makeStep_30 (by decide) (fun c_6 => ?_) (fun c_6 => ?_)
    · refine lv_aload_n hx hb dX0_makeStep_44 rfl (lv_at hl 0 rfl) ?_
      refine lv_aload_n hx hb dX0_makeStep_45 rfl (lv_at hl 0 rfl) ?_
      refine va_get (D := (dC, dI)) (ci := 0) (v := .ref xw) (C := RX0) (T := TX0) (N := 7) hx hb hts (gw_lay lay_X0) hown hK hP 0 rfl rfl 0 (by decide) (hts _ (gcons mF_X0_9)) (fun _ h9 => h9) rfl dX0_makeStep_46 ?_
      refine lv_aload_n hx hb dX0_makeStep_49 rfl (lv_at hl 0 rfl) ?_
      refine va_get (D := (dC, dI)) (ci := 0) (v := .int pcv) (C := RX0) (T := TX0) (N := 7) hx hb hts (gw_lay lay_X0) hown hK hP 0 rfl rfl 3 (by decide) (hts _ (gcons mF_X0_19)) (fun _ h9 => h9) rfl dX0_makeStep_50 ?_
      refine lv_iconst (v := 2) hx hb dX0_makeStep_53 (by decide) ?_
      refine lv_iushr (v := (pcv.toUInt32 >>> ((2 : Int32).toUInt32 &&& Int32.toUInt32 31)).toInt32) hx hb dX0_makeStep_54 rfl ?_
      refine va_iald hx hb hK hP 1 0 rfl rfl (in_step c_6) dX0_makeStep_55 ?_
      have hFc := va_free (wc := [(x0, .inr (0, [.ref xw, .ref xr, .ref xg, .int pcv, .int trv, .int vav, .int dnv])), (xw, .inl (c1, 4096, .inl wd)), (xr, .inl (c2, 4, .inl rg)), (xg, .inl (c3, 32, .inl rs))]) hD hS hA [0, 1, 2, 3] rfl
      refine va_calli (va_runV (As := [.int (wd ((pcv.toUInt32 >>> ((2 : Int32).toUInt32 &&& Int32.toUInt32 31)).toInt32).toNatClampNeg)]) (rest := []) ⟨hx, hb, hml, hown, hts⟩ (c_execute l dC dI x0 xw xr xg c1 c2 c3 s.heap.size wd rg rs pcv trv vav dnv (wd ((pcv.toUInt32 >>> ((2 : Int32).toUInt32 &&& Int32.toUInt32 31)).toInt32).toNatClampNeg)) (cwV 1 hts (gV mL_X0_72 mI_X0_execute mE_X0_execute mN_X0 mC_X0_execute) rfl rfl rfl (by decide +kernel) ⟨Nat.le_of_ble_eq_true rfl, Nat.le_of_ble_eq_true rfl⟩) ⟨fun a U g mk q => by obtain ⟨q0, q1, qP, qK, qD⟩ := q; exact ⟨q0, q1, qP, va_K.moved (u := U) (U := U.calling g mk a) (Vm.Alike.refl U.vm) qK, qD⟩, va_recv hK hP (ci := 0) (q0 := 0) rfl rfl, fun U hU hW => ⟨rfl, by rw [hU], by rw [hU]; exact hP, va_K.moved hW.alike hK, hD.weaken (fun _ _ _ _ => trivial)⟩⟩ rfl rfl hl.1 rfl (lv_room (Nat.le_of_ble_eq_true rfl)) dX0_makeStep_56 ⟨Nat.zero_le _, Nat.zero_le _⟩) hS (fun q _ h => hFc q h) hFc (fun r_7 u t H1 locs ht hvm hw hB hz1 hk1 hS => ?_)
      obtain ⟨b_8, hw⟩ := hw
      obtain ⟨wd_9, rs_10, pcv_11, trv_12, vav_13⟩ := u
      obtain ⟨hP1, hK1, hD1⟩ := hB
      rw [ht] at hP1
      obtain ⟨hP, hD⟩ := va_join (wr := []) (w1 := [(x0, .inr (0, [.ref xw, .ref xr, .ref xg, .int pcv_11, .int trv_12, .int vav_13, .int dnv])), (xw, .inl (c1, 4096, .inl wd_9)), (xr, .inl (c2, 4, .inl rg)), (xg, .inl (c3, 32, .inl rs_10))]) hP hD [0, 1, 2, 3] [] rfl rfl (by decide) (by decide) hk1 hFc hP1 hD1
      generalize H1 = H at hP hS ⊢
      have hP : va_P (dC, dI) vwCl [(x0, .inr (0, [.ref xw, .ref xr, .ref xg, .int pcv_11, .int trv_12, .int vav_13, .int dnv])), (xw, .inl (c1, 4096, .inl wd_9)), (xr, .inl (c2, 4, .inl rg)), (xg, .inl (c3, 32, .inl rs_10))] H := hP
      have hD : va_D A [(x0, .inr (0, [.ref xw, .ref xr, .ref xg, .int pcv_11, .int trv_12, .int vav_13, .int dnv])), (xw, .inl (c1, 4096, .inl wd_9)), (xr, .inl (c2, 4, .inl rg)), (xg, .inl (c3, 32, .inl rs_10))] := hD
      exact W.zret (v := r_7) (ty := .boolean) hx hb hr b_8 (fun t ht hW => ⟨⟨_, (wd_9, rs_10, pcv_11, trv_12, vav_13), rfl, ⟨b_8, (by unfold F_makeStep; rw [if_pos c_3, if_neg c_6]; exact hw)⟩, by rw [ht]; exact hP, va_K.moved hW.alike hK, hD⟩, hS.F ht⟩) hS.2.2 dX0_makeStep_59
    · refine lv_aload_n hx hb dX0_makeStep_33 rfl (lv_at hl 0 rfl) ?_
      refine lv_bipush (v := 12) hx hb dX0_makeStep_34 (by decide) ?_
      refine lv_aload_n hx hb dX0_makeStep_36 rfl (lv_at hl 0 rfl) ?_
      refine va_get (D := (dC, dI)) (ci := 0) (v := .int pcv) (C := RX0) (T := TX0) (N := 7) hx hb hts (gw_lay lay_X0) hown hK hP 0 rfl rfl 3 (by decide) (hts _ (gcons mF_X0_19)) (fun _ h9 => h9) rfl dX0_makeStep_37 ?_
      have hFc := va_free (wc := [(x0, .inr (0, [.ref xw, .ref xr, .ref xg, .int pcv, .int trv, .int vav, .int dnv])), (xw, .inl (c1, 4096, .inl wd)), (xr, .inl (c2, 4, .inl rg)), (xg, .inl (c3, 32, .inl rs))]) hD hS hA [0, 1, 2, 3] rfl
      refine va_calli (va_runV (As := [.int 12, .int pcv]) (rest := []) ⟨hx, hb, hml, hown, hts⟩ (c_trapWith l dC dI x0 xw xr xg c1 c2 c3 s.heap.size wd rg rs pcv trv vav dnv 12 pcv) (cwV 2 hts (gV mL_X0_66 mI_X0_trapWith mE_X0_trapWith mN_X0 mC_X0_trapWith) rfl rfl rfl (by decide +kernel) ⟨Nat.le_of_ble_eq_true rfl, Nat.le_of_ble_eq_true rfl⟩) ⟨fun a U g mk q => by obtain ⟨q0, q1, qP, qK, qD⟩ := q; exact ⟨q0, q1, qP, va_K.moved (u := U) (U := U.calling g mk a) (Vm.Alike.refl U.vm) qK, qD⟩, va_recv hK hP (ci := 0) (q0 := 0) rfl rfl, fun U hU hW => ⟨rfl, by rw [hU], by rw [hU]; exact hP, va_K.moved hW.alike hK, hD.weaken (fun _ _ _ _ => trivial)⟩⟩ rfl rfl hl.1 rfl (lv_room (Nat.le_of_ble_eq_true rfl)) dX0_makeStep_40 ⟨Nat.zero_le _, Nat.zero_le _⟩) hS (fun q _ h => hFc q h) hFc (fun r_14 u t H1 locs ht hvm hw hB hz1 hk1 hS => ?_)
      obtain ⟨b_15, hw⟩ := hw
      obtain ⟨wd_16, rs_17, pcv_18, trv_19, vav_20⟩ := u
      obtain ⟨hP1, hK1, hD1⟩ := hB
      rw [ht] at hP1
      obtain ⟨hP, hD⟩ := va_join (wr := []) (w1 := [(x0, .inr (0, [.ref xw, .ref xr, .ref xg, .int pcv_18, .int trv_19, .int vav_20, .int dnv])), (xw, .inl (c1, 4096, .inl wd_16)), (xr, .inl (c2, 4, .inl rg)), (xg, .inl (c3, 32, .inl rs_17))]) hP hD [0, 1, 2, 3] [] rfl rfl (by decide) (by decide) hk1 hFc hP1 hD1
      generalize H1 = H at hP hS ⊢
      have hP : va_P (dC, dI) vwCl [(x0, .inr (0, [.ref xw, .ref xr, .ref xg, .int pcv_18, .int trv_19, .int vav_20, .int dnv])), (xw, .inl (c1, 4096, .inl wd_16)), (xr, .inl (c2, 4, .inl rg)), (xg, .inl (c3, 32, .inl rs_17))] H := hP
      have hD : va_D A [(x0, .inr (0, [.ref xw, .ref xr, .ref xg, .int pcv_18, .int trv_19, .int vav_20, .int dnv])), (xw, .inl (c1, 4096, .inl wd_16)), (xr, .inl (c2, 4, .inl rg)), (xg, .inl (c3, 32, .inl rs_17))] := hD
      exact W.zret (v := r_14) (ty := .boolean) hx hb hr b_15 (fun t ht hW => ⟨⟨_, (wd_16, rs_17, pcv_18, trv_19, vav_20), rfl, ⟨b_15, (by unfold F_makeStep; rw [if_pos c_3, if_pos c_6]; exact hw)⟩, by rw [ht]; exact hP, va_K.moved hW.alike hK, hD⟩, hS.F ht⟩) hS.2.2 dX0_makeStep_43
  · refine lv_aload_n hx hb dX0_makeStep_11 rfl (lv_at hl 0 rfl) ?_
    refine lv_iconst (v := 0) hx hb dX0_makeStep_12 (by decide) ?_
    refine lv_aload_n hx hb dX0_makeStep_13 rfl (lv_at hl 0 rfl) ?_
    refine va_get (D := (dC, dI)) (ci := 0) (v := .int pcv) (C := RX0) (T := TX0) (N := 7) hx hb hts (gw_lay lay_X0) hown hK hP 0 rfl rfl 3 (by decide) (hts _ (gcons mF_X0_19)) (fun _ h9 => h9) rfl dX0_makeStep_14 ?_
    have hFc := va_free (wc := [(x0, .inr (0, [.ref xw, .ref xr, .ref xg, .int pcv, .int trv, .int vav, .int dnv])), (xw, .inl (c1, 4096, .inl wd)), (xr, .inl (c2, 4, .inl rg)), (xg, .inl (c3, 32, .inl rs))]) hD hS hA [0, 1, 2, 3] rfl
    refine va_calli (va_runV (As := [.int 0, .int pcv]) (rest := []) ⟨hx, hb, hml, hown, hts⟩ (c_trapWith l dC dI x0 xw xr xg c1 c2 c3 s.heap.size wd rg rs pcv trv vav dnv 0 pcv) (cwV 2 hts (gV mL_X0_66 mI_X0_trapWith mE_X0_trapWith mN_X0 mC_X0_trapWith) rfl rfl rfl (by decide +kernel) ⟨Nat.le_of_ble_eq_true rfl, Nat.le_of_ble_eq_true rfl⟩) ⟨fun a U g mk q => by obtain ⟨q0, q1, qP, qK, qD⟩ := q; exact ⟨q0, q1, qP, va_K.moved (u := U) (U := U.calling g mk a) (Vm.Alike.refl U.vm) qK, qD⟩, va_recv hK hP (ci := 0) (q0 := 0) rfl rfl, fun U hU hW => ⟨rfl, by rw [hU], by rw [hU]; exact hP, va_K.moved hW.alike hK, hD.weaken (fun _ _ _ _ => trivial)⟩⟩ rfl rfl hl.1 rfl (lv_room (Nat.le_of_ble_eq_true rfl)) dX0_makeStep_17 ⟨Nat.zero_le _, Nat.zero_le _⟩) hS (fun q _ h => hFc q h) hFc (fun r_21 u t H1 locs ht hvm hw hB hz1 hk1 hS => ?_)
    obtain ⟨b_22, hw⟩ := hw
    obtain ⟨wd_23, rs_24, pcv_25, trv_26, vav_27⟩ := u
    obtain ⟨hP1, hK1, hD1⟩ := hB
    rw [ht] at hP1
    obtain ⟨hP, hD⟩ := va_join (wr := []) (w1 := [(x0, .inr (0, [.ref xw, .ref xr, .ref xg, .int pcv_25, .int trv_26, .int vav_27, .int dnv])), (xw, .inl (c1, 4096, .inl wd_23)), (xr, .inl (c2, 4, .inl rg)), (xg, .inl (c3, 32, .inl rs_24))]) hP hD [0, 1, 2, 3] [] rfl rfl (by decide) (by decide) hk1 hFc hP1 hD1
    generalize H1 = H at hP hS ⊢
    have hP : va_P (dC, dI) vwCl [(x0, .inr (0, [.ref xw, .ref xr, .ref xg, .int pcv_25, .int trv_26, .int vav_27, .int dnv])), (xw, .inl (c1, 4096, .inl wd_23)), (xr, .inl (c2, 4, .inl rg)), (xg, .inl (c3, 32, .inl rs_24))] H := hP
    have hD : va_D A [(x0, .inr (0, [.ref xw, .ref xr, .ref xg, .int pcv_25, .int trv_26, .int vav_27, .int dnv])), (xw, .inl (c1, 4096, .inl wd_23)), (xr, .inl (c2, 4, .inl rg)), (xg, .inl (c3, 32, .inl rs_24))] := hD
    exact W.zret (v := r_21) (ty := .boolean) hx hb hr b_22 (fun t ht hW => ⟨⟨_, (wd_23, rs_24, pcv_25, trv_26, vav_27), rfl, ⟨b_22, (by unfold F_makeStep; rw [if_neg c_3]; exact hw)⟩, by rw [ht]; exact hP, va_K.moved hW.alike hK, hD⟩, hS.F ht⟩) hS.2.2 dX0_makeStep_20
end
section
def F_poke (wd : Nat → Int32) (a1 : Int32) (a2 : Int32) (a3 : Int64) : Int32 × (Nat → Int32) :=
  if a2 < 1 then
    (0, wd)
  else
    if a2 ≤ 8 then
      if a1 < 0 then
        (0, wd)
      else
        if a1 ≤ (16384 - a2) then
          (1, F_putBytes wd a1 a2 a3)
        else
          (0, wd)
    else
      (0, wd)
set_option maxHeartbeats 4000000 in
set_option maxRecDepth 100000 in
theorem c_poke (l : Launch) (dC : Nat → ClassId) (dI : Nat → Nat → Nat) (x0 xw xr xg : Nat) (c1 c2 c3 : ClassId) (sz : Nat) (wd : Nat → Int32) (rg : Nat → Int32) (rs : Nat → Int32) (pcv : Int32) (trv : Int32) (vav : Int32) (dnv : Int32) (a1 : Int32) (a2 : Int32) (a3 : Int64)  : Met l yX0_poke wsX0_poke ({ frames := 1, cells := 0, slots := 0, locals := 28 }) (va_Pc [.ref x0, .int a1, .int a2, .long a3] (fun U => U.heap.size = sz ∧ va_P (dC, dI) vwCl [(x0, .inr (0, [.ref xw, .ref xr, .ref xg, .int pcv, .int trv, .int vav, .int dnv])), (xw, .inl (c1, 4096, .inl wd)), (xr, .inl (c2, 4, .inl rg)), (xg, .inl (c3, 32, .inl rs))] U.heap ∧ va_K (dC, dI) vwCl [(c1, .int), (c2, .int), (c3, .int)] U ∧ va_D (fun _ => True) [(x0, .inr (0, [.ref xw, .ref xr, .ref xg, .int pcv, .int trv, .int vav, .int dnv])), (xw, .inl (c1, 4096, .inl wd)), (xr, .inl (c2, 4, .inl rg)), (xg, .inl (c3, 32, .inl rs))])) (va_Qi (fun (r : Int32) (u : (Nat → Int32)) => narrow .boolean (.int r) = .int r ∧ (r, u) = F_poke wd a1 a2 a3) (fun (u : (Nat → Int32)) (t : State) => va_P (dC, dI) vwCl [(x0, .inr (0, [.ref xw, .ref xr, .ref xg, .int pcv, .int trv, .int vav, .int dnv])), (xw, .inl (c1, 4096, .inl u)), (xr, .inl (c2, 4, .inl rg)), (xg, .inl (c3, 32, .inl rs))] t.heap ∧ va_K (dC, dI) vwCl [(c1, .int), (c2, .int), (c3, .int)] t ∧ va_D (va_A [(x0, .inr (0, [.ref xw, .ref xr, .ref xg, .int pcv, .int trv, .int vav, .int dnv])), (xw, .inl (c1, 4096, .inl wd)), (xr, .inl (c2, 4, .inl rg)), (xg, .inl (c3, 32, .inl rs))] sz) [(x0, .inr (0, [.ref xw, .ref xr, .ref xg, .int pcv, .int trv, .int vav, .int dnv])), (xw, .inl (c1, 4096, .inl u)), (xr, .inl (c2, 4, .inl rg)), (xg, .inl (c3, 32, .inl rs))]) (va_A [(x0, .inr (0, [.ref xw, .ref xr, .ref xg, .int pcv, .int trv, .int vav, .int dnv])), (xw, .inl (c1, 4096, .inl wd)), (xr, .inl (c2, 4, .inl rg)), (xg, .inl (c3, 32, .inl rs))] sz)) 0 0 (va_A [(x0, .inr (0, [.ref xw, .ref xr, .ref xg, .int pcv, .int trv, .int vav, .int dnv])), (xw, .inl (c1, 4096, .inl wd)), (xr, .inl (c2, 4, .inl rg)), (xg, .inl (c3, 32, .inl rs))] sz) := by
  refine Met.ofW (cc := cX0_poke) (maxL := 5) (ret := (some .boolean)) (by decide) rfl ?_
  intro p e s m args below meth c s₁ B hml hv
  obtain ⟨rfl, hsz, hP, hK, hD0⟩ := hv
  have hx := B.exec
  have hb := B.bytes
  have hr := B.returns
  have hts := atoms_spec (ws := wsX0_poke) B.pre
  have hown : s.vm.findClass RX0 = some m.cls := findClass_of_methodNamed B.named
  have hlocks := B.notSynchronized
  subst hsz
  have hD := hD0.self (sz := s.heap.size)
  generalize hAe : va_A [(x0, .inr (0, [.ref xw, .ref xr, .ref xg, .int pcv, .int trv, .int vav, .int dnv])), (xw, .inl (c1, 4096, .inl wd)), (xr, .inl (c2, 4, .inl rg)), (xg, .inl (c3, 32, .inl rs))] s.heap.size = A at hD ⊢
  have hA : ∀ q : Nat, s.heap.size ≤ q → A q := fun q h => by rw [← hAe]; exact Or.inr h
  have hS : va_S A s.heap s.heap [] := va_S.rf
  have hP : va_P (dC, dI) vwCl [(x0, .inr (0, [.ref xw, .ref xr, .ref xg, .int pcv, .int trv, .int vav, .int dnv])), (xw, .inl (c1, 4096, .inl wd)), (xr, .inl (c2, 4, .inl rg)), (xg, .inl (c3, 32, .inl rs))] s.heap := hP
  have hl := lv_entry ([.ref x0, .int a1, .int a2, .long a3]) (n := 5) (Nat.le_of_ble_eq_true rfl)
  rw [lg_entry_eq]
  generalize (lg_sl ([.ref x0, .int a1, .int a2, .long a3]) ++ List.replicate (5 - (lg_sl ([.ref x0, .int a1, .int a2, .long a3])).length) Slot.unset).toArray = ls at hl ⊢
  have hl : lv_has ls 5 [(0, .ref x0), (1, .int a1), (2, .int a2), (3, .long a3)] := hl
  refine lv_iload_n hx hb dX0_poke_0 rfl (lv_at hl 2 rfl) ?_
  refine lv_iconst (v := 1) hx hb dX0_poke_1 (by decide) ?_
  refine lv_icmp_lt (tgt := 11) hx hb dX0_poke_2 (by decide) (fun c_1 => ?_) (fun c_1 => ?_)
  · refine lv_iconst (v := 0) hx hb dX0_poke_11 (by decide) ?_
    exact W.zret (v := 0) (ty := .boolean) hx hb hr rfl (fun t ht hW => ⟨⟨_, wd, rfl, ⟨rfl, (by unfold F_poke; rw [if_pos c_1])⟩, by rw [ht]; exact hP, va_K.moved hW.alike hK, hD⟩, hS.F ht⟩) hS.2.2 dX0_poke_12
  · refine lv_iload_n hx hb dX0_poke_5 rfl (lv_at hl 2 rfl) ?_
    refine lv_bipush (v := 8) hx hb dX0_poke_6 (by decide) ?_
    refine lv_icmp_le (tgt := 13) hx hb dX0_poke_8 (by decide) (fun c_2 => ?_) (fun c_2 => ?_)
    · refine lv_iload_n hx hb dX0_poke_13 rfl (lv_at hl 1 rfl) ?_
      refine lv_if_lt (tgt := 26) hx hb dX0_poke_14 (by decide) (fun c_3 => ?_) (fun c_3 => ?_)
      · refine lv_iconst (v := 0) hx hb dX0_poke_26 (by decide) ?_
        exact W.zret (v := 0) (ty := .boolean) hx hb hr rfl (fun t ht hW => ⟨⟨_, wd, rfl, ⟨rfl, (by unfold F_poke; rw [if_neg c_1, if_pos c_2, if_pos c_3])⟩, by rw [ht]; exact hP, va_K.moved hW.alike hK, hD⟩, hS.F ht⟩) hS.2.2 dX0_poke_27
      · refine lv_iload_n hx hb dX0_poke_17 rfl (lv_at hl 1 rfl) ?_
        refine lv_sipush (v := 16384) hx hb dX0_poke_18 (by decide) ?_
        refine lv_iload_n hx hb dX0_poke_21 rfl (lv_at hl 2 rfl) ?_
        refine lv_isub hx hb dX0_poke_22 ?_
        refine lv_icmp_le (tgt := 28) hx hb dX0_poke_23 (by decide) (fun c_4 => ?_) (fun c_4 => ?_)
        · refine lv_aload_n hx hb dX0_poke_28 rfl (lv_at hl 0 rfl) ?_
          refine lv_iload_n hx hb dX0_poke_29 rfl (lv_at hl 1 rfl) ?_
          refine lv_iload_n hx hb dX0_poke_30 rfl (lv_at hl 2 rfl) ?_
          refine lv_lload_n hx hb dX0_poke_31 rfl (lv_at hl 3 rfl) ?_
          have hFc := va_free (wc := [(x0, .inr (0, [.ref xw, .ref xr, .ref xg, .int pcv, .int trv, .int vav, .int dnv])), (xw, .inl (c1, 4096, .inl wd)), (xr, .inl (c2, 4, .inl rg)), (xg, .inl (c3, 32, .inl rs))]) hD hS hA [0, 1, 2, 3] rfl
          refine va_callv (va_runV (As := [.int a1, .int a2, .long a3]) (rest := []) ⟨hx, hb, hml, hown, hts⟩ (c_putBytes l dC dI x0 xw xr xg c1 c2 c3 s.heap.size wd rg rs pcv trv vav dnv a1 a2 a3 ((in_poke c_1 c_2 c_3 c_4))) (cwV 3 hts (gV mL_X0_32 mI_X0_putBytes mE_X0_putBytes mN_X0 mC_X0_putBytes) rfl rfl rfl (by decide +kernel) ⟨Nat.le_of_ble_eq_true rfl, Nat.le_of_ble_eq_true rfl⟩) ⟨fun a U g mk q => by obtain ⟨q0, q1, qP, qK, qD⟩ := q; exact ⟨q0, q1, qP, va_K.moved (u := U) (U := U.calling g mk a) (Vm.Alike.refl U.vm) qK, qD⟩, va_recv hK hP (ci := 0) (q0 := 0) rfl rfl, fun U hU hW => ⟨rfl, by rw [hU], by rw [hU]; exact hP, va_K.moved hW.alike hK, hD.weaken (fun _ _ _ _ => trivial)⟩⟩ rfl rfl hl.1 rfl (lv_room (Nat.le_of_ble_eq_true rfl)) dX0_poke_32 ⟨Nat.zero_le _, Nat.zero_le _⟩) hS (fun q _ h => hFc q h) hFc (fun u t H1 locs ht hvm hw hB hz1 hk1 hS => ?_)
          subst hw
          obtain ⟨hP1, hK1, hD1⟩ := hB
          rw [ht] at hP1
          obtain ⟨hP, hD⟩ := va_join (wr := []) (w1 := [(x0, .inr (0, [.ref xw, .ref xr, .ref xg, .int pcv, .int trv, .int vav, .int dnv])), (xw, .inl (c1, 4096, .inl (F_putBytes wd a1 a2 a3))), (xr, .inl (c2, 4, .inl rg)), (xg, .inl (c3, 32, .inl rs))]) hP hD [0, 1, 2, 3] [] rfl rfl (by decide) (by decide) hk1 hFc hP1 hD1
          generalize H1 = H at hP hS ⊢
          have hP : va_P (dC, dI) vwCl [(x0, .inr (0, [.ref xw, .ref xr, .ref xg, .int pcv, .int trv, .int vav, .int dnv])), (xw, .inl (c1, 4096, .inl (F_putBytes wd a1 a2 a3))), (xr, .inl (c2, 4, .inl rg)), (xg, .inl (c3, 32, .inl rs))] H := hP
          have hD : va_D A [(x0, .inr (0, [.ref xw, .ref xr, .ref xg, .int pcv, .int trv, .int vav, .int dnv])), (xw, .inl (c1, 4096, .inl (F_putBytes wd a1 a2 a3))), (xr, .inl (c2, 4, .inl rg)), (xg, .inl (c3, 32, .inl rs))] := hD
          refine lv_iconst (v := 1) hx hb dX0_poke_35 (by decide) ?_
          exact W.zret (v := 1) (ty := .boolean) hx hb hr rfl (fun t ht hW => ⟨⟨_, F_putBytes wd a1 a2 a3, rfl, ⟨rfl, (by unfold F_poke; rw [if_neg c_1, if_pos c_2, if_neg c_3, if_pos c_4])⟩, by rw [ht]; exact hP, va_K.moved hW.alike hK, hD⟩, hS.F ht⟩) hS.2.2 dX0_poke_36
        · refine lv_iconst (v := 0) hx hb dX0_poke_26 (by decide) ?_
          exact W.zret (v := 0) (ty := .boolean) hx hb hr rfl (fun t ht hW => ⟨⟨_, wd, rfl, ⟨rfl, (by unfold F_poke; rw [if_neg c_1, if_pos c_2, if_neg c_3, if_neg c_4])⟩, by rw [ht]; exact hP, va_K.moved hW.alike hK, hD⟩, hS.F ht⟩) hS.2.2 dX0_poke_27
    · refine lv_iconst (v := 0) hx hb dX0_poke_11 (by decide) ?_
      exact W.zret (v := 0) (ty := .boolean) hx hb hr rfl (fun t ht hW => ⟨⟨_, wd, rfl, ⟨rfl, (by unfold F_poke; rw [if_neg c_1, if_neg c_2])⟩, by rw [ht]; exact hP, va_K.moved hW.alike hK, hD⟩, hS.F ht⟩) hS.2.2 dX0_poke_12
def F_peek (wd : Nat → Int32) (a1 : Int32) : Int32 :=
  if (F_isInPages a1) = 0 then
    (-1)
  else
    (F_bytesFrom wd a1) &&& 255
set_option maxHeartbeats 4000000 in
set_option maxRecDepth 100000 in
theorem c_peek (l : Launch) (dC : Nat → ClassId) (dI : Nat → Nat → Nat) (x0 xw xr xg : Nat) (c1 c2 c3 : ClassId) (wd : Nat → Int32) (rg : Nat → Int32) (rs : Nat → Int32) (pcv : Int32) (trv : Int32) (vav : Int32) (dnv : Int32) (a1 : Int32)  : Met l yX0_peek wsX0_peek ({ frames := 1, cells := 0, slots := 0, locals := 21 }) (va_Pc [.ref x0, .int a1] (fun U => va_P (dC, dI) vwCl [(x0, .inr (0, [.ref xw, .ref xr, .ref xg, .int pcv, .int trv, .int vav, .int dnv])), (xw, .inl (c1, 4096, .inl wd)), (xr, .inl (c2, 4, .inl rg)), (xg, .inl (c3, 32, .inl rs))] U.heap ∧ va_K (dC, dI) vwCl [(c1, .int), (c2, .int), (c3, .int)] U)) (vp_Si (fun r : Int32 => r = F_peek wd a1)) 0 0 (fun _ => False) := by
  refine Met.ofW (cc := cX0_peek) (maxL := 2) (ret := (some .int)) (by decide) rfl ?_
  intro p e s m args below meth c s₁ B hml hv
  obtain ⟨rfl, hP, hK⟩ := hv
  have hx := B.exec
  have hb := B.bytes
  have hr := B.returns
  have hts := atoms_spec (ws := wsX0_peek) B.pre
  have hown : s.vm.findClass RX0 = some m.cls := findClass_of_methodNamed B.named
  have hlocks := B.notSynchronized
  have hP : va_P (dC, dI) vwCl [(x0, .inr (0, [.ref xw, .ref xr, .ref xg, .int pcv, .int trv, .int vav, .int dnv])), (xw, .inl (c1, 4096, .inl wd)), (xr, .inl (c2, 4, .inl rg)), (xg, .inl (c3, 32, .inl rs))] s.heap := hP
  have hl := lv_entry ([.ref x0, .int a1]) (n := 2) (Nat.le_of_ble_eq_true rfl)
  rw [lg_entry_eq]
  generalize (lg_sl ([.ref x0, .int a1]) ++ List.replicate (2 - (lg_sl ([.ref x0, .int a1])).length) Slot.unset).toArray = ls at hl ⊢
  have hl : lv_has ls 2 [(0, .ref x0), (1, .int a1)] := hl
  refine lv_iload_n hx hb dX0_peek_0 rfl (lv_at hl 1 rfl) ?_
  refine vp_callSi (W.runS (As := [.int a1]) (rest := []) ⟨hx, hb, hml, hown, hts⟩ (c_isInPages l a1) (cwS 1 hts (gS mL_X0_36 mS_X0_isInPages mN_X0 mC_X0_isInPages) rfl rfl rfl (by decide +kernel) ⟨Nat.le_of_ble_eq_true rfl, Nat.le_of_ble_eq_true rfl⟩) preEq rfl rfl hl.1 rfl (lv_room (Nat.le_of_ble_eq_true rfl)) dX0_peek_1 ⟨Nat.zero_le _, Nat.zero_le _⟩) (fun r_1 hw => ?_)
  obtain ⟨b_2, hw⟩ := hw
  subst hw
  refine lv_if_ne (tgt := 9) hx hb dX0_peek_4 (by decide) (fun c_3 => ?_) (fun c_3 => ?_)
  · refine lv_aload_n hx hb dX0_peek_9 rfl (lv_at hl 0 rfl) ?_
    refine lv_iload_n hx hb dX0_peek_10 rfl (lv_at hl 1 rfl) ?_
    refine vp_callSi (W.runV (As := [.int a1]) (rest := []) ⟨hx, hb, hml, hown, hts⟩ (c_bytesFrom l dC dI x0 xw xr xg c1 c2 c3 wd rg rs pcv trv vav dnv a1 c_3) (cwV 1 hts (gV mL_X0_40 mI_X0_bytesFrom mE_X0_bytesFrom mN_X0 mC_X0_bytesFrom) rfl rfl rfl (by decide +kernel) ⟨Nat.le_of_ble_eq_true rfl, Nat.le_of_ble_eq_true rfl⟩) ⟨fun a U g mk q => by obtain ⟨q0, qP, qK⟩ := q; exact ⟨q0, qP, va_K.moved (u := U) (U := U.calling g mk a) (Vm.Alike.refl U.vm) qK⟩, va_recv hK hP (ci := 0) (q0 := 0) rfl rfl, fun U hU hW => ⟨rfl, by rw [hU]; exact hP, va_K.moved hW.alike hK⟩⟩ rfl rfl hl.1 rfl (lv_room (Nat.le_of_ble_eq_true rfl)) dX0_peek_11 ⟨Nat.zero_le _, Nat.zero_le _⟩) (fun r_4 hw => ?_)
    subst hw
    refine lv_sipush (v := 255) hx hb dX0_peek_14 (by decide) ?_
    refine lv_iand hx hb dX0_peek_17 ?_
    exact W.iret (v := (F_bytesFrom wd a1) &&& 255) hx hb hr (fun t ht hW => ⟨_, rfl, (by unfold F_peek; rw [if_neg c_3]), ht⟩) (fun _ h => by cases h) dX0_peek_18
  · refine lv_iconst (v := (-1)) hx hb dX0_peek_7 (by decide) ?_
    exact W.iret (v := (-1)) hx hb hr (fun t ht hW => ⟨_, rfl, (by unfold F_peek; rw [if_pos c_3]), ht⟩) (fun _ h => by cases h) dX0_peek_8
def F_protect (rg : Nat → Int32) (a1 : Int32) (a2 : Int32) : Int32 × (Nat → Int32) :=
  if a1 < 0 then
    (0, rg)
  else
    if (4 : Int32) ≤ a1 then
      (0, rg)
    else
      if a2 < 0 then
        (0, rg)
      else
        if a2 ≤ 7 then
          (1, upd rg a1.toNatClampNeg a2)
        else
          (0, rg)
set_option maxHeartbeats 4000000 in
set_option maxRecDepth 100000 in
theorem c_protect (l : Launch) (dC : Nat → ClassId) (dI : Nat → Nat → Nat) (x0 xw xr xg : Nat) (c1 c2 c3 : ClassId) (sz : Nat) (wd : Nat → Int32) (rg : Nat → Int32) (rs : Nat → Int32) (pcv : Int32) (trv : Int32) (vav : Int32) (dnv : Int32) (a1 : Int32) (a2 : Int32)  : Met l yX0_protect wsX0_protect ({ frames := 0, cells := 0, slots := 0, locals := 0 }) (va_Pc [.ref x0, .int a1, .int a2] (fun U => U.heap.size = sz ∧ va_P (dC, dI) vwCl [(x0, .inr (0, [.ref xw, .ref xr, .ref xg, .int pcv, .int trv, .int vav, .int dnv])), (xw, .inl (c1, 4096, .inl wd)), (xr, .inl (c2, 4, .inl rg)), (xg, .inl (c3, 32, .inl rs))] U.heap ∧ va_K (dC, dI) vwCl [(c1, .int), (c2, .int), (c3, .int)] U ∧ va_D (fun _ => True) [(x0, .inr (0, [.ref xw, .ref xr, .ref xg, .int pcv, .int trv, .int vav, .int dnv])), (xw, .inl (c1, 4096, .inl wd)), (xr, .inl (c2, 4, .inl rg)), (xg, .inl (c3, 32, .inl rs))])) (va_Qi (fun (r : Int32) (u : (Nat → Int32)) => narrow .boolean (.int r) = .int r ∧ (r, u) = F_protect rg a1 a2) (fun (u : (Nat → Int32)) (t : State) => va_P (dC, dI) vwCl [(x0, .inr (0, [.ref xw, .ref xr, .ref xg, .int pcv, .int trv, .int vav, .int dnv])), (xw, .inl (c1, 4096, .inl wd)), (xr, .inl (c2, 4, .inl u)), (xg, .inl (c3, 32, .inl rs))] t.heap ∧ va_K (dC, dI) vwCl [(c1, .int), (c2, .int), (c3, .int)] t ∧ va_D (va_A [(x0, .inr (0, [.ref xw, .ref xr, .ref xg, .int pcv, .int trv, .int vav, .int dnv])), (xw, .inl (c1, 4096, .inl wd)), (xr, .inl (c2, 4, .inl rg)), (xg, .inl (c3, 32, .inl rs))] sz) [(x0, .inr (0, [.ref xw, .ref xr, .ref xg, .int pcv, .int trv, .int vav, .int dnv])), (xw, .inl (c1, 4096, .inl wd)), (xr, .inl (c2, 4, .inl u)), (xg, .inl (c3, 32, .inl rs))]) (va_A [(x0, .inr (0, [.ref xw, .ref xr, .ref xg, .int pcv, .int trv, .int vav, .int dnv])), (xw, .inl (c1, 4096, .inl wd)), (xr, .inl (c2, 4, .inl rg)), (xg, .inl (c3, 32, .inl rs))] sz)) 0 0 (va_A [(x0, .inr (0, [.ref xw, .ref xr, .ref xg, .int pcv, .int trv, .int vav, .int dnv])), (xw, .inl (c1, 4096, .inl wd)), (xr, .inl (c2, 4, .inl rg)), (xg, .inl (c3, 32, .inl rs))] sz) := by
  refine Met.ofW (cc := cX0_protect) (maxL := 3) (ret := (some .boolean)) (by decide) rfl ?_
  intro p e s m args below meth c s₁ B hml hv
  obtain ⟨rfl, hsz, hP, hK, hD0⟩ := hv
  have hx := B.exec
  have hb := B.bytes
  have hr := B.returns
  have hts := atoms_spec (ws := wsX0_protect) B.pre
  have hown : s.vm.findClass RX0 = some m.cls := findClass_of_methodNamed B.named
  have hlocks := B.notSynchronized
  subst hsz
  have hD := hD0.self (sz := s.heap.size)
  generalize hAe : va_A [(x0, .inr (0, [.ref xw, .ref xr, .ref xg, .int pcv, .int trv, .int vav, .int dnv])), (xw, .inl (c1, 4096, .inl wd)), (xr, .inl (c2, 4, .inl rg)), (xg, .inl (c3, 32, .inl rs))] s.heap.size = A at hD ⊢
  have hA : ∀ q : Nat, s.heap.size ≤ q → A q := fun q h => by rw [← hAe]; exact Or.inr h
  have hS : va_S A s.heap s.heap [] := va_S.rf
  have hP : va_P (dC, dI) vwCl [(x0, .inr (0, [.ref xw, .ref xr, .ref xg, .int pcv, .int trv, .int vav, .int dnv])), (xw, .inl (c1, 4096, .inl wd)), (xr, .inl (c2, 4, .inl rg)), (xg, .inl (c3, 32, .inl rs))] s.heap := hP
  have hl := lv_entry ([.ref x0, .int a1, .int a2]) (n := 3) (Nat.le_of_ble_eq_true rfl)
  rw [lg_entry_eq]
  generalize (lg_sl ([.ref x0, .int a1, .int a2]) ++ List.replicate (3 - (lg_sl ([.ref x0, .int a1, .int a2])).length) Slot.unset).toArray = ls at hl ⊢
  have hl : lv_has ls 3 [(0, .ref x0), (1, .int a1), (2, .int a2)] := hl
  refine lv_iload_n hx hb dX0_protect_0 rfl (lv_at hl 1 rfl) ?_
  refine lv_if_lt (tgt := 19) hx hb dX0_protect_1 (by decide) (fun c_1 => ?_) (fun c_1 => ?_)
  · refine lv_iconst (v := 0) hx hb dX0_protect_19 (by decide) ?_
    exact W.zret (v := 0) (ty := .boolean) hx hb hr rfl (fun t ht hW => ⟨⟨_, rg, rfl, ⟨rfl, (by unfold F_protect; rw [if_pos c_1])⟩, by rw [ht]; exact hP, va_K.moved hW.alike hK, hD⟩, hS.F ht⟩) hS.2.2 dX0_protect_20
  · refine lv_iload_n hx hb dX0_protect_4 rfl (lv_at hl 1 rfl) ?_
    refine lv_iconst (v := 4) hx hb dX0_protect_5 (by decide) ?_
    refine lv_icmp_ge (tgt := 19) hx hb dX0_protect_6 (by decide) (fun c_2 => ?_) (fun c_2 => ?_)
    · refine lv_iconst (v := 0) hx hb dX0_protect_19 (by decide) ?_
      exact W.zret (v := 0) (ty := .boolean) hx hb hr rfl (fun t ht hW => ⟨⟨_, rg, rfl, ⟨rfl, (by unfold F_protect; rw [if_neg c_1, if_pos c_2])⟩, by rw [ht]; exact hP, va_K.moved hW.alike hK, hD⟩, hS.F ht⟩) hS.2.2 dX0_protect_20
    · refine lv_iload_n hx hb dX0_protect_9 rfl (lv_at hl 2 rfl) ?_
      refine lv_if_lt (tgt := 19) hx hb dX0_protect_10 (by decide) (fun c_3 => ?_) (fun c_3 => ?_)
      · refine lv_iconst (v := 0) hx hb dX0_protect_19 (by decide) ?_
        exact W.zret (v := 0) (ty := .boolean) hx hb hr rfl (fun t ht hW => ⟨⟨_, rg, rfl, ⟨rfl, (by unfold F_protect; rw [if_neg c_1, if_neg c_2, if_pos c_3])⟩, by rw [ht]; exact hP, va_K.moved hW.alike hK, hD⟩, hS.F ht⟩) hS.2.2 dX0_protect_20
      · refine lv_iload_n hx hb dX0_protect_13 rfl (lv_at hl 2 rfl) ?_
        refine lv_bipush (v := 7) hx hb dX0_protect_14 (by decide) ?_
        refine lv_icmp_le (tgt := 21) hx hb dX0_protect_16 (by decide) (fun c_4 => ?_) (fun c_4 => ?_)
        · refine lv_aload_n hx hb dX0_protect_21 rfl (lv_at hl 0 rfl) ?_
          refine va_get (D := (dC, dI)) (ci := 0) (v := .ref xr) (C := RX0) (T := TX0) (N := 7) hx hb hts (gw_lay lay_X0) hown hK hP 0 rfl rfl 1 (by decide) (hts _ (gcons mF_X0_13)) (fun _ h9 => h9) rfl dX0_protect_22 ?_
          refine lv_iload_n hx hb dX0_protect_25 rfl (lv_at hl 1 rfl) ?_
          refine lv_iload_n hx hb dX0_protect_26 rfl (lv_at hl 2 rfl) ?_
          refine va_iast hx hb hK hP hD hS 2 1 rfl rfl (in_page c_1 c_2) dX0_protect_27 (fun H locs hP hD hS => ?_)
          have hP : va_P (dC, dI) vwCl [(x0, .inr (0, [.ref xw, .ref xr, .ref xg, .int pcv, .int trv, .int vav, .int dnv])), (xw, .inl (c1, 4096, .inl wd)), (xr, .inl (c2, 4, .inl (upd rg a1.toNatClampNeg a2))), (xg, .inl (c3, 32, .inl rs))] H := hP
          have hD : va_D A [(x0, .inr (0, [.ref xw, .ref xr, .ref xg, .int pcv, .int trv, .int vav, .int dnv])), (xw, .inl (c1, 4096, .inl wd)), (xr, .inl (c2, 4, .inl (upd rg a1.toNatClampNeg a2))), (xg, .inl (c3, 32, .inl rs))] := hD
          refine lv_iconst (v := 1) hx hb dX0_protect_28 (by decide) ?_
          exact W.zret (v := 1) (ty := .boolean) hx hb hr rfl (fun t ht hW => ⟨⟨_, upd rg a1.toNatClampNeg a2, rfl, ⟨rfl, (by unfold F_protect; rw [if_neg c_1, if_neg c_2, if_neg c_3, if_pos c_4])⟩, by rw [ht]; exact hP, va_K.moved hW.alike hK, hD⟩, hS.F ht⟩) hS.2.2 dX0_protect_29
        · refine lv_iconst (v := 0) hx hb dX0_protect_19 (by decide) ?_
          exact W.zret (v := 0) (ty := .boolean) hx hb hr rfl (fun t ht hW => ⟨⟨_, rg, rfl, ⟨rfl, (by unfold F_protect; rw [if_neg c_1, if_neg c_2, if_neg c_3, if_neg c_4])⟩, by rw [ht]; exact hP, va_K.moved hW.alike hK, hD⟩, hS.F ht⟩) hS.2.2 dX0_protect_20
def F_set (rs : Nat → Int32) (a1 : Int32) (a2 : Int32) : Int32 × (Nat → Int32) :=
  if (F_isRegister a1) = 0 then
    (0, rs)
  else
    (1, F_putRegister rs a1 a2)
set_option maxHeartbeats 4000000 in
set_option maxRecDepth 100000 in
theorem c_set (l : Launch) (dC : Nat → ClassId) (dI : Nat → Nat → Nat) (x0 xw xr xg : Nat) (c1 c2 c3 : ClassId) (sz : Nat) (wd : Nat → Int32) (rg : Nat → Int32) (rs : Nat → Int32) (pcv : Int32) (trv : Int32) (vav : Int32) (dnv : Int32) (a1 : Int32) (a2 : Int32)  : Met l yX0_set wsX0_set ({ frames := 1, cells := 0, slots := 0, locals := 22 }) (va_Pc [.ref x0, .int a1, .int a2] (fun U => U.heap.size = sz ∧ va_P (dC, dI) vwCl [(x0, .inr (0, [.ref xw, .ref xr, .ref xg, .int pcv, .int trv, .int vav, .int dnv])), (xw, .inl (c1, 4096, .inl wd)), (xr, .inl (c2, 4, .inl rg)), (xg, .inl (c3, 32, .inl rs))] U.heap ∧ va_K (dC, dI) vwCl [(c1, .int), (c2, .int), (c3, .int)] U ∧ va_D (fun _ => True) [(x0, .inr (0, [.ref xw, .ref xr, .ref xg, .int pcv, .int trv, .int vav, .int dnv])), (xw, .inl (c1, 4096, .inl wd)), (xr, .inl (c2, 4, .inl rg)), (xg, .inl (c3, 32, .inl rs))])) (va_Qi (fun (r : Int32) (u : (Nat → Int32)) => narrow .boolean (.int r) = .int r ∧ (r, u) = F_set rs a1 a2) (fun (u : (Nat → Int32)) (t : State) => va_P (dC, dI) vwCl [(x0, .inr (0, [.ref xw, .ref xr, .ref xg, .int pcv, .int trv, .int vav, .int dnv])), (xw, .inl (c1, 4096, .inl wd)), (xr, .inl (c2, 4, .inl rg)), (xg, .inl (c3, 32, .inl u))] t.heap ∧ va_K (dC, dI) vwCl [(c1, .int), (c2, .int), (c3, .int)] t ∧ va_D (va_A [(x0, .inr (0, [.ref xw, .ref xr, .ref xg, .int pcv, .int trv, .int vav, .int dnv])), (xw, .inl (c1, 4096, .inl wd)), (xr, .inl (c2, 4, .inl rg)), (xg, .inl (c3, 32, .inl rs))] sz) [(x0, .inr (0, [.ref xw, .ref xr, .ref xg, .int pcv, .int trv, .int vav, .int dnv])), (xw, .inl (c1, 4096, .inl wd)), (xr, .inl (c2, 4, .inl rg)), (xg, .inl (c3, 32, .inl u))]) (va_A [(x0, .inr (0, [.ref xw, .ref xr, .ref xg, .int pcv, .int trv, .int vav, .int dnv])), (xw, .inl (c1, 4096, .inl wd)), (xr, .inl (c2, 4, .inl rg)), (xg, .inl (c3, 32, .inl rs))] sz)) 0 0 (va_A [(x0, .inr (0, [.ref xw, .ref xr, .ref xg, .int pcv, .int trv, .int vav, .int dnv])), (xw, .inl (c1, 4096, .inl wd)), (xr, .inl (c2, 4, .inl rg)), (xg, .inl (c3, 32, .inl rs))] sz) := by
  refine Met.ofW (cc := cX0_set) (maxL := 3) (ret := (some .boolean)) (by decide) rfl ?_
  intro p e s m args below meth c s₁ B hml hv
  obtain ⟨rfl, hsz, hP, hK, hD0⟩ := hv
  have hx := B.exec
  have hb := B.bytes
  have hr := B.returns
  have hts := atoms_spec (ws := wsX0_set) B.pre
  have hown : s.vm.findClass RX0 = some m.cls := findClass_of_methodNamed B.named
  have hlocks := B.notSynchronized
  subst hsz
  have hD := hD0.self (sz := s.heap.size)
  generalize hAe : va_A [(x0, .inr (0, [.ref xw, .ref xr, .ref xg, .int pcv, .int trv, .int vav, .int dnv])), (xw, .inl (c1, 4096, .inl wd)), (xr, .inl (c2, 4, .inl rg)), (xg, .inl (c3, 32, .inl rs))] s.heap.size = A at hD ⊢
  have hA : ∀ q : Nat, s.heap.size ≤ q → A q := fun q h => by rw [← hAe]; exact Or.inr h
  have hS : va_S A s.heap s.heap [] := va_S.rf
  have hP : va_P (dC, dI) vwCl [(x0, .inr (0, [.ref xw, .ref xr, .ref xg, .int pcv, .int trv, .int vav, .int dnv])), (xw, .inl (c1, 4096, .inl wd)), (xr, .inl (c2, 4, .inl rg)), (xg, .inl (c3, 32, .inl rs))] s.heap := hP
  have hl := lv_entry ([.ref x0, .int a1, .int a2]) (n := 3) (Nat.le_of_ble_eq_true rfl)
  rw [lg_entry_eq]
  generalize (lg_sl ([.ref x0, .int a1, .int a2]) ++ List.replicate (3 - (lg_sl ([.ref x0, .int a1, .int a2])).length) Slot.unset).toArray = ls at hl ⊢
  have hl : lv_has ls 3 [(0, .ref x0), (1, .int a1), (2, .int a2)] := hl
  refine lv_iload_n hx hb dX0_set_0 rfl (lv_at hl 1 rfl) ?_
  refine vp_callSi (W.runS (As := [.int a1]) (rest := []) ⟨hx, hb, hml, hown, hts⟩ (c_isRegister l a1) (cwS 1 hts (gS mL_X0_44 mS_X0_isRegister mN_X0 mC_X0_isRegister) rfl rfl rfl (by decide +kernel) ⟨Nat.le_of_ble_eq_true rfl, Nat.le_of_ble_eq_true rfl⟩) preEq rfl rfl hl.1 rfl (lv_room (Nat.le_of_ble_eq_true rfl)) dX0_set_1 ⟨Nat.zero_le _, Nat.zero_le _⟩) (fun r_1 hw => ?_)
  obtain ⟨b_2, hw⟩ := hw
  subst hw
  refine lv_if_ne (tgt := 9) hx hb dX0_set_4 (by decide) (fun c_3 => ?_) (fun c_3 => ?_)
  · refine lv_aload_n hx hb dX0_set_9 rfl (lv_at hl 0 rfl) ?_
    refine lv_iload_n hx hb dX0_set_10 rfl (lv_at hl 1 rfl) ?_
    refine lv_iload_n hx hb dX0_set_11 rfl (lv_at hl 2 rfl) ?_
    have hFc := va_free (wc := [(x0, .inr (0, [.ref xw, .ref xr, .ref xg, .int pcv, .int trv, .int vav, .int dnv])), (xw, .inl (c1, 4096, .inl wd)), (xr, .inl (c2, 4, .inl rg)), (xg, .inl (c3, 32, .inl rs))]) hD hS hA [0, 1, 2, 3] rfl
    refine va_callv (va_runV (As := [.int a1, .int a2]) (rest := []) ⟨hx, hb, hml, hown, hts⟩ (c_putRegister l dC dI x0 xw xr xg c1 c2 c3 s.heap.size wd rg rs pcv trv vav dnv a1 a2) (cwV 2 hts (gV mL_X0_47 mI_X0_putRegister mE_X0_putRegister mN_X0 mC_X0_putRegister) rfl rfl rfl (by decide +kernel) ⟨Nat.le_of_ble_eq_true rfl, Nat.le_of_ble_eq_true rfl⟩) ⟨fun a U g mk q => by obtain ⟨q0, q1, qP, qK, qD⟩ := q; exact ⟨q0, q1, qP, va_K.moved (u := U) (U := U.calling g mk a) (Vm.Alike.refl U.vm) qK, qD⟩, va_recv hK hP (ci := 0) (q0 := 0) rfl rfl, fun U hU hW => ⟨rfl, by rw [hU], by rw [hU]; exact hP, va_K.moved hW.alike hK, hD.weaken (fun _ _ _ _ => trivial)⟩⟩ rfl rfl hl.1 rfl (lv_room (Nat.le_of_ble_eq_true rfl)) dX0_set_12 ⟨Nat.zero_le _, Nat.zero_le _⟩) hS (fun q _ h => hFc q h) hFc (fun u t H1 locs ht hvm hw hB hz1 hk1 hS => ?_)
    subst hw
    obtain ⟨hP1, hK1, hD1⟩ := hB
    rw [ht] at hP1
    obtain ⟨hP, hD⟩ := va_join (wr := []) (w1 := [(x0, .inr (0, [.ref xw, .ref xr, .ref xg, .int pcv, .int trv, .int vav, .int dnv])), (xw, .inl (c1, 4096, .inl wd)), (xr, .inl (c2, 4, .inl rg)), (xg, .inl (c3, 32, .inl (F_putRegister rs a1 a2)))]) hP hD [0, 1, 2, 3] [] rfl rfl (by decide) (by decide) hk1 hFc hP1 hD1
    generalize H1 = H at hP hS ⊢
    have hP : va_P (dC, dI) vwCl [(x0, .inr (0, [.ref xw, .ref xr, .ref xg, .int pcv, .int trv, .int vav, .int dnv])), (xw, .inl (c1, 4096, .inl wd)), (xr, .inl (c2, 4, .inl rg)), (xg, .inl (c3, 32, .inl (F_putRegister rs a1 a2)))] H := hP
    have hD : va_D A [(x0, .inr (0, [.ref xw, .ref xr, .ref xg, .int pcv, .int trv, .int vav, .int dnv])), (xw, .inl (c1, 4096, .inl wd)), (xr, .inl (c2, 4, .inl rg)), (xg, .inl (c3, 32, .inl (F_putRegister rs a1 a2)))] := hD
    refine lv_iconst (v := 1) hx hb dX0_set_15 (by decide) ?_
    exact W.zret (v := 1) (ty := .boolean) hx hb hr rfl (fun t ht hW => ⟨⟨_, F_putRegister rs a1 a2, rfl, ⟨rfl, (by unfold F_set; rw [if_neg c_3])⟩, by rw [ht]; exact hP, va_K.moved hW.alike hK, hD⟩, hS.F ht⟩) hS.2.2 dX0_set_16
  · refine lv_iconst (v := 0) hx hb dX0_set_7 (by decide) ?_
    exact W.zret (v := 0) (ty := .boolean) hx hb hr rfl (fun t ht hW => ⟨⟨_, rs, rfl, ⟨rfl, (by unfold F_set; rw [if_pos c_3])⟩, by rw [ht]; exact hP, va_K.moved hW.alike hK, hD⟩, hS.F ht⟩) hS.2.2 dX0_set_8
def F_register (rs : Nat → Int32) (a1 : Int32) : Int32 :=
  if (F_isRegister a1) = 0 then
    0
  else
    rs a1.toNatClampNeg
set_option maxHeartbeats 4000000 in
set_option maxRecDepth 100000 in
theorem c_register (l : Launch) (dC : Nat → ClassId) (dI : Nat → Nat → Nat) (x0 xw xr xg : Nat) (c1 c2 c3 : ClassId) (wd : Nat → Int32) (rg : Nat → Int32) (rs : Nat → Int32) (pcv : Int32) (trv : Int32) (vav : Int32) (dnv : Int32) (a1 : Int32)  : Met l yX0_register wsX0_register ({ frames := 1, cells := 0, slots := 0, locals := 20 }) (va_Pc [.ref x0, .int a1] (fun U => va_P (dC, dI) vwCl [(x0, .inr (0, [.ref xw, .ref xr, .ref xg, .int pcv, .int trv, .int vav, .int dnv])), (xw, .inl (c1, 4096, .inl wd)), (xr, .inl (c2, 4, .inl rg)), (xg, .inl (c3, 32, .inl rs))] U.heap ∧ va_K (dC, dI) vwCl [(c1, .int), (c2, .int), (c3, .int)] U)) (vp_Si (fun r : Int32 => r = F_register rs a1)) 0 0 (fun _ => False) := by
  refine Met.ofW (cc := cX0_register) (maxL := 2) (ret := (some .int)) (by decide) rfl ?_
  intro p e s m args below meth c s₁ B hml hv
  obtain ⟨rfl, hP, hK⟩ := hv
  have hx := B.exec
  have hb := B.bytes
  have hr := B.returns
  have hts := atoms_spec (ws := wsX0_register) B.pre
  have hown : s.vm.findClass RX0 = some m.cls := findClass_of_methodNamed B.named
  have hlocks := B.notSynchronized
  have hP : va_P (dC, dI) vwCl [(x0, .inr (0, [.ref xw, .ref xr, .ref xg, .int pcv, .int trv, .int vav, .int dnv])), (xw, .inl (c1, 4096, .inl wd)), (xr, .inl (c2, 4, .inl rg)), (xg, .inl (c3, 32, .inl rs))] s.heap := hP
  have hl := lv_entry ([.ref x0, .int a1]) (n := 2) (Nat.le_of_ble_eq_true rfl)
  rw [lg_entry_eq]
  generalize (lg_sl ([.ref x0, .int a1]) ++ List.replicate (2 - (lg_sl ([.ref x0, .int a1])).length) Slot.unset).toArray = ls at hl ⊢
  have hl : lv_has ls 2 [(0, .ref x0), (1, .int a1)] := hl
  refine lv_iload_n hx hb dX0_register_0 rfl (lv_at hl 1 rfl) ?_
  refine vp_callSi (W.runS (As := [.int a1]) (rest := []) ⟨hx, hb, hml, hown, hts⟩ (c_isRegister l a1) (cwS 1 hts (gS mL_X0_44 mS_X0_isRegister mN_X0 mC_X0_isRegister) rfl rfl rfl (by decide +kernel) ⟨Nat.le_of_ble_eq_true rfl, Nat.le_of_ble_eq_true rfl⟩) preEq rfl rfl hl.1 rfl (lv_room (Nat.le_of_ble_eq_true rfl)) dX0_register_1 ⟨Nat.zero_le _, Nat.zero_le _⟩) (fun r_1 hw => ?_)
  obtain ⟨b_2, hw⟩ := hw
  subst hw
  refine lv_if_eq (tgt := 16) hx hb dX0_register_4 (by decide) (fun c_3 => ?_) (fun c_3 => ?_)
  · refine lv_iconst (v := 0) hx hb dX0_register_16 (by decide) ?_
    exact W.iret (v := 0) hx hb hr (fun t ht hW => ⟨_, rfl, (by unfold F_register; rw [if_pos c_3]), ht⟩) (fun _ h => by cases h) dX0_register_17
  · refine lv_aload_n hx hb dX0_register_7 rfl (lv_at hl 0 rfl) ?_
    refine va_get (D := (dC, dI)) (ci := 0) (v := .ref xg) (C := RX0) (T := TX0) (N := 7) hx hb hts (gw_lay lay_X0) hown hK hP 0 rfl rfl 2 (by decide) (hts _ (gcons mF_X0_16)) (fun _ h9 => h9) rfl dX0_register_8 ?_
    refine lv_iload_n hx hb dX0_register_11 rfl (lv_at hl 1 rfl) ?_
    refine va_iald hx hb hK hP 3 2 rfl rfl (in_isreg c_3) dX0_register_12 ?_
    refine lv_goto (tgt := 17) hx hb dX0_register_13 (by decide) ?_
    exact W.iret (v := rs a1.toNatClampNeg) hx hb hr (fun t ht hW => ⟨_, rfl, (by unfold F_register; rw [if_neg c_3]), ht⟩) (fun _ h => by cases h) dX0_register_17
def F_jump (pcv : Int32) (a1 : Int32) : Int32 :=
  a1
set_option maxHeartbeats 4000000 in
set_option maxRecDepth 100000 in
theorem c_jump (l : Launch) (dC : Nat → ClassId) (dI : Nat → Nat → Nat) (x0 xw xr xg : Nat) (c1 c2 c3 : ClassId) (sz : Nat) (wd : Nat → Int32) (rg : Nat → Int32) (rs : Nat → Int32) (pcv : Int32) (trv : Int32) (vav : Int32) (dnv : Int32) (a1 : Int32)  : Met l yX0_jump wsX0_jump ({ frames := 0, cells := 0, slots := 0, locals := 0 }) (va_Pc [.ref x0, .int a1] (fun U => U.heap.size = sz ∧ va_P (dC, dI) vwCl [(x0, .inr (0, [.ref xw, .ref xr, .ref xg, .int pcv, .int trv, .int vav, .int dnv])), (xw, .inl (c1, 4096, .inl wd)), (xr, .inl (c2, 4, .inl rg)), (xg, .inl (c3, 32, .inl rs))] U.heap ∧ va_K (dC, dI) vwCl [(c1, .int), (c2, .int), (c3, .int)] U ∧ va_D (fun _ => True) [(x0, .inr (0, [.ref xw, .ref xr, .ref xg, .int pcv, .int trv, .int vav, .int dnv])), (xw, .inl (c1, 4096, .inl wd)), (xr, .inl (c2, 4, .inl rg)), (xg, .inl (c3, 32, .inl rs))])) (va_Qv (fun u : Int32 => u = F_jump pcv a1) (fun (u : Int32) (t : State) => va_P (dC, dI) vwCl [(x0, .inr (0, [.ref xw, .ref xr, .ref xg, .int u, .int trv, .int vav, .int dnv])), (xw, .inl (c1, 4096, .inl wd)), (xr, .inl (c2, 4, .inl rg)), (xg, .inl (c3, 32, .inl rs))] t.heap ∧ va_K (dC, dI) vwCl [(c1, .int), (c2, .int), (c3, .int)] t ∧ va_D (va_A [(x0, .inr (0, [.ref xw, .ref xr, .ref xg, .int pcv, .int trv, .int vav, .int dnv])), (xw, .inl (c1, 4096, .inl wd)), (xr, .inl (c2, 4, .inl rg)), (xg, .inl (c3, 32, .inl rs))] sz) [(x0, .inr (0, [.ref xw, .ref xr, .ref xg, .int u, .int trv, .int vav, .int dnv])), (xw, .inl (c1, 4096, .inl wd)), (xr, .inl (c2, 4, .inl rg)), (xg, .inl (c3, 32, .inl rs))]) (va_A [(x0, .inr (0, [.ref xw, .ref xr, .ref xg, .int pcv, .int trv, .int vav, .int dnv])), (xw, .inl (c1, 4096, .inl wd)), (xr, .inl (c2, 4, .inl rg)), (xg, .inl (c3, 32, .inl rs))] sz)) 0 0 (va_A [(x0, .inr (0, [.ref xw, .ref xr, .ref xg, .int pcv, .int trv, .int vav, .int dnv])), (xw, .inl (c1, 4096, .inl wd)), (xr, .inl (c2, 4, .inl rg)), (xg, .inl (c3, 32, .inl rs))] sz) := by
  refine Met.ofW (cc := cX0_jump) (maxL := 2) (ret := none) (by decide) rfl ?_
  intro p e s m args below meth c s₁ B hml hv
  obtain ⟨rfl, hsz, hP, hK, hD0⟩ := hv
  have hx := B.exec
  have hb := B.bytes
  have hr := B.returns
  have hts := atoms_spec (ws := wsX0_jump) B.pre
  have hown : s.vm.findClass RX0 = some m.cls := findClass_of_methodNamed B.named
  have hlocks := B.notSynchronized
  subst hsz
  have hD := hD0.self (sz := s.heap.size)
  generalize hAe : va_A [(x0, .inr (0, [.ref xw, .ref xr, .ref xg, .int pcv, .int trv, .int vav, .int dnv])), (xw, .inl (c1, 4096, .inl wd)), (xr, .inl (c2, 4, .inl rg)), (xg, .inl (c3, 32, .inl rs))] s.heap.size = A at hD ⊢
  have hA : ∀ q : Nat, s.heap.size ≤ q → A q := fun q h => by rw [← hAe]; exact Or.inr h
  have hS : va_S A s.heap s.heap [] := va_S.rf
  have hP : va_P (dC, dI) vwCl [(x0, .inr (0, [.ref xw, .ref xr, .ref xg, .int pcv, .int trv, .int vav, .int dnv])), (xw, .inl (c1, 4096, .inl wd)), (xr, .inl (c2, 4, .inl rg)), (xg, .inl (c3, 32, .inl rs))] s.heap := hP
  have hl := lv_entry ([.ref x0, .int a1]) (n := 2) (Nat.le_of_ble_eq_true rfl)
  rw [lg_entry_eq]
  generalize (lg_sl ([.ref x0, .int a1]) ++ List.replicate (2 - (lg_sl ([.ref x0, .int a1])).length) Slot.unset).toArray = ls at hl ⊢
  have hl : lv_has ls 2 [(0, .ref x0), (1, .int a1)] := hl
  refine lv_aload_n hx hb dX0_jump_0 rfl (lv_at hl 0 rfl) ?_
  refine lv_iload_n hx hb dX0_jump_1 rfl (lv_at hl 1 rfl) ?_
  refine va_put (D := (dC, dI)) (ci := 0) (v := .int a1) (ty := .int) (C := RX0) (T := TX0) (N := 7) hx hb hts (gw_lay lay_X0) tyX0 tyX0_ok nmX0 hown hK hP hD hS 0 rfl rfl 3 (by decide) (hts _ (gcons mF_X0_19)) (fun _ h9 => h9) rfl (by decide +kernel) rfl rfl (Nat.le_of_ble_eq_true rfl) dX0_jump_2 (fun H locs hP hD hS => ?_)
  have hP : va_P (dC, dI) vwCl [(x0, .inr (0, [.ref xw, .ref xr, .ref xg, .int a1, .int trv, .int vav, .int dnv])), (xw, .inl (c1, 4096, .inl wd)), (xr, .inl (c2, 4, .inl rg)), (xg, .inl (c3, 32, .inl rs))] H := hP
  have hD : va_D A [(x0, .inr (0, [.ref xw, .ref xr, .ref xg, .int a1, .int trv, .int vav, .int dnv])), (xw, .inl (c1, 4096, .inl wd)), (xr, .inl (c2, 4, .inl rg)), (xg, .inl (c3, 32, .inl rs))] := hD
  exact W.vret hx hb hr (fun t ht hW => ⟨⟨a1, rfl, (by unfold F_jump; rfl), by rw [ht]; exact hP, va_K.moved hW.alike hK, hD⟩, hS.F ht⟩) hS.2.2 dX0_jump_5
def F_get_pc (pcv : Int32)  : Int32 :=
  pcv
set_option maxHeartbeats 4000000 in
set_option maxRecDepth 100000 in
theorem c_get_pc (l : Launch) (dC : Nat → ClassId) (dI : Nat → Nat → Nat) (x0 xw xr xg : Nat) (c1 c2 c3 : ClassId) (wd : Nat → Int32) (rg : Nat → Int32) (rs : Nat → Int32) (pcv : Int32) (trv : Int32) (vav : Int32) (dnv : Int32)   : Met l yX0_pc wsX0_pc ({ frames := 0, cells := 0, slots := 0, locals := 0 }) (va_Pc [.ref x0] (fun U => va_P (dC, dI) vwCl [(x0, .inr (0, [.ref xw, .ref xr, .ref xg, .int pcv, .int trv, .int vav, .int dnv])), (xw, .inl (c1, 4096, .inl wd)), (xr, .inl (c2, 4, .inl rg)), (xg, .inl (c3, 32, .inl rs))] U.heap ∧ va_K (dC, dI) vwCl [(c1, .int), (c2, .int), (c3, .int)] U)) (vp_Si (fun r : Int32 => r = F_get_pc pcv)) 0 0 (fun _ => False) := by
  refine Met.ofW (cc := cX0_pc) (maxL := 1) (ret := (some .int)) (by decide) rfl ?_
  intro p e s m args below meth c s₁ B hml hv
  obtain ⟨rfl, hP, hK⟩ := hv
  have hx := B.exec
  have hb := B.bytes
  have hr := B.returns
  have hts := atoms_spec (ws := wsX0_pc) B.pre
  have hown : s.vm.findClass RX0 = some m.cls := findClass_of_methodNamed B.named
  have hlocks := B.notSynchronized
  have hP : va_P (dC, dI) vwCl [(x0, .inr (0, [.ref xw, .ref xr, .ref xg, .int pcv, .int trv, .int vav, .int dnv])), (xw, .inl (c1, 4096, .inl wd)), (xr, .inl (c2, 4, .inl rg)), (xg, .inl (c3, 32, .inl rs))] s.heap := hP
  have hl := lv_entry ([.ref x0]) (n := 1) (Nat.le_of_ble_eq_true rfl)
  rw [lg_entry_eq]
  generalize (lg_sl ([.ref x0]) ++ List.replicate (1 - (lg_sl ([.ref x0])).length) Slot.unset).toArray = ls at hl ⊢
  have hl : lv_has ls 1 [(0, .ref x0)] := hl
  refine lv_aload_n hx hb dX0_pc_0 rfl (lv_at hl 0 rfl) ?_
  refine va_get (D := (dC, dI)) (ci := 0) (v := .int pcv) (C := RX0) (T := TX0) (N := 7) hx hb hts (gw_lay lay_X0) hown hK hP 0 rfl rfl 3 (by decide) (hts _ (gcons mF_X0_19)) (fun _ h9 => h9) rfl dX0_pc_1 ?_
  exact W.iret (v := pcv) hx hb hr (fun t ht hW => ⟨_, rfl, (by unfold F_get_pc; rfl), ht⟩) (fun _ h => by cases h) dX0_pc_4
def F_get_trap (trv : Int32)  : Int32 :=
  trv
set_option maxHeartbeats 4000000 in
set_option maxRecDepth 100000 in
theorem c_get_trap (l : Launch) (dC : Nat → ClassId) (dI : Nat → Nat → Nat) (x0 xw xr xg : Nat) (c1 c2 c3 : ClassId) (wd : Nat → Int32) (rg : Nat → Int32) (rs : Nat → Int32) (pcv : Int32) (trv : Int32) (vav : Int32) (dnv : Int32)   : Met l yX0_trap wsX0_trap ({ frames := 0, cells := 0, slots := 0, locals := 0 }) (va_Pc [.ref x0] (fun U => va_P (dC, dI) vwCl [(x0, .inr (0, [.ref xw, .ref xr, .ref xg, .int pcv, .int trv, .int vav, .int dnv])), (xw, .inl (c1, 4096, .inl wd)), (xr, .inl (c2, 4, .inl rg)), (xg, .inl (c3, 32, .inl rs))] U.heap ∧ va_K (dC, dI) vwCl [(c1, .int), (c2, .int), (c3, .int)] U)) (vp_Si (fun r : Int32 => r = F_get_trap trv)) 0 0 (fun _ => False) := by
  refine Met.ofW (cc := cX0_trap) (maxL := 1) (ret := (some .int)) (by decide) rfl ?_
  intro p e s m args below meth c s₁ B hml hv
  obtain ⟨rfl, hP, hK⟩ := hv
  have hx := B.exec
  have hb := B.bytes
  have hr := B.returns
  have hts := atoms_spec (ws := wsX0_trap) B.pre
  have hown : s.vm.findClass RX0 = some m.cls := findClass_of_methodNamed B.named
  have hlocks := B.notSynchronized
  have hP : va_P (dC, dI) vwCl [(x0, .inr (0, [.ref xw, .ref xr, .ref xg, .int pcv, .int trv, .int vav, .int dnv])), (xw, .inl (c1, 4096, .inl wd)), (xr, .inl (c2, 4, .inl rg)), (xg, .inl (c3, 32, .inl rs))] s.heap := hP
  have hl := lv_entry ([.ref x0]) (n := 1) (Nat.le_of_ble_eq_true rfl)
  rw [lg_entry_eq]
  generalize (lg_sl ([.ref x0]) ++ List.replicate (1 - (lg_sl ([.ref x0])).length) Slot.unset).toArray = ls at hl ⊢
  have hl : lv_has ls 1 [(0, .ref x0)] := hl
  refine lv_aload_n hx hb dX0_trap_0 rfl (lv_at hl 0 rfl) ?_
  refine va_get (D := (dC, dI)) (ci := 0) (v := .int trv) (C := RX0) (T := TX0) (N := 7) hx hb hts (gw_lay lay_X0) hown hK hP 0 rfl rfl 4 (by decide) (hts _ (gcons mF_X0_23)) (fun _ h9 => h9) rfl dX0_trap_1 ?_
  exact W.iret (v := trv) hx hb hr (fun t ht hW => ⟨_, rfl, (by unfold F_get_trap; rfl), ht⟩) (fun _ h => by cases h) dX0_trap_4
def F_get_value (vav : Int32)  : Int32 :=
  vav
set_option maxHeartbeats 4000000 in
set_option maxRecDepth 100000 in
theorem c_get_value (l : Launch) (dC : Nat → ClassId) (dI : Nat → Nat → Nat) (x0 xw xr xg : Nat) (c1 c2 c3 : ClassId) (wd : Nat → Int32) (rg : Nat → Int32) (rs : Nat → Int32) (pcv : Int32) (trv : Int32) (vav : Int32) (dnv : Int32)   : Met l yX0_value wsX0_value ({ frames := 0, cells := 0, slots := 0, locals := 0 }) (va_Pc [.ref x0] (fun U => va_P (dC, dI) vwCl [(x0, .inr (0, [.ref xw, .ref xr, .ref xg, .int pcv, .int trv, .int vav, .int dnv])), (xw, .inl (c1, 4096, .inl wd)), (xr, .inl (c2, 4, .inl rg)), (xg, .inl (c3, 32, .inl rs))] U.heap ∧ va_K (dC, dI) vwCl [(c1, .int), (c2, .int), (c3, .int)] U)) (vp_Si (fun r : Int32 => r = F_get_value vav)) 0 0 (fun _ => False) := by
  refine Met.ofW (cc := cX0_value) (maxL := 1) (ret := (some .int)) (by decide) rfl ?_
  intro p e s m args below meth c s₁ B hml hv
  obtain ⟨rfl, hP, hK⟩ := hv
  have hx := B.exec
  have hb := B.bytes
  have hr := B.returns
  have hts := atoms_spec (ws := wsX0_value) B.pre
  have hown : s.vm.findClass RX0 = some m.cls := findClass_of_methodNamed B.named
  have hlocks := B.notSynchronized
  have hP : va_P (dC, dI) vwCl [(x0, .inr (0, [.ref xw, .ref xr, .ref xg, .int pcv, .int trv, .int vav, .int dnv])), (xw, .inl (c1, 4096, .inl wd)), (xr, .inl (c2, 4, .inl rg)), (xg, .inl (c3, 32, .inl rs))] s.heap := hP
  have hl := lv_entry ([.ref x0]) (n := 1) (Nat.le_of_ble_eq_true rfl)
  rw [lg_entry_eq]
  generalize (lg_sl ([.ref x0]) ++ List.replicate (1 - (lg_sl ([.ref x0])).length) Slot.unset).toArray = ls at hl ⊢
  have hl : lv_has ls 1 [(0, .ref x0)] := hl
  refine lv_aload_n hx hb dX0_value_0 rfl (lv_at hl 0 rfl) ?_
  refine va_get (D := (dC, dI)) (ci := 0) (v := .int vav) (C := RX0) (T := TX0) (N := 7) hx hb hts (gw_lay lay_X0) hown hK hP 0 rfl rfl 5 (by decide) (hts _ (gcons mF_X0_26)) (fun _ h9 => h9) rfl dX0_value_1 ?_
  exact W.iret (v := vav) hx hb hr (fun t ht hW => ⟨_, rfl, (by unfold F_get_value; rfl), ht⟩) (fun _ h => by cases h) dX0_value_4
def F_get_done (dnv : Int32)  : Int32 :=
  dnv
set_option maxHeartbeats 4000000 in
set_option maxRecDepth 100000 in
theorem c_get_done (l : Launch) (dC : Nat → ClassId) (dI : Nat → Nat → Nat) (x0 xw xr xg : Nat) (c1 c2 c3 : ClassId) (wd : Nat → Int32) (rg : Nat → Int32) (rs : Nat → Int32) (pcv : Int32) (trv : Int32) (vav : Int32) (dnv : Int32)   : Met l yX0_done wsX0_done ({ frames := 0, cells := 0, slots := 0, locals := 0 }) (va_Pc [.ref x0] (fun U => va_P (dC, dI) vwCl [(x0, .inr (0, [.ref xw, .ref xr, .ref xg, .int pcv, .int trv, .int vav, .int dnv])), (xw, .inl (c1, 4096, .inl wd)), (xr, .inl (c2, 4, .inl rg)), (xg, .inl (c3, 32, .inl rs))] U.heap ∧ va_K (dC, dI) vwCl [(c1, .int), (c2, .int), (c3, .int)] U)) (vp_Si (fun r : Int32 => r = F_get_done dnv)) 0 0 (fun _ => False) := by
  refine Met.ofW (cc := cX0_done) (maxL := 1) (ret := (some .int)) (by decide) rfl ?_
  intro p e s m args below meth c s₁ B hml hv
  obtain ⟨rfl, hP, hK⟩ := hv
  have hx := B.exec
  have hb := B.bytes
  have hr := B.returns
  have hts := atoms_spec (ws := wsX0_done) B.pre
  have hown : s.vm.findClass RX0 = some m.cls := findClass_of_methodNamed B.named
  have hlocks := B.notSynchronized
  have hP : va_P (dC, dI) vwCl [(x0, .inr (0, [.ref xw, .ref xr, .ref xg, .int pcv, .int trv, .int vav, .int dnv])), (xw, .inl (c1, 4096, .inl wd)), (xr, .inl (c2, 4, .inl rg)), (xg, .inl (c3, 32, .inl rs))] s.heap := hP
  have hl := lv_entry ([.ref x0]) (n := 1) (Nat.le_of_ble_eq_true rfl)
  rw [lg_entry_eq]
  generalize (lg_sl ([.ref x0]) ++ List.replicate (1 - (lg_sl ([.ref x0])).length) Slot.unset).toArray = ls at hl ⊢
  have hl : lv_has ls 1 [(0, .ref x0)] := hl
  refine lv_aload_n hx hb dX0_done_0 rfl (lv_at hl 0 rfl) ?_
  refine va_get (D := (dC, dI)) (ci := 0) (v := .int dnv) (C := RX0) (T := TX0) (N := 7) hx hb hts (gw_lay lay_X0) hown hK hP 0 rfl rfl 6 (by decide) (hts _ (gcons mF_X0_29)) (fun _ h9 => h9) rfl dX0_done_1 ?_
  exact W.iret (v := dnv) hx hb hr (fun t ht hW => ⟨_, rfl, (by unfold F_get_done; rfl), ht⟩) (fun _ h => by cases h) dX0_done_4
end
section
set_option maxHeartbeats 4000000 in
set_option maxRecDepth 100000 in
theorem c_init0 (l : Launch) (dC : Nat → ClassId) (dI : Nat → Nat → Nat) (x0 : Nat) (sz : Nat) : Met l yX0_init wsX0_init ({ frames := 1, cells := 3, slots := 4132, locals := 12 }) (va_Pc [.ref x0] (fun U => U.heap.size = sz ∧ va_P (dC, dI) vwCl [(x0, .inr (0, [.null, .null, .null, .int 0, .int 0, .int 0, .int 0]))] U.heap ∧ va_K (dC, dI) vwCl [] U ∧ va_D (fun _ => True) [(x0, .inr (0, [.null, .null, .null, .int 0, .int 0, .int 0, .int 0]))])) (va_Qv (fun _ : Nat × Nat × Nat × ClassId × ClassId × ClassId => True) (fun (u : Nat × Nat × Nat × ClassId × ClassId × ClassId) (t : State) => va_P (dC, dI) vwCl [(x0, .inr (0, [.ref u.1, .ref u.2.1, .ref u.2.2.1, .int 0, .int ((-1)), .int 0, .int 0])), (u.1, .inl (u.2.2.2.1, 4096, .inl (fun _ => 0))), (u.2.1, .inl (u.2.2.2.2.1, 4, .inl (upd (upd (upd (upd (fun _ => 0) 0 7) 1 7) 2 7) 3 7))), (u.2.2.1, .inl (u.2.2.2.2.2, 32, .inl (fun _ => 0)))] t.heap ∧ va_K (dC, dI) vwCl [(u.2.2.2.1, .int), (u.2.2.2.2.1, .int), (u.2.2.2.2.2, .int)] t ∧ va_D (va_A [(x0, .inr (0, [.null, .null, .null, .int 0, .int 0, .int 0, .int 0]))] sz) [(x0, .inr (0, [.ref u.1, .ref u.2.1, .ref u.2.2.1, .int 0, .int ((-1)), .int 0, .int 0])), (u.1, .inl (u.2.2.2.1, 4096, .inl (fun _ => 0))), (u.2.1, .inl (u.2.2.2.2.1, 4, .inl (upd (upd (upd (upd (fun _ => 0) 0 7) 1 7) 2 7) 3 7))), (u.2.2.1, .inl (u.2.2.2.2.2, 32, .inl (fun _ => 0)))]) (va_A [(x0, .inr (0, [.null, .null, .null, .int 0, .int 0, .int 0, .int 0]))] sz)) 3 4132 (va_A [(x0, .inr (0, [.null, .null, .null, .int 0, .int 0, .int 0, .int 0]))] sz) := by
  refine Met.ofW (cc := cX0_init) (maxL := 1) (ret := none) (by decide) rfl ?_
  intro p e s m args below meth c s₁ B hml hv
  obtain ⟨rfl, hsz, hP, hK, hD0⟩ := hv
  have hx := B.exec
  have hb := B.bytes
  have hr := B.returns
  have hts := atoms_spec (ws := wsX0_init) B.pre
  have hown : s.vm.findClass RX0 = some m.cls := findClass_of_methodNamed B.named
  have hlocks := B.notSynchronized
  have hin : meth.name = "<init>" := (name_of_methodNamed B.named B.method).1
  subst hsz
  have hD := hD0.self (sz := s.heap.size)
  generalize hAe : va_A [(x0, .inr (0, [.null, .null, .null, .int 0, .int 0, .int 0, .int 0]))] s.heap.size = A at hD ⊢
  have hA : ∀ q : Nat, s.heap.size ≤ q → A q := fun q h => by rw [← hAe]; exact Or.inr h
  have hS : va_S A s.heap s.heap [] := va_S.rf
  have hP : va_P (dC, dI) vwCl [(x0, .inr (0, [.null, .null, .null, .int 0, .int 0, .int 0, .int 0]))] s.heap := hP
  have hl := lv_entry ([.ref x0]) (n := 1) (Nat.le_of_ble_eq_true rfl)
  rw [lg_entry_eq]
  generalize (lg_sl ([.ref x0]) ++ List.replicate (1 - (lg_sl ([.ref x0])).length) Slot.unset).toArray = ls at hl ⊢
  have hl : lv_has ls 1 [(0, .ref x0)] := hl
  refine lv_aload_n hx hb dX0_init_0 rfl (lv_at hl 0 rfl) ?_
  refine W.objInit hx hb hown (hts _ (gcons mL_X0_3)) (hts _ (gcons mI_objectInit)) (hts _ (gcons mC_objectInit)) rfl (by rw [hml]; exact hl.1) rfl dX0_init_1 (Nat.le_of_ble_eq_true rfl) (Nat.le_of_ble_eq_true rfl) ?_
  refine W.eq (g2 := F0 m 4 ls []) rfl ?_
  refine lv_aload_n hx hb dX0_init_4 rfl (lv_at hl 0 rfl) ?_
  refine lv_sipush (v := 4096) hx hb dX0_init_5 (by decide) ?_
  refine va_newa (atype := .int) (ty := .int) hx hb (hts _ (gcons mA_int)) rfl hK hP hD hS hA (n := 4096) (N' := 4096) (a0 := (4096, .inl (fun _ => 0))) (fun _ => rfl) (by decide) (by decide) (by decide) (Nat.le_of_ble_eq_true rfl) (Nat.le_of_ble_eq_true rfl) dX0_init_8 (fun q1 k1 H hK hP hD hS => ?_)
  have hP : va_P (dC, dI) vwCl [(x0, .inr (0, [.null, .null, .null, .int 0, .int 0, .int 0, .int 0])), (q1, .inl (k1, 4096, .inl (fun _ => 0)))] H := hP
  have hD : va_D A [(x0, .inr (0, [.null, .null, .null, .int 0, .int 0, .int 0, .int 0])), (q1, .inl (k1, 4096, .inl (fun _ => 0)))] := hD
  have hK : va_K (dC, dI) vwCl [(k1, .int)] s := hK
  refine W.widen (k := 1) (n := 4096) (Nat.le_of_ble_eq_true rfl) (Nat.le_of_ble_eq_true rfl) ?_
  refine va_putF (D := (dC, dI)) (ci := 0) (v := .ref q1) (ty := (.array .int)) (C := RX0) (T := TX0) (N := 7) hx hb hts (gw_lay lay_X0) tyX0 tyX0_ok nmX0 hown hK hP hD hS 0 rfl rfl 0 (by decide) (hts _ (gcons mF_X0_9)) (fun _ h9 => h9) rfl hin rfl (by decide +kernel) rfl rfl (Nat.le_of_ble_eq_true rfl) dX0_init_10 (fun H locs hP hD hS => ?_)
  have hP : va_P (dC, dI) vwCl [(x0, .inr (0, [.ref q1, .null, .null, .int 0, .int 0, .int 0, .int 0])), (q1, .inl (k1, 4096, .inl (fun _ => 0)))] H := hP
  have hD : va_D A [(x0, .inr (0, [.ref q1, .null, .null, .int 0, .int 0, .int 0, .int 0])), (q1, .inl (k1, 4096, .inl (fun _ => 0)))] := hD
  refine lv_aload_n hx hb dX0_init_13 rfl (lv_at hl 0 rfl) ?_
  refine lv_iconst (v := 4) hx hb dX0_init_14 (by decide) ?_
  refine va_newa (atype := .int) (ty := .int) hx hb (hts _ (gcons mA_int)) rfl hK hP hD hS hA (n := 4) (N' := 4) (a0 := (4, .inl (fun _ => 0))) (fun _ => rfl) (by decide) (by decide) (by decide) (Nat.le_of_ble_eq_true rfl) (Nat.le_of_ble_eq_true rfl) dX0_init_15 (fun q2 k2 H hK hP hD hS => ?_)
  have hP : va_P (dC, dI) vwCl [(x0, .inr (0, [.ref q1, .null, .null, .int 0, .int 0, .int 0, .int 0])), (q1, .inl (k1, 4096, .inl (fun _ => 0))), (q2, .inl (k2, 4, .inl (fun _ => 0)))] H := hP
  have hD : va_D A [(x0, .inr (0, [.ref q1, .null, .null, .int 0, .int 0, .int 0, .int 0])), (q1, .inl (k1, 4096, .inl (fun _ => 0))), (q2, .inl (k2, 4, .inl (fun _ => 0)))] := hD
  have hK : va_K (dC, dI) vwCl [(k1, .int), (k2, .int)] s := hK
  refine W.widen (k := 2) (n := 4100) (Nat.le_of_ble_eq_true rfl) (Nat.le_of_ble_eq_true rfl) ?_
  refine lv_dup hx hb dX0_init_17 rfl ?_
  refine lv_iconst (v := 0) hx hb dX0_init_18 (by decide) ?_
  refine lv_bipush (v := 7) hx hb dX0_init_19 (by decide) ?_
  refine va_iast hx hb hK hP hD hS 2 1 rfl rfl (show vp_in (0 : Int32) 4 by rw [vp_in_iff]; decide) dX0_init_21 (fun H locs hP hD hS => ?_)
  have hP : va_P (dC, dI) vwCl [(x0, .inr (0, [.ref q1, .null, .null, .int 0, .int 0, .int 0, .int 0])), (q1, .inl (k1, 4096, .inl (fun _ => 0))), (q2, .inl (k2, 4, .inl (upd (fun _ => 0) 0 7)))] H := hP
  have hD : va_D A [(x0, .inr (0, [.ref q1, .null, .null, .int 0, .int 0, .int 0, .int 0])), (q1, .inl (k1, 4096, .inl (fun _ => 0))), (q2, .inl (k2, 4, .inl (upd (fun _ => 0) 0 7)))] := hD
  refine lv_dup hx hb dX0_init_22 rfl ?_
  refine lv_iconst (v := 1) hx hb dX0_init_23 (by decide) ?_
  refine lv_bipush (v := 7) hx hb dX0_init_24 (by decide) ?_
  refine va_iast hx hb hK hP hD hS 2 1 rfl rfl (show vp_in (1 : Int32) 4 by rw [vp_in_iff]; decide) dX0_init_26 (fun H locs hP hD hS => ?_)
  have hP : va_P (dC, dI) vwCl [(x0, .inr (0, [.ref q1, .null, .null, .int 0, .int 0, .int 0, .int 0])), (q1, .inl (k1, 4096, .inl (fun _ => 0))), (q2, .inl (k2, 4, .inl (upd (upd (fun _ => 0) 0 7) 1 7)))] H := hP
  have hD : va_D A [(x0, .inr (0, [.ref q1, .null, .null, .int 0, .int 0, .int 0, .int 0])), (q1, .inl (k1, 4096, .inl (fun _ => 0))), (q2, .inl (k2, 4, .inl (upd (upd (fun _ => 0) 0 7) 1 7)))] := hD
  refine lv_dup hx hb dX0_init_27 rfl ?_
  refine lv_iconst (v := 2) hx hb dX0_init_28 (by decide) ?_
  refine lv_bipush (v := 7) hx hb dX0_init_29 (by decide) ?_
  refine va_iast hx hb hK hP hD hS 2 1 rfl rfl (show vp_in (2 : Int32) 4 by rw [vp_in_iff]; decide) dX0_init_31 (fun H locs hP hD hS => ?_)
  have hP : va_P (dC, dI) vwCl [(x0, .inr (0, [.ref q1, .null, .null, .int 0, .int 0, .int 0, .int 0])), (q1, .inl (k1, 4096, .inl (fun _ => 0))), (q2, .inl (k2, 4, .inl (upd (upd (upd (fun _ => 0) 0 7) 1 7) 2 7)))] H := hP
  have hD : va_D A [(x0, .inr (0, [.ref q1, .null, .null, .int 0, .int 0, .int 0, .int 0])), (q1, .inl (k1, 4096, .inl (fun _ => 0))), (q2, .inl (k2, 4, .inl (upd (upd (upd (fun _ => 0) 0 7) 1 7) 2 7)))] := hD
  refine lv_dup hx hb dX0_init_32 rfl ?_
  refine lv_iconst (v := 3) hx hb dX0_init_33 (by decide) ?_
  refine lv_bipush (v := 7) hx hb dX0_init_34 (by decide) ?_
  refine va_iast hx hb hK hP hD hS 2 1 rfl rfl (show vp_in (3 : Int32) 4 by rw [vp_in_iff]; decide) dX0_init_36 (fun H locs hP hD hS => ?_)
  have hP : va_P (dC, dI) vwCl [(x0, .inr (0, [.ref q1, .null, .null, .int 0, .int 0, .int 0, .int 0])), (q1, .inl (k1, 4096, .inl (fun _ => 0))), (q2, .inl (k2, 4, .inl (upd (upd (upd (upd (fun _ => 0) 0 7) 1 7) 2 7) 3 7)))] H := hP
  have hD : va_D A [(x0, .inr (0, [.ref q1, .null, .null, .int 0, .int 0, .int 0, .int 0])), (q1, .inl (k1, 4096, .inl (fun _ => 0))), (q2, .inl (k2, 4, .inl (upd (upd (upd (upd (fun _ => 0) 0 7) 1 7) 2 7) 3 7)))] := hD
  refine va_putF (D := (dC, dI)) (ci := 0) (v := .ref q2) (ty := (.array .int)) (C := RX0) (T := TX0) (N := 7) hx hb hts (gw_lay lay_X0) tyX0 tyX0_ok nmX0 hown hK hP hD hS 0 rfl rfl 1 (by decide) (hts _ (gcons mF_X0_13)) (fun _ h9 => h9) rfl hin rfl (by decide +kernel) rfl rfl (Nat.le_of_ble_eq_true rfl) dX0_init_37 (fun H locs hP hD hS => ?_)
  have hP : va_P (dC, dI) vwCl [(x0, .inr (0, [.ref q1, .ref q2, .null, .int 0, .int 0, .int 0, .int 0])), (q1, .inl (k1, 4096, .inl (fun _ => 0))), (q2, .inl (k2, 4, .inl (upd (upd (upd (upd (fun _ => 0) 0 7) 1 7) 2 7) 3 7)))] H := hP
  have hD : va_D A [(x0, .inr (0, [.ref q1, .ref q2, .null, .int 0, .int 0, .int 0, .int 0])), (q1, .inl (k1, 4096, .inl (fun _ => 0))), (q2, .inl (k2, 4, .inl (upd (upd (upd (upd (fun _ => 0) 0 7) 1 7) 2 7) 3 7)))] := hD
  refine lv_aload_n hx hb dX0_init_40 rfl (lv_at hl 0 rfl) ?_
  refine lv_bipush (v := 32) hx hb dX0_init_41 (by decide) ?_
  refine va_newa (atype := .int) (ty := .int) hx hb (hts _ (gcons mA_int)) rfl hK hP hD hS hA (n := 32) (N' := 32) (a0 := (32, .inl (fun _ => 0))) (fun _ => rfl) (by decide) (by decide) (by decide) (Nat.le_of_ble_eq_true rfl) (Nat.le_of_ble_eq_true rfl) dX0_init_43 (fun q3 k3 H hK hP hD hS => ?_)
  have hP : va_P (dC, dI) vwCl [(x0, .inr (0, [.ref q1, .ref q2, .null, .int 0, .int 0, .int 0, .int 0])), (q1, .inl (k1, 4096, .inl (fun _ => 0))), (q2, .inl (k2, 4, .inl (upd (upd (upd (upd (fun _ => 0) 0 7) 1 7) 2 7) 3 7))), (q3, .inl (k3, 32, .inl (fun _ => 0)))] H := hP
  have hD : va_D A [(x0, .inr (0, [.ref q1, .ref q2, .null, .int 0, .int 0, .int 0, .int 0])), (q1, .inl (k1, 4096, .inl (fun _ => 0))), (q2, .inl (k2, 4, .inl (upd (upd (upd (upd (fun _ => 0) 0 7) 1 7) 2 7) 3 7))), (q3, .inl (k3, 32, .inl (fun _ => 0)))] := hD
  have hK : va_K (dC, dI) vwCl [(k1, .int), (k2, .int), (k3, .int)] s := hK
  refine W.widen (k := 3) (n := 4132) (Nat.le_of_ble_eq_true rfl) (Nat.le_of_ble_eq_true rfl) ?_
  refine va_putF (D := (dC, dI)) (ci := 0) (v := .ref q3) (ty := (.array .int)) (C := RX0) (T := TX0) (N := 7) hx hb hts (gw_lay lay_X0) tyX0 tyX0_ok nmX0 hown hK hP hD hS 0 rfl rfl 2 (by decide) (hts _ (gcons mF_X0_16)) (fun _ h9 => h9) rfl hin rfl (by decide +kernel) rfl rfl (Nat.le_of_ble_eq_true rfl) dX0_init_45 (fun H locs hP hD hS => ?_)
  have hP : va_P (dC, dI) vwCl [(x0, .inr (0, [.ref q1, .ref q2, .ref q3, .int 0, .int 0, .int 0, .int 0])), (q1, .inl (k1, 4096, .inl (fun _ => 0))), (q2, .inl (k2, 4, .inl (upd (upd (upd (upd (fun _ => 0) 0 7) 1 7) 2 7) 3 7))), (q3, .inl (k3, 32, .inl (fun _ => 0)))] H := hP
  have hD : va_D A [(x0, .inr (0, [.ref q1, .ref q2, .ref q3, .int 0, .int 0, .int 0, .int 0])), (q1, .inl (k1, 4096, .inl (fun _ => 0))), (q2, .inl (k2, 4, .inl (upd (upd (upd (upd (fun _ => 0) 0 7) 1 7) 2 7) 3 7))), (q3, .inl (k3, 32, .inl (fun _ => 0)))] := hD
  refine lv_aload_n hx hb dX0_init_48 rfl (lv_at hl 0 rfl) ?_
  refine lv_iconst (v := 0) hx hb dX0_init_49 (by decide) ?_
  refine va_put (D := (dC, dI)) (ci := 0) (v := .int 0) (ty := .int) (C := RX0) (T := TX0) (N := 7) hx hb hts (gw_lay lay_X0) tyX0 tyX0_ok nmX0 hown hK hP hD hS 0 rfl rfl 3 (by decide) (hts _ (gcons mF_X0_19)) (fun _ h9 => h9) rfl (by decide +kernel) rfl rfl (Nat.le_of_ble_eq_true rfl) dX0_init_50 (fun H locs hP hD hS => ?_)
  have hP : va_P (dC, dI) vwCl [(x0, .inr (0, [.ref q1, .ref q2, .ref q3, .int 0, .int 0, .int 0, .int 0])), (q1, .inl (k1, 4096, .inl (fun _ => 0))), (q2, .inl (k2, 4, .inl (upd (upd (upd (upd (fun _ => 0) 0 7) 1 7) 2 7) 3 7))), (q3, .inl (k3, 32, .inl (fun _ => 0)))] H := hP
  have hD : va_D A [(x0, .inr (0, [.ref q1, .ref q2, .ref q3, .int 0, .int 0, .int 0, .int 0])), (q1, .inl (k1, 4096, .inl (fun _ => 0))), (q2, .inl (k2, 4, .inl (upd (upd (upd (upd (fun _ => 0) 0 7) 1 7) 2 7) 3 7))), (q3, .inl (k3, 32, .inl (fun _ => 0)))] := hD
  refine lv_aload_n hx hb dX0_init_53 rfl (lv_at hl 0 rfl) ?_
  refine lv_iconst (v := (-1)) hx hb dX0_init_54 (by decide) ?_
  refine va_put (D := (dC, dI)) (ci := 0) (v := .int ((-1))) (ty := .int) (C := RX0) (T := TX0) (N := 7) hx hb hts (gw_lay lay_X0) tyX0 tyX0_ok nmX0 hown hK hP hD hS 0 rfl rfl 4 (by decide) (hts _ (gcons mF_X0_23)) (fun _ h9 => h9) rfl (by decide +kernel) rfl rfl (Nat.le_of_ble_eq_true rfl) dX0_init_55 (fun H locs hP hD hS => ?_)
  have hP : va_P (dC, dI) vwCl [(x0, .inr (0, [.ref q1, .ref q2, .ref q3, .int 0, .int ((-1)), .int 0, .int 0])), (q1, .inl (k1, 4096, .inl (fun _ => 0))), (q2, .inl (k2, 4, .inl (upd (upd (upd (upd (fun _ => 0) 0 7) 1 7) 2 7) 3 7))), (q3, .inl (k3, 32, .inl (fun _ => 0)))] H := hP
  have hD : va_D A [(x0, .inr (0, [.ref q1, .ref q2, .ref q3, .int 0, .int ((-1)), .int 0, .int 0])), (q1, .inl (k1, 4096, .inl (fun _ => 0))), (q2, .inl (k2, 4, .inl (upd (upd (upd (upd (fun _ => 0) 0 7) 1 7) 2 7) 3 7))), (q3, .inl (k3, 32, .inl (fun _ => 0)))] := hD
  refine lv_aload_n hx hb dX0_init_58 rfl (lv_at hl 0 rfl) ?_
  refine lv_iconst (v := 0) hx hb dX0_init_59 (by decide) ?_
  refine va_put (D := (dC, dI)) (ci := 0) (v := .int 0) (ty := .int) (C := RX0) (T := TX0) (N := 7) hx hb hts (gw_lay lay_X0) tyX0 tyX0_ok nmX0 hown hK hP hD hS 0 rfl rfl 5 (by decide) (hts _ (gcons mF_X0_26)) (fun _ h9 => h9) rfl (by decide +kernel) rfl rfl (Nat.le_of_ble_eq_true rfl) dX0_init_60 (fun H locs hP hD hS => ?_)
  have hP : va_P (dC, dI) vwCl [(x0, .inr (0, [.ref q1, .ref q2, .ref q3, .int 0, .int ((-1)), .int 0, .int 0])), (q1, .inl (k1, 4096, .inl (fun _ => 0))), (q2, .inl (k2, 4, .inl (upd (upd (upd (upd (fun _ => 0) 0 7) 1 7) 2 7) 3 7))), (q3, .inl (k3, 32, .inl (fun _ => 0)))] H := hP
  have hD : va_D A [(x0, .inr (0, [.ref q1, .ref q2, .ref q3, .int 0, .int ((-1)), .int 0, .int 0])), (q1, .inl (k1, 4096, .inl (fun _ => 0))), (q2, .inl (k2, 4, .inl (upd (upd (upd (upd (fun _ => 0) 0 7) 1 7) 2 7) 3 7))), (q3, .inl (k3, 32, .inl (fun _ => 0)))] := hD
  refine lv_aload_n hx hb dX0_init_63 rfl (lv_at hl 0 rfl) ?_
  refine lv_iconst (v := 0) hx hb dX0_init_64 (by decide) ?_
  refine va_put (D := (dC, dI)) (ci := 0) (v := .int 0) (ty := .int) (C := RX0) (T := TX0) (N := 7) hx hb hts (gw_lay lay_X0) tyX0 tyX0_ok nmX0 hown hK hP hD hS 0 rfl rfl 6 (by decide) (hts _ (gcons mF_X0_29)) (fun _ h9 => h9) rfl (by decide +kernel) rfl rfl (Nat.le_of_ble_eq_true rfl) dX0_init_65 (fun H locs hP hD hS => ?_)
  have hP : va_P (dC, dI) vwCl [(x0, .inr (0, [.ref q1, .ref q2, .ref q3, .int 0, .int ((-1)), .int 0, .int 0])), (q1, .inl (k1, 4096, .inl (fun _ => 0))), (q2, .inl (k2, 4, .inl (upd (upd (upd (upd (fun _ => 0) 0 7) 1 7) 2 7) 3 7))), (q3, .inl (k3, 32, .inl (fun _ => 0)))] H := hP
  have hD : va_D A [(x0, .inr (0, [.ref q1, .ref q2, .ref q3, .int 0, .int ((-1)), .int 0, .int 0])), (q1, .inl (k1, 4096, .inl (fun _ => 0))), (q2, .inl (k2, 4, .inl (upd (upd (upd (upd (fun _ => 0) 0 7) 1 7) 2 7) 3 7))), (q3, .inl (k3, 32, .inl (fun _ => 0)))] := hD
  exact W.vret hx hb hr (fun t ht hW => ⟨⟨(q1, q2, q3, k1, k2, k3), rfl, trivial, by rw [ht]; exact hP, va_K.moved hW.alike hK, hD⟩, hS.F ht⟩) hS.2.2 dX0_init_68
set_option maxHeartbeats 4000000 in
set_option maxRecDepth 100000 in
theorem c_init1 (l : Launch) (dC : Nat → ClassId) (dI : Nat → Nat → Nat) (y0 : Nat) (sz : Nat) : Met l yX1_init wsX1_init ({ frames := 1, cells := 3, slots := 16420, locals := 12 }) (va_Pc [.ref y0] (fun U => U.heap.size = sz ∧ va_P (dC, dI) vwCl [(y0, .inr (1, [.int 0, .null, .null, .null, .int 0, .int 0, .int 0, .int 0, .int 0, .int 0, .int 0, .int 0]))] U.heap ∧ va_K (dC, dI) vwCl [] U ∧ va_D (fun _ => True) [(y0, .inr (1, [.int 0, .null, .null, .null, .int 0, .int 0, .int 0, .int 0, .int 0, .int 0, .int 0, .int 0]))])) (va_Qv (fun _ : Nat × Nat × Nat × ClassId × ClassId × ClassId => True) (fun (u : Nat × Nat × Nat × ClassId × ClassId × ClassId) (t : State) => va_P (dC, dI) vwCl [(y0, .inr (1, [.int 0, .ref u.1, .ref u.2.1, .ref u.2.2.1, .int 0, .int ((-1)), .int 0, .int 0, .int 0, .int 0, .int 0, .int 0])), (u.1, .inl (u.2.2.2.1, 16384, .inl (fun _ => 0))), (u.2.1, .inl (u.2.2.2.2.1, 4, .inl (upd (upd (upd (upd (fun _ => 0) 0 7) 1 7) 2 7) 3 7))), (u.2.2.1, .inl (u.2.2.2.2.2, 32, .inl (fun _ => 0)))] t.heap ∧ va_K (dC, dI) vwCl [(u.2.2.2.1, .byte), (u.2.2.2.2.1, .int), (u.2.2.2.2.2, .int)] t ∧ va_D (va_A [(y0, .inr (1, [.int 0, .null, .null, .null, .int 0, .int 0, .int 0, .int 0, .int 0, .int 0, .int 0, .int 0]))] sz) [(y0, .inr (1, [.int 0, .ref u.1, .ref u.2.1, .ref u.2.2.1, .int 0, .int ((-1)), .int 0, .int 0, .int 0, .int 0, .int 0, .int 0])), (u.1, .inl (u.2.2.2.1, 16384, .inl (fun _ => 0))), (u.2.1, .inl (u.2.2.2.2.1, 4, .inl (upd (upd (upd (upd (fun _ => 0) 0 7) 1 7) 2 7) 3 7))), (u.2.2.1, .inl (u.2.2.2.2.2, 32, .inl (fun _ => 0)))]) (va_A [(y0, .inr (1, [.int 0, .null, .null, .null, .int 0, .int 0, .int 0, .int 0, .int 0, .int 0, .int 0, .int 0]))] sz)) 3 16420 (va_A [(y0, .inr (1, [.int 0, .null, .null, .null, .int 0, .int 0, .int 0, .int 0, .int 0, .int 0, .int 0, .int 0]))] sz) := by
  refine Met.ofW (cc := cX1_init) (maxL := 1) (ret := none) (by decide) rfl ?_
  intro p e s m args below meth c s₁ B hml hv
  obtain ⟨rfl, hsz, hP, hK, hD0⟩ := hv
  have hx := B.exec
  have hb := B.bytes
  have hr := B.returns
  have hts := atoms_spec (ws := wsX1_init) B.pre
  have hown : s.vm.findClass RX1 = some m.cls := findClass_of_methodNamed B.named
  have hlocks := B.notSynchronized
  have hin : meth.name = "<init>" := (name_of_methodNamed B.named B.method).1
  subst hsz
  have hD := hD0.self (sz := s.heap.size)
  generalize hAe : va_A [(y0, .inr (1, [.int 0, .null, .null, .null, .int 0, .int 0, .int 0, .int 0, .int 0, .int 0, .int 0, .int 0]))] s.heap.size = A at hD ⊢
  have hA : ∀ q : Nat, s.heap.size ≤ q → A q := fun q h => by rw [← hAe]; exact Or.inr h
  have hS : va_S A s.heap s.heap [] := va_S.rf
  have hP : va_P (dC, dI) vwCl [(y0, .inr (1, [.int 0, .null, .null, .null, .int 0, .int 0, .int 0, .int 0, .int 0, .int 0, .int 0, .int 0]))] s.heap := hP
  have hl := lv_entry ([.ref y0]) (n := 1) (Nat.le_of_ble_eq_true rfl)
  rw [lg_entry_eq]
  generalize (lg_sl ([.ref y0]) ++ List.replicate (1 - (lg_sl ([.ref y0])).length) Slot.unset).toArray = ls at hl ⊢
  have hl : lv_has ls 1 [(0, .ref y0)] := hl
  refine lv_aload_n hx hb dX1_init_0 rfl (lv_at hl 0 rfl) ?_
  refine W.objInit hx hb hown (hts _ (gcons mL_X1_1)) (hts _ (gcons mI_objectInit)) (hts _ (gcons mC_objectInit)) rfl (by rw [hml]; exact hl.1) rfl dX1_init_1 (Nat.le_of_ble_eq_true rfl) (Nat.le_of_ble_eq_true rfl) ?_
  refine W.eq (g2 := F0 m 4 ls []) rfl ?_
  refine lv_aload_n hx hb dX1_init_4 rfl (lv_at hl 0 rfl) ?_
  refine lv_sipush (v := 16384) hx hb dX1_init_5 (by decide) ?_
  refine va_newa (atype := .byte) (ty := .byte) hx hb (hts _ (gcons mA_byte)) rfl hK hP hD hS hA (n := 16384) (N' := 16384) (a0 := (16384, .inl (fun _ => 0))) (fun _ => rfl) (by decide) (by decide) (by decide) (Nat.le_of_ble_eq_true rfl) (Nat.le_of_ble_eq_true rfl) dX1_init_8 (fun q1 k1 H hK hP hD hS => ?_)
  have hP : va_P (dC, dI) vwCl [(y0, .inr (1, [.int 0, .null, .null, .null, .int 0, .int 0, .int 0, .int 0, .int 0, .int 0, .int 0, .int 0])), (q1, .inl (k1, 16384, .inl (fun _ => 0)))] H := hP
  have hD : va_D A [(y0, .inr (1, [.int 0, .null, .null, .null, .int 0, .int 0, .int 0, .int 0, .int 0, .int 0, .int 0, .int 0])), (q1, .inl (k1, 16384, .inl (fun _ => 0)))] := hD
  have hK : va_K (dC, dI) vwCl [(k1, .byte)] s := hK
  refine W.widen (k := 1) (n := 16384) (Nat.le_of_ble_eq_true rfl) (Nat.le_of_ble_eq_true rfl) ?_
  refine va_putF (D := (dC, dI)) (ci := 1) (v := .ref q1) (ty := (.array .byte)) (C := RX1) (T := TX1) (N := 12) hx hb hts (gw_lay lay_X1) tyX1 tyX1_ok nmX1 hown hK hP hD hS 0 rfl rfl 1 (by decide) (hts _ (gcons mF_X1_7)) (fun _ h9 => h9) rfl hin rfl (by decide +kernel) rfl rfl (Nat.le_of_ble_eq_true rfl) dX1_init_10 (fun H locs hP hD hS => ?_)
  have hP : va_P (dC, dI) vwCl [(y0, .inr (1, [.int 0, .ref q1, .null, .null, .int 0, .int 0, .int 0, .int 0, .int 0, .int 0, .int 0, .int 0])), (q1, .inl (k1, 16384, .inl (fun _ => 0)))] H := hP
  have hD : va_D A [(y0, .inr (1, [.int 0, .ref q1, .null, .null, .int 0, .int 0, .int 0, .int 0, .int 0, .int 0, .int 0, .int 0])), (q1, .inl (k1, 16384, .inl (fun _ => 0)))] := hD
  refine lv_aload_n hx hb dX1_init_13 rfl (lv_at hl 0 rfl) ?_
  refine lv_iconst (v := 4) hx hb dX1_init_14 (by decide) ?_
  refine va_newa (atype := .int) (ty := .int) hx hb (hts _ (gcons mA_int)) rfl hK hP hD hS hA (n := 4) (N' := 4) (a0 := (4, .inl (fun _ => 0))) (fun _ => rfl) (by decide) (by decide) (by decide) (Nat.le_of_ble_eq_true rfl) (Nat.le_of_ble_eq_true rfl) dX1_init_15 (fun q2 k2 H hK hP hD hS => ?_)
  have hP : va_P (dC, dI) vwCl [(y0, .inr (1, [.int 0, .ref q1, .null, .null, .int 0, .int 0, .int 0, .int 0, .int 0, .int 0, .int 0, .int 0])), (q1, .inl (k1, 16384, .inl (fun _ => 0))), (q2, .inl (k2, 4, .inl (fun _ => 0)))] H := hP
  have hD : va_D A [(y0, .inr (1, [.int 0, .ref q1, .null, .null, .int 0, .int 0, .int 0, .int 0, .int 0, .int 0, .int 0, .int 0])), (q1, .inl (k1, 16384, .inl (fun _ => 0))), (q2, .inl (k2, 4, .inl (fun _ => 0)))] := hD
  have hK : va_K (dC, dI) vwCl [(k1, .byte), (k2, .int)] s := hK
  refine W.widen (k := 2) (n := 16388) (Nat.le_of_ble_eq_true rfl) (Nat.le_of_ble_eq_true rfl) ?_
  refine lv_dup hx hb dX1_init_17 rfl ?_
  refine lv_iconst (v := 0) hx hb dX1_init_18 (by decide) ?_
  refine lv_bipush (v := 7) hx hb dX1_init_19 (by decide) ?_
  refine va_iast hx hb hK hP hD hS 2 1 rfl rfl (show vp_in (0 : Int32) 4 by rw [vp_in_iff]; decide) dX1_init_21 (fun H locs hP hD hS => ?_)
  have hP : va_P (dC, dI) vwCl [(y0, .inr (1, [.int 0, .ref q1, .null, .null, .int 0, .int 0, .int 0, .int 0, .int 0, .int 0, .int 0, .int 0])), (q1, .inl (k1, 16384, .inl (fun _ => 0))), (q2, .inl (k2, 4, .inl (upd (fun _ => 0) 0 7)))] H := hP
  have hD : va_D A [(y0, .inr (1, [.int 0, .ref q1, .null, .null, .int 0, .int 0, .int 0, .int 0, .int 0, .int 0, .int 0, .int 0])), (q1, .inl (k1, 16384, .inl (fun _ => 0))), (q2, .inl (k2, 4, .inl (upd (fun _ => 0) 0 7)))] := hD
  refine lv_dup hx hb dX1_init_22 rfl ?_
  refine lv_iconst (v := 1) hx hb dX1_init_23 (by decide) ?_
  refine lv_bipush (v := 7) hx hb dX1_init_24 (by decide) ?_
  refine va_iast hx hb hK hP hD hS 2 1 rfl rfl (show vp_in (1 : Int32) 4 by rw [vp_in_iff]; decide) dX1_init_26 (fun H locs hP hD hS => ?_)
  have hP : va_P (dC, dI) vwCl [(y0, .inr (1, [.int 0, .ref q1, .null, .null, .int 0, .int 0, .int 0, .int 0, .int 0, .int 0, .int 0, .int 0])), (q1, .inl (k1, 16384, .inl (fun _ => 0))), (q2, .inl (k2, 4, .inl (upd (upd (fun _ => 0) 0 7) 1 7)))] H := hP
  have hD : va_D A [(y0, .inr (1, [.int 0, .ref q1, .null, .null, .int 0, .int 0, .int 0, .int 0, .int 0, .int 0, .int 0, .int 0])), (q1, .inl (k1, 16384, .inl (fun _ => 0))), (q2, .inl (k2, 4, .inl (upd (upd (fun _ => 0) 0 7) 1 7)))] := hD
  refine lv_dup hx hb dX1_init_27 rfl ?_
  refine lv_iconst (v := 2) hx hb dX1_init_28 (by decide) ?_
  refine lv_bipush (v := 7) hx hb dX1_init_29 (by decide) ?_
  refine va_iast hx hb hK hP hD hS 2 1 rfl rfl (show vp_in (2 : Int32) 4 by rw [vp_in_iff]; decide) dX1_init_31 (fun H locs hP hD hS => ?_)
  have hP : va_P (dC, dI) vwCl [(y0, .inr (1, [.int 0, .ref q1, .null, .null, .int 0, .int 0, .int 0, .int 0, .int 0, .int 0, .int 0, .int 0])), (q1, .inl (k1, 16384, .inl (fun _ => 0))), (q2, .inl (k2, 4, .inl (upd (upd (upd (fun _ => 0) 0 7) 1 7) 2 7)))] H := hP
  have hD : va_D A [(y0, .inr (1, [.int 0, .ref q1, .null, .null, .int 0, .int 0, .int 0, .int 0, .int 0, .int 0, .int 0, .int 0])), (q1, .inl (k1, 16384, .inl (fun _ => 0))), (q2, .inl (k2, 4, .inl (upd (upd (upd (fun _ => 0) 0 7) 1 7) 2 7)))] := hD
  refine lv_dup hx hb dX1_init_32 rfl ?_
  refine lv_iconst (v := 3) hx hb dX1_init_33 (by decide) ?_
  refine lv_bipush (v := 7) hx hb dX1_init_34 (by decide) ?_
  refine va_iast hx hb hK hP hD hS 2 1 rfl rfl (show vp_in (3 : Int32) 4 by rw [vp_in_iff]; decide) dX1_init_36 (fun H locs hP hD hS => ?_)
  have hP : va_P (dC, dI) vwCl [(y0, .inr (1, [.int 0, .ref q1, .null, .null, .int 0, .int 0, .int 0, .int 0, .int 0, .int 0, .int 0, .int 0])), (q1, .inl (k1, 16384, .inl (fun _ => 0))), (q2, .inl (k2, 4, .inl (upd (upd (upd (upd (fun _ => 0) 0 7) 1 7) 2 7) 3 7)))] H := hP
  have hD : va_D A [(y0, .inr (1, [.int 0, .ref q1, .null, .null, .int 0, .int 0, .int 0, .int 0, .int 0, .int 0, .int 0, .int 0])), (q1, .inl (k1, 16384, .inl (fun _ => 0))), (q2, .inl (k2, 4, .inl (upd (upd (upd (upd (fun _ => 0) 0 7) 1 7) 2 7) 3 7)))] := hD
  refine va_putF (D := (dC, dI)) (ci := 1) (v := .ref q2) (ty := (.array .int)) (C := RX1) (T := TX1) (N := 12) hx hb hts (gw_lay lay_X1) tyX1 tyX1_ok nmX1 hown hK hP hD hS 0 rfl rfl 2 (by decide) (hts _ (gcons mF_X1_13)) (fun _ h9 => h9) rfl hin rfl (by decide +kernel) rfl rfl (Nat.le_of_ble_eq_true rfl) dX1_init_37 (fun H locs hP hD hS => ?_)
  have hP : va_P (dC, dI) vwCl [(y0, .inr (1, [.int 0, .ref q1, .ref q2, .null, .int 0, .int 0, .int 0, .int 0, .int 0, .int 0, .int 0, .int 0])), (q1, .inl (k1, 16384, .inl (fun _ => 0))), (q2, .inl (k2, 4, .inl (upd (upd (upd (upd (fun _ => 0) 0 7) 1 7) 2 7) 3 7)))] H := hP
  have hD : va_D A [(y0, .inr (1, [.int 0, .ref q1, .ref q2, .null, .int 0, .int 0, .int 0, .int 0, .int 0, .int 0, .int 0, .int 0])), (q1, .inl (k1, 16384, .inl (fun _ => 0))), (q2, .inl (k2, 4, .inl (upd (upd (upd (upd (fun _ => 0) 0 7) 1 7) 2 7) 3 7)))] := hD
  refine lv_aload_n hx hb dX1_init_40 rfl (lv_at hl 0 rfl) ?_
  refine lv_bipush (v := 32) hx hb dX1_init_41 (by decide) ?_
  refine va_newa (atype := .int) (ty := .int) hx hb (hts _ (gcons mA_int)) rfl hK hP hD hS hA (n := 32) (N' := 32) (a0 := (32, .inl (fun _ => 0))) (fun _ => rfl) (by decide) (by decide) (by decide) (Nat.le_of_ble_eq_true rfl) (Nat.le_of_ble_eq_true rfl) dX1_init_43 (fun q3 k3 H hK hP hD hS => ?_)
  have hP : va_P (dC, dI) vwCl [(y0, .inr (1, [.int 0, .ref q1, .ref q2, .null, .int 0, .int 0, .int 0, .int 0, .int 0, .int 0, .int 0, .int 0])), (q1, .inl (k1, 16384, .inl (fun _ => 0))), (q2, .inl (k2, 4, .inl (upd (upd (upd (upd (fun _ => 0) 0 7) 1 7) 2 7) 3 7))), (q3, .inl (k3, 32, .inl (fun _ => 0)))] H := hP
  have hD : va_D A [(y0, .inr (1, [.int 0, .ref q1, .ref q2, .null, .int 0, .int 0, .int 0, .int 0, .int 0, .int 0, .int 0, .int 0])), (q1, .inl (k1, 16384, .inl (fun _ => 0))), (q2, .inl (k2, 4, .inl (upd (upd (upd (upd (fun _ => 0) 0 7) 1 7) 2 7) 3 7))), (q3, .inl (k3, 32, .inl (fun _ => 0)))] := hD
  have hK : va_K (dC, dI) vwCl [(k1, .byte), (k2, .int), (k3, .int)] s := hK
  refine W.widen (k := 3) (n := 16420) (Nat.le_of_ble_eq_true rfl) (Nat.le_of_ble_eq_true rfl) ?_
  refine va_putF (D := (dC, dI)) (ci := 1) (v := .ref q3) (ty := (.array .int)) (C := RX1) (T := TX1) (N := 12) hx hb hts (gw_lay lay_X1) tyX1 tyX1_ok nmX1 hown hK hP hD hS 0 rfl rfl 3 (by decide) (hts _ (gcons mF_X1_17)) (fun _ h9 => h9) rfl hin rfl (by decide +kernel) rfl rfl (Nat.le_of_ble_eq_true rfl) dX1_init_45 (fun H locs hP hD hS => ?_)
  have hP : va_P (dC, dI) vwCl [(y0, .inr (1, [.int 0, .ref q1, .ref q2, .ref q3, .int 0, .int 0, .int 0, .int 0, .int 0, .int 0, .int 0, .int 0])), (q1, .inl (k1, 16384, .inl (fun _ => 0))), (q2, .inl (k2, 4, .inl (upd (upd (upd (upd (fun _ => 0) 0 7) 1 7) 2 7) 3 7))), (q3, .inl (k3, 32, .inl (fun _ => 0)))] H := hP
  have hD : va_D A [(y0, .inr (1, [.int 0, .ref q1, .ref q2, .ref q3, .int 0, .int 0, .int 0, .int 0, .int 0, .int 0, .int 0, .int 0])), (q1, .inl (k1, 16384, .inl (fun _ => 0))), (q2, .inl (k2, 4, .inl (upd (upd (upd (upd (fun _ => 0) 0 7) 1 7) 2 7) 3 7))), (q3, .inl (k3, 32, .inl (fun _ => 0)))] := hD
  refine lv_aload_n hx hb dX1_init_48 rfl (lv_at hl 0 rfl) ?_
  refine lv_iconst (v := (-1)) hx hb dX1_init_49 (by decide) ?_
  refine va_put (D := (dC, dI)) (ci := 1) (v := .int ((-1))) (ty := .int) (C := RX1) (T := TX1) (N := 12) hx hb hts (gw_lay lay_X1) tyX1 tyX1_ok nmX1 hown hK hP hD hS 0 rfl rfl 5 (by decide) (hts _ (gcons mF_X1_20)) (fun _ h9 => h9) rfl (by decide +kernel) rfl rfl (Nat.le_of_ble_eq_true rfl) dX1_init_50 (fun H locs hP hD hS => ?_)
  have hP : va_P (dC, dI) vwCl [(y0, .inr (1, [.int 0, .ref q1, .ref q2, .ref q3, .int 0, .int ((-1)), .int 0, .int 0, .int 0, .int 0, .int 0, .int 0])), (q1, .inl (k1, 16384, .inl (fun _ => 0))), (q2, .inl (k2, 4, .inl (upd (upd (upd (upd (fun _ => 0) 0 7) 1 7) 2 7) 3 7))), (q3, .inl (k3, 32, .inl (fun _ => 0)))] H := hP
  have hD : va_D A [(y0, .inr (1, [.int 0, .ref q1, .ref q2, .ref q3, .int 0, .int ((-1)), .int 0, .int 0, .int 0, .int 0, .int 0, .int 0])), (q1, .inl (k1, 16384, .inl (fun _ => 0))), (q2, .inl (k2, 4, .inl (upd (upd (upd (upd (fun _ => 0) 0 7) 1 7) 2 7) 3 7))), (q3, .inl (k3, 32, .inl (fun _ => 0)))] := hD
  exact W.vret hx hb hr (fun t ht hW => ⟨⟨(q1, q2, q3, k1, k2, k3), rfl, trivial, by rw [ht]; exact hP, va_K.moved hW.alike hK, hD⟩, hS.F ht⟩) hS.2.2 dX1_init_53
end
section
theorem lpd_0 : (31 : Int32) - nI 0 = 31 := by decide
theorem lp_lt {a : Int32} {j : Nat} (hj : j ≤ a.toNatClampNeg) (c : ¬ a ≤ nI j) : j < a.toNatClampNeg := by
  have h1 : a.toNatClampNeg = a.toInt.toNat := rfl
  have h2 := Int32.toInt_lt a
  rw [Int32.le_iff_toInt_le, nI_toInt (by omega)] at c
  omega
theorem lp_end {a : Int32} {j : Nat} (hj : j ≤ a.toNatClampNeg) (c : a ≤ nI j) : j = a.toNatClampNeg := by
  have h1 : a.toNatClampNeg = a.toInt.toNat := rfl
  have h2 := Int32.toInt_lt a
  rw [Int32.le_iff_toInt_le, nI_toInt (by omega)] at c
  omega
theorem lpc_lt {a : Int32} {n j : Nat} (e : a.toNatClampNeg = n) (hj : j ≤ n) (c : ¬ a ≤ nI j) : j < n := by
  subst e
  exact lp_lt hj c
theorem lpc_end {a : Int32} {n j : Nat} (e : a.toNatClampNeg = n) (hj : j ≤ n) (c : a ≤ nI j) : j = n := by
  subst e
  exact lp_end hj c
theorem lpd_next {j : Nat} : (31 : Int32) - nI j + (-1) = 31 - nI (j + 1) := by
  rw [← nI_1, Int32.sub_eq_add_neg, Int32.sub_eq_add_neg, Int32.neg_add, Int32.sub_eq_add_neg, Int32.add_assoc]
theorem lpd_int {j : Nat} (hj : j ≤ 32) : ((31 : Int32) - nI j).toInt = 31 - (j : Int) := by
  have h := pk_sub_toInt (a := 31) (b := j) (by omega) (by omega)
  exact h
theorem lpd_lt {j : Nat} (hj : j ≤ 32) (c : ¬ (31 : Int32) - nI j < 0) : j < 32 := by
  rw [Int32.lt_iff_toInt_lt, lpd_int hj] at c
  have e0 : (0 : Int32).toInt = 0 := rfl
  rw [e0] at c
  omega
theorem lpd_end {j : Nat} (hj : j ≤ 32) (c : (31 : Int32) - nI j < 0) : j = 32 := by
  rw [Int32.lt_iff_toInt_lt, lpd_int hj] at c
  have e0 : (0 : Int32).toInt = 0 := rfl
  rw [e0] at c
  omega
def F_m_signed  (a1 : Int32) (a2 : Int32) : Int32 :=
  if ((a1 >>> ((a2 - 1) &&& 31)) &&& 1) = 1 then
    a1 - (1 <<< (a2 &&& 31))
  else
    a1
set_option maxHeartbeats 4000000 in
set_option maxRecDepth 100000 in
theorem c_m_signed (l : Launch) (a1 : Int32) (a2 : Int32) : Met l yX1_signed wsX1_signed ({ frames := 0, cells := 0, slots := 0, locals := 0 }) (fun v _ => v = ([.int a1, .int a2] : List Value).toArray) (vp_Si (fun r : Int32 => r = F_m_signed a1 a2)) 0 0 (fun _ => False) := by
  refine Met.ofW (cc := cX1_signed) (maxL := 2) (ret := (some .int)) (by decide) rfl ?_
  intro p e s m args below meth c s₁ B hml hv
  obtain rfl := hv
  have hx := B.exec
  have hb := B.bytes
  have hr := B.returns
  have hts := atoms_spec (ws := wsX1_signed) B.pre
  have hown : s.vm.findClass RX1 = some m.cls := findClass_of_methodNamed B.named
  have hlocks := B.notSynchronized
  have hl := lv_entry ([.int a1, .int a2]) (n := 2) (Nat.le_of_ble_eq_true rfl)
  rw [lg_entry_eq]
  generalize (lg_sl ([.int a1, .int a2]) ++ List.replicate (2 - (lg_sl ([.int a1, .int a2])).length) Slot.unset).toArray = ls at hl ⊢
  have hl : lv_has ls 2 [(0, .int a1), (1, .int a2)] := hl
  refine lv_iload_n hx hb dX1_signed_0 rfl (lv_at hl 0 rfl) ?_
  refine lv_iload_n hx hb dX1_signed_1 rfl (lv_at hl 1 rfl) ?_
  refine lv_iconst (v := 1) hx hb dX1_signed_2 (by decide) ?_
  refine lv_isub hx hb dX1_signed_3 ?_
  refine lv_ishr hx hb dX1_signed_4 ?_
  refine lv_iconst (v := 1) hx hb dX1_signed_5 (by decide) ?_
  refine lv_iand hx hb dX1_signed_6 ?_
  refine lv_iconst (v := 1) hx hb dX1_signed_7 (by decide) ?_
  refine lv_icmp_ne (tgt := 19) hx hb dX1_signed_8 (by decide) (fun c_1 => ?_) (fun c_1 => ?_)
  · refine lv_iload_n hx hb dX1_signed_19 rfl (lv_at hl 0 rfl) ?_
    exact W.iret (v := a1) hx hb hr (fun t ht hW => ⟨_, rfl, (by unfold F_m_signed; first | (rw [if_neg c_1]; done) | (rw [if_neg c_1]; rfl)), ht⟩) (fun _ h => by cases h) dX1_signed_20
  · refine lv_iload_n hx hb dX1_signed_11 rfl (lv_at hl 0 rfl) ?_
    refine lv_iconst (v := 1) hx hb dX1_signed_12 (by decide) ?_
    refine lv_iload_n hx hb dX1_signed_13 rfl (lv_at hl 1 rfl) ?_
    refine lv_ishl hx hb dX1_signed_14 ?_
    refine lv_isub hx hb dX1_signed_15 ?_
    refine lv_goto (tgt := 20) hx hb dX1_signed_16 (by decide) ?_
    exact W.iret (v := a1 - (1 <<< (a2 &&& 31))) hx hb hr (fun t ht hW => ⟨_, rfl, (by unfold F_m_signed; first | (rw [if_pos c_1]; done) | (rw [if_pos c_1]; rfl)), ht⟩) (fun _ h => by cases h) dX1_signed_20
def B_under (a1 a2 : Int32) (j : Nat) (acc : Int32) : Int32 :=
  if ((a1 >>> ((nI j) &&& 31)) &&& 1) = ((a2 >>> ((nI j) &&& 31)) &&& 1) then
    acc
  else
    if ((a2 >>> ((nI j) &&& 31)) &&& 1) ≤ ((a1 >>> ((nI j) &&& 31)) &&& 1) then
      0
    else
      1
def L_under (a1 a2 : Int32) : Nat → Int32
  | 0 => 0
  | j + 1 => B_under a1 a2 j (L_under a1 a2 j)
theorem bo_under (a1 a2 : Int32) (j : Nat) : narrow .boolean (.int (L_under a1 a2 j)) = .int (L_under a1 a2 j) := by
  induction j with
  | zero => exact (rfl : narrow .boolean (.int (0 : Int32)) = .int 0)
  | succ j ih =>
    show narrow .boolean (.int (B_under a1 a2 j (L_under a1 a2 j))) = .int (B_under a1 a2 j (L_under a1 a2 j))
    unfold B_under
    repeat' split
    all_goals first | exact ih | rfl
def F_m_under  (a1 : Int32) (a2 : Int32) : Int32 :=
  (L_under a1 a2 32)
set_option maxHeartbeats 4000000 in
set_option maxRecDepth 100000 in
theorem c_m_under (l : Launch) (a1 : Int32) (a2 : Int32) : Met l yX1_under wsX1_under ({ frames := 0, cells := 0, slots := 0, locals := 0 }) (fun v _ => v = ([.int a1, .int a2] : List Value).toArray) (vp_Si (fun r : Int32 => narrow .boolean (.int r) = .int r ∧ r = F_m_under a1 a2)) 0 0 (fun _ => False) := by
  refine Met.ofW (cc := cX1_under) (maxL := 6) (ret := (some .boolean)) (by decide) rfl ?_
  intro p e s m args below meth c s₁ B hml hv
  obtain rfl := hv
  have hx := B.exec
  have hb := B.bytes
  have hr := B.returns
  have hts := atoms_spec (ws := wsX1_under) B.pre
  have hown : s.vm.findClass RX1 = some m.cls := findClass_of_methodNamed B.named
  have hlocks := B.notSynchronized
  have hl := lv_entry ([.int a1, .int a2]) (n := 6) (Nat.le_of_ble_eq_true rfl)
  rw [lg_entry_eq]
  generalize (lg_sl ([.int a1, .int a2]) ++ List.replicate (6 - (lg_sl ([.int a1, .int a2])).length) Slot.unset).toArray = ls at hl ⊢
  have hl : lv_has ls 6 [(0, .int a1), (1, .int a2)] := hl
  refine lv_iconst (v := 0) hx hb dX1_under_0 (by decide) ?_
  refine lv_istore_n (lv' := [(2, .int 0), (0, .int a1), (1, .int a2)]) hx hb dX1_under_1 rfl hl (by decide) rfl (fun ls hl => ?_)
  refine lv_iconst (v := 0) hx hb dX1_under_2 (by decide) ?_
  refine lv_istore_n (lv' := [(3, .int 0), (2, .int 0), (0, .int a1), (1, .int a2)]) hx hb dX1_under_3 rfl hl (by decide) rfl (fun ls hl => ?_)
  have hl := lv_sub hl [0, 1, 2, 3] rfl
  refine lv_loop (n := 32) (P := fun j H locs ls => (H = s.heap ∧ locs = []) ∧ lv_has ls 6 [(3, .int (nI j)), (2, .int ((L_under a1 a2 j))), (0, .int a1), (1, .int a2)]) (Wg := fun H locs ls => W p l e _ s m _ below meth c H locs 0 0 _ (F0 m 4 ls [])) ?_ (32) 0 _ _ ls (by omega) (Nat.zero_le _) ⟨⟨rfl, rfl⟩, hl⟩
  rintro j H locs ls hj ⟨⟨rfl, rfl⟩, hl⟩ ih
  refine lv_iload_n hx hb dX1_under_4 rfl (lv_at hl 0 rfl) ?_
  refine lv_bipush (v := 32) hx hb dX1_under_5 (by decide) ?_
  refine lv_icmp_ge (tgt := 54) hx hb dX1_under_7 (by decide) (fun c_1 => ?_) (fun c_1 => ?_)
  · have hjn : j = 32 := lpc_end (by decide) hj c_1
    subst hjn
    refine lv_iload_n hx hb dX1_under_54 rfl (lv_at hl 1 rfl) ?_
    exact W.zret (v := (L_under a1 a2 32)) (ty := .boolean) hx hb hr (bo_under _ _ _) (fun t ht hW => ⟨_, rfl, ⟨(bo_under _ _ _), (by unfold F_m_under; rfl)⟩, ht⟩) (fun _ h => by cases h) dX1_under_55
  · have hlt : j < 32 := lpc_lt (by decide) hj c_1
    refine lv_iload_n hx hb dX1_under_10 rfl (lv_at hl 2 rfl) ?_
    refine lv_iload_n hx hb dX1_under_11 rfl (lv_at hl 0 rfl) ?_
    refine lv_ishr hx hb dX1_under_12 ?_
    refine lv_iconst (v := 1) hx hb dX1_under_13 (by decide) ?_
    refine lv_iand hx hb dX1_under_14 ?_
    refine lv_istore (lv' := [(4, .int ((a1 >>> ((nI j) &&& 31)) &&& 1)), (3, .int (nI j)), (2, .int ((L_under a1 a2 j))), (0, .int a1), (1, .int a2)]) hx hb dX1_under_15 hl (by decide) rfl (fun ls hl => ?_)
    refine lv_iload_n hx hb dX1_under_17 rfl (lv_at hl 4 rfl) ?_
    refine lv_iload_n hx hb dX1_under_18 rfl (lv_at hl 1 rfl) ?_
    refine lv_ishr hx hb dX1_under_19 ?_
    refine lv_iconst (v := 1) hx hb dX1_under_20 (by decide) ?_
    refine lv_iand hx hb dX1_under_21 ?_
    refine lv_istore (lv' := [(5, .int ((a2 >>> ((nI j) &&& 31)) &&& 1)), (4, .int ((a1 >>> ((nI j) &&& 31)) &&& 1)), (3, .int (nI j)), (2, .int ((L_under a1 a2 j))), (0, .int a1), (1, .int a2)]) hx hb dX1_under_22 hl (by decide) rfl (fun ls hl => ?_)
    refine lv_iload hx hb dX1_under_24 (lv_at hl 1 rfl) ?_
    refine lv_iload hx hb dX1_under_26 (lv_at hl 0 rfl) ?_
    refine lv_icmp_ne (tgt := 35) hx hb dX1_under_28 (by decide) (fun c_2 => ?_) (fun c_2 => ?_)
    · refine lv_iload hx hb dX1_under_35 (lv_at hl 1 rfl) ?_
      refine lv_iload hx hb dX1_under_37 (lv_at hl 0 rfl) ?_
      refine lv_icmp_ge (tgt := 46) hx hb dX1_under_39 (by decide) (fun c_3 => ?_) (fun c_3 => ?_)
      · refine lv_iconst (v := 0) hx hb dX1_under_46 (by decide) ?_
        refine lv_istore_n (lv' := [(2, .int 0), (5, .int ((a2 >>> ((nI j) &&& 31)) &&& 1)), (4, .int ((a1 >>> ((nI j) &&& 31)) &&& 1)), (3, .int (nI j)), (0, .int a1), (1, .int a2)]) hx hb dX1_under_47 rfl hl (by decide) rfl (fun ls hl => ?_)
        refine lv_iinc (v := (nI j) + 1) (lv' := [(3, .int ((nI j) + 1)), (2, .int 0), (5, .int ((a2 >>> ((nI j) &&& 31)) &&& 1)), (4, .int ((a1 >>> ((nI j) &&& 31)) &&& 1)), (0, .int a1), (1, .int a2)]) hx hb dX1_under_48 hl (k := 3) rfl rfl (by decide) rfl (fun ls hl => ?_)
        refine lv_goto (tgt := 4) hx hb dX1_under_51 (by decide) ?_
        have hl := lv_sub hl [0, 1, 4, 5] rfl
        have hacc : (L_under a1 a2 (j + 1)) = 0 := by show B_under a1 a2 j (L_under a1 a2 j) = _; unfold B_under; first | rfl | (rw [if_neg c_2, if_pos c_3]; done) | (rw [if_neg c_2, if_pos c_3]; rfl)
        rw [nI_1] at hl
        exact ih _ _ ls hlt ⟨⟨rfl, rfl⟩, by rw [hacc]; exact hl⟩
      · refine lv_iconst (v := 1) hx hb dX1_under_42 (by decide) ?_
        refine lv_goto (tgt := 47) hx hb dX1_under_43 (by decide) ?_
        refine lv_istore_n (lv' := [(2, .int 1), (5, .int ((a2 >>> ((nI j) &&& 31)) &&& 1)), (4, .int ((a1 >>> ((nI j) &&& 31)) &&& 1)), (3, .int (nI j)), (0, .int a1), (1, .int a2)]) hx hb dX1_under_47 rfl hl (by decide) rfl (fun ls hl => ?_)
        refine lv_iinc (v := (nI j) + 1) (lv' := [(3, .int ((nI j) + 1)), (2, .int 1), (5, .int ((a2 >>> ((nI j) &&& 31)) &&& 1)), (4, .int ((a1 >>> ((nI j) &&& 31)) &&& 1)), (0, .int a1), (1, .int a2)]) hx hb dX1_under_48 hl (k := 3) rfl rfl (by decide) rfl (fun ls hl => ?_)
        refine lv_goto (tgt := 4) hx hb dX1_under_51 (by decide) ?_
        have hl := lv_sub hl [0, 1, 4, 5] rfl
        have hacc : (L_under a1 a2 (j + 1)) = 1 := by show B_under a1 a2 j (L_under a1 a2 j) = _; unfold B_under; first | rfl | (rw [if_neg c_2, if_neg c_3]; done) | (rw [if_neg c_2, if_neg c_3]; rfl)
        rw [nI_1] at hl
        exact ih _ _ ls hlt ⟨⟨rfl, rfl⟩, by rw [hacc]; exact hl⟩
    · refine lv_iload_n hx hb dX1_under_31 rfl (lv_at hl 3 rfl) ?_
      refine lv_goto (tgt := 47) hx hb dX1_under_32 (by decide) ?_
      refine lv_istore_n (lv' := [(2, .int ((L_under a1 a2 j))), (5, .int ((a2 >>> ((nI j) &&& 31)) &&& 1)), (4, .int ((a1 >>> ((nI j) &&& 31)) &&& 1)), (3, .int (nI j)), (0, .int a1), (1, .int a2)]) hx hb dX1_under_47 rfl hl (by decide) rfl (fun ls hl => ?_)
      refine lv_iinc (v := (nI j) + 1) (lv' := [(3, .int ((nI j) + 1)), (2, .int ((L_under a1 a2 j))), (5, .int ((a2 >>> ((nI j) &&& 31)) &&& 1)), (4, .int ((a1 >>> ((nI j) &&& 31)) &&& 1)), (0, .int a1), (1, .int a2)]) hx hb dX1_under_48 hl (k := 3) rfl rfl (by decide) rfl (fun ls hl => ?_)
      refine lv_goto (tgt := 4) hx hb dX1_under_51 (by decide) ?_
      have hl := lv_sub hl [0, 1, 4, 5] rfl
      have hacc : (L_under a1 a2 (j + 1)) = (L_under a1 a2 j) := by show B_under a1 a2 j (L_under a1 a2 j) = _; unfold B_under; first | rfl | (rw [if_pos c_2]; done) | (rw [if_pos c_2]; rfl)
      rw [nI_1] at hl
      exact ih _ _ ls hlt ⟨⟨rfl, rfl⟩, by rw [hacc]; exact hl⟩
def B_upper (a1 a2 : Int32) (j : Nat) (acc : Int32 × Int32) : Int32 × Int32 :=
  if ((a2 >>> ((31 - nI j) &&& 31)) &&& 1) = 1 then
    if (F_m_under (((acc.2) <<< ((1 : Int32) &&& 31)) + a1) a1) = 0 then
      (((acc.1) <<< ((1 : Int32) &&& 31)) ||| (((acc.2).toUInt32 >>> ((31 : Int32).toUInt32 &&& Int32.toUInt32 31)).toInt32), ((acc.2) <<< ((1 : Int32) &&& 31)) + a1)
    else
      ((((acc.1) <<< ((1 : Int32) &&& 31)) ||| (((acc.2).toUInt32 >>> ((31 : Int32).toUInt32 &&& Int32.toUInt32 31)).toInt32)) + 1, ((acc.2) <<< ((1 : Int32) &&& 31)) + a1)
  else
    (((acc.1) <<< ((1 : Int32) &&& 31)) ||| (((acc.2).toUInt32 >>> ((31 : Int32).toUInt32 &&& Int32.toUInt32 31)).toInt32), (acc.2) <<< ((1 : Int32) &&& 31))
def L_upper (a1 a2 : Int32) : Nat → (Int32 × Int32)
  | 0 => (0, 0)
  | j + 1 => B_upper a1 a2 j (L_upper a1 a2 j)
def F_m_upper  (a1 : Int32) (a2 : Int32) : Int32 :=
  (L_upper a1 a2 32).1
set_option maxHeartbeats 4000000 in
set_option maxRecDepth 100000 in
theorem c_m_upper (l : Launch) (a1 : Int32) (a2 : Int32) : Met l yX1_upper wsX1_upper ({ frames := 1, cells := 0, slots := 0, locals := 25 }) (fun v _ => v = ([.int a1, .int a2] : List Value).toArray) (vp_Si (fun r : Int32 => r = F_m_upper a1 a2)) 0 0 (fun _ => False) := by
  refine Met.ofW (cc := cX1_upper) (maxL := 6) (ret := (some .int)) (by decide) rfl ?_
  intro p e s m args below meth c s₁ B hml hv
  obtain rfl := hv
  have hx := B.exec
  have hb := B.bytes
  have hr := B.returns
  have hts := atoms_spec (ws := wsX1_upper) B.pre
  have hown : s.vm.findClass RX1 = some m.cls := findClass_of_methodNamed B.named
  have hlocks := B.notSynchronized
  have hl := lv_entry ([.int a1, .int a2]) (n := 6) (Nat.le_of_ble_eq_true rfl)
  rw [lg_entry_eq]
  generalize (lg_sl ([.int a1, .int a2]) ++ List.replicate (6 - (lg_sl ([.int a1, .int a2])).length) Slot.unset).toArray = ls at hl ⊢
  have hl : lv_has ls 6 [(0, .int a1), (1, .int a2)] := hl
  refine lv_iconst (v := 0) hx hb dX1_upper_0 (by decide) ?_
  refine lv_istore_n (lv' := [(2, .int 0), (0, .int a1), (1, .int a2)]) hx hb dX1_upper_1 rfl hl (by decide) rfl (fun ls hl => ?_)
  refine lv_iconst (v := 0) hx hb dX1_upper_2 (by decide) ?_
  refine lv_istore_n (lv' := [(3, .int 0), (2, .int 0), (0, .int a1), (1, .int a2)]) hx hb dX1_upper_3 rfl hl (by decide) rfl (fun ls hl => ?_)
  refine lv_bipush (v := 31) hx hb dX1_upper_4 (by decide) ?_
  refine lv_istore (lv' := [(4, .int 31), (3, .int 0), (2, .int 0), (0, .int a1), (1, .int a2)]) hx hb dX1_upper_6 hl (by decide) rfl (fun ls hl => ?_)
  have hl := lv_sub hl [0, 2, 1, 3, 4] rfl
  refine lv_loop (n := 32) (P := fun j H locs ls => (H = s.heap ∧ locs = []) ∧ lv_has ls 6 [(4, .int (31 - nI j)), (2, .int ((L_upper a1 a2 j).1)), (3, .int ((L_upper a1 a2 j).2)), (0, .int a1), (1, .int a2)]) (Wg := fun H locs ls => W p l e _ s m _ below meth c H locs 0 0 _ (F0 m 8 ls [])) ?_ (32) 0 _ _ ls (by omega) (Nat.zero_le _) ⟨⟨rfl, rfl⟩, (by rw [lpd_0]; exact hl)⟩
  rintro j H locs ls hj ⟨⟨rfl, rfl⟩, hl⟩ ih
  refine lv_iload hx hb dX1_upper_8 (lv_at hl 0 rfl) ?_
  refine lv_if_lt (tgt := 67) hx hb dX1_upper_10 (by decide) (fun c_1 => ?_) (fun c_1 => ?_)
  · have hjn : j = 32 := lpd_end hj c_1
    subst hjn
    refine lv_iload_n hx hb dX1_upper_67 rfl (lv_at hl 1 rfl) ?_
    exact W.iret (v := (L_upper a1 a2 32).1) hx hb hr (fun t ht hW => ⟨_, rfl, (by unfold F_m_upper; rfl), ht⟩) (fun _ h => by cases h) dX1_upper_68
  · have hlt : j < 32 := lpd_lt hj c_1
    refine lv_iload_n hx hb dX1_upper_13 rfl (lv_at hl 1 rfl) ?_
    refine lv_iconst (v := 1) hx hb dX1_upper_14 (by decide) ?_
    refine lv_ishl hx hb dX1_upper_15 ?_
    refine lv_iload_n hx hb dX1_upper_16 rfl (lv_at hl 2 rfl) ?_
    refine lv_bipush (v := 31) hx hb dX1_upper_17 (by decide) ?_
    refine lv_iushr (v := (((L_upper a1 a2 j).2).toUInt32 >>> ((31 : Int32).toUInt32 &&& Int32.toUInt32 31)).toInt32) hx hb dX1_upper_19 rfl ?_
    refine lv_ior hx hb dX1_upper_20 ?_
    refine lv_istore_n (lv' := [(2, .int ((((L_upper a1 a2 j).1) <<< ((1 : Int32) &&& 31)) ||| ((((L_upper a1 a2 j).2).toUInt32 >>> ((31 : Int32).toUInt32 &&& Int32.toUInt32 31)).toInt32))), (4, .int (31 - nI j)), (3, .int ((L_upper a1 a2 j).2)), (0, .int a1), (1, .int a2)]) hx hb dX1_upper_21 rfl hl (by decide) rfl (fun ls hl => ?_)
    refine lv_iload_n hx hb dX1_upper_22 rfl (lv_at hl 2 rfl) ?_
    refine lv_iconst (v := 1) hx hb dX1_upper_23 (by decide) ?_
    refine lv_ishl hx hb dX1_upper_24 ?_
    refine lv_istore_n (lv' := [(3, .int (((L_upper a1 a2 j).2) <<< ((1 : Int32) &&& 31))), (2, .int ((((L_upper a1 a2 j).1) <<< ((1 : Int32) &&& 31)) ||| ((((L_upper a1 a2 j).2).toUInt32 >>> ((31 : Int32).toUInt32 &&& Int32.toUInt32 31)).toInt32))), (4, .int (31 - nI j)), (0, .int a1), (1, .int a2)]) hx hb dX1_upper_25 rfl hl (by decide) rfl (fun ls hl => ?_)
    refine lv_iload_n hx hb dX1_upper_26 rfl (lv_at hl 4 rfl) ?_
    refine lv_iload hx hb dX1_upper_27 (lv_at hl 2 rfl) ?_
    refine lv_ishr hx hb dX1_upper_29 ?_
    refine lv_iconst (v := 1) hx hb dX1_upper_30 (by decide) ?_
    refine lv_iand hx hb dX1_upper_31 ?_
    refine lv_iconst (v := 1) hx hb dX1_upper_32 (by decide) ?_
    refine lv_icmp_ne (tgt := 61) hx hb dX1_upper_33 (by decide) (fun c_2 => ?_) (fun c_2 => ?_)
    · refine lv_iinc (v := (31 - nI j) + (-1)) (lv' := [(4, .int ((31 - nI j) + (-1))), (3, .int (((L_upper a1 a2 j).2) <<< ((1 : Int32) &&& 31))), (2, .int ((((L_upper a1 a2 j).1) <<< ((1 : Int32) &&& 31)) ||| ((((L_upper a1 a2 j).2).toUInt32 >>> ((31 : Int32).toUInt32 &&& Int32.toUInt32 31)).toInt32))), (0, .int a1), (1, .int a2)]) hx hb dX1_upper_61 hl (k := 2) rfl rfl (by decide) rfl (fun ls hl => ?_)
      refine lv_goto (tgt := 8) hx hb dX1_upper_64 (by decide) ?_
      have hl := lv_sub hl [0, 2, 1, 3, 4] rfl
      have hacc : (L_upper a1 a2 (j + 1)) = ((((L_upper a1 a2 j).1) <<< ((1 : Int32) &&& 31)) ||| ((((L_upper a1 a2 j).2).toUInt32 >>> ((31 : Int32).toUInt32 &&& Int32.toUInt32 31)).toInt32), ((L_upper a1 a2 j).2) <<< ((1 : Int32) &&& 31)) := by show B_upper a1 a2 j (L_upper a1 a2 j) = _; unfold B_upper; first | rfl | (rw [if_neg c_2]; done) | (rw [if_neg c_2]; rfl)
      rw [lpd_next] at hl
      exact ih _ _ ls hlt ⟨⟨rfl, rfl⟩, by rw [hacc]; exact hl⟩
    · refine lv_iload_n hx hb dX1_upper_36 rfl (lv_at hl 0 rfl) ?_
      refine lv_iload_n hx hb dX1_upper_37 rfl (lv_at hl 3 rfl) ?_
      refine lv_iadd hx hb dX1_upper_38 ?_
      refine lv_istore (lv' := [(5, .int ((((L_upper a1 a2 j).2) <<< ((1 : Int32) &&& 31)) + a1)), (3, .int (((L_upper a1 a2 j).2) <<< ((1 : Int32) &&& 31))), (2, .int ((((L_upper a1 a2 j).1) <<< ((1 : Int32) &&& 31)) ||| ((((L_upper a1 a2 j).2).toUInt32 >>> ((31 : Int32).toUInt32 &&& Int32.toUInt32 31)).toInt32))), (4, .int (31 - nI j)), (0, .int a1), (1, .int a2)]) hx hb dX1_upper_39 hl (by decide) rfl (fun ls hl => ?_)
      refine lv_iload hx hb dX1_upper_41 (lv_at hl 0 rfl) ?_
      refine lv_iload_n hx hb dX1_upper_43 rfl (lv_at hl 4 rfl) ?_
      refine vp_callSi (W.runS (As := [.int ((((L_upper a1 a2 j).2) <<< ((1 : Int32) &&& 31)) + a1), .int a1]) (rest := []) ⟨hx, hb, hml, hown, hts⟩ (c_m_under l ((((L_upper a1 a2 j).2) <<< ((1 : Int32) &&& 31)) + a1) a1) (cwS 2 hts (gS mL_X1_40 mS_X1_under mN_X1 mC_X1_under) rfl rfl rfl (by decide +kernel) ⟨Nat.le_of_ble_eq_true rfl, Nat.le_of_ble_eq_true rfl⟩) preEq rfl rfl hl.1 rfl (lv_room (Nat.le_of_ble_eq_true rfl)) dX1_upper_44 ⟨Nat.zero_le _, Nat.zero_le _⟩) (fun r_3 hw => ?_)
      obtain ⟨b_4, hw⟩ := hw
      rw [hw] at b_4 ⊢
      clear hw
      refine lv_if_eq (tgt := 56) hx hb dX1_upper_47 (by decide) (fun c_5 => ?_) (fun c_5 => ?_)
      · refine lv_iload_n hx hb dX1_upper_56 rfl (lv_at hl 2 rfl) ?_
        refine lv_istore_n (lv' := [(2, .int ((((L_upper a1 a2 j).1) <<< ((1 : Int32) &&& 31)) ||| ((((L_upper a1 a2 j).2).toUInt32 >>> ((31 : Int32).toUInt32 &&& Int32.toUInt32 31)).toInt32))), (5, .int ((((L_upper a1 a2 j).2) <<< ((1 : Int32) &&& 31)) + a1)), (3, .int (((L_upper a1 a2 j).2) <<< ((1 : Int32) &&& 31))), (4, .int (31 - nI j)), (0, .int a1), (1, .int a2)]) hx hb dX1_upper_57 rfl hl (by decide) rfl (fun ls hl => ?_)
        refine lv_iload hx hb dX1_upper_58 (lv_at hl 1 rfl) ?_
        refine lv_istore_n (lv' := [(3, .int ((((L_upper a1 a2 j).2) <<< ((1 : Int32) &&& 31)) + a1)), (2, .int ((((L_upper a1 a2 j).1) <<< ((1 : Int32) &&& 31)) ||| ((((L_upper a1 a2 j).2).toUInt32 >>> ((31 : Int32).toUInt32 &&& Int32.toUInt32 31)).toInt32))), (5, .int ((((L_upper a1 a2 j).2) <<< ((1 : Int32) &&& 31)) + a1)), (4, .int (31 - nI j)), (0, .int a1), (1, .int a2)]) hx hb dX1_upper_60 rfl hl (by decide) rfl (fun ls hl => ?_)
        refine lv_iinc (v := (31 - nI j) + (-1)) (lv' := [(4, .int ((31 - nI j) + (-1))), (3, .int ((((L_upper a1 a2 j).2) <<< ((1 : Int32) &&& 31)) + a1)), (2, .int ((((L_upper a1 a2 j).1) <<< ((1 : Int32) &&& 31)) ||| ((((L_upper a1 a2 j).2).toUInt32 >>> ((31 : Int32).toUInt32 &&& Int32.toUInt32 31)).toInt32))), (5, .int ((((L_upper a1 a2 j).2) <<< ((1 : Int32) &&& 31)) + a1)), (0, .int a1), (1, .int a2)]) hx hb dX1_upper_61 hl (k := 3) rfl rfl (by decide) rfl (fun ls hl => ?_)
        refine lv_goto (tgt := 8) hx hb dX1_upper_64 (by decide) ?_
        have hl := lv_sub hl [0, 2, 1, 4, 5] rfl
        have hacc : (L_upper a1 a2 (j + 1)) = ((((L_upper a1 a2 j).1) <<< ((1 : Int32) &&& 31)) ||| ((((L_upper a1 a2 j).2).toUInt32 >>> ((31 : Int32).toUInt32 &&& Int32.toUInt32 31)).toInt32), (((L_upper a1 a2 j).2) <<< ((1 : Int32) &&& 31)) + a1) := by show B_upper a1 a2 j (L_upper a1 a2 j) = _; unfold B_upper; first | rfl | (rw [if_pos c_2, if_pos c_5]; done) | (rw [if_pos c_2, if_pos c_5]; rfl)
        rw [lpd_next] at hl
        exact ih _ _ ls hlt ⟨⟨rfl, rfl⟩, by rw [hacc]; exact hl⟩
      · refine lv_iload_n hx hb dX1_upper_50 rfl (lv_at hl 2 rfl) ?_
        refine lv_iconst (v := 1) hx hb dX1_upper_51 (by decide) ?_
        refine lv_iadd hx hb dX1_upper_52 ?_
        refine lv_goto (tgt := 57) hx hb dX1_upper_53 (by decide) ?_
        refine lv_istore_n (lv' := [(2, .int (((((L_upper a1 a2 j).1) <<< ((1 : Int32) &&& 31)) ||| ((((L_upper a1 a2 j).2).toUInt32 >>> ((31 : Int32).toUInt32 &&& Int32.toUInt32 31)).toInt32)) + 1)), (5, .int ((((L_upper a1 a2 j).2) <<< ((1 : Int32) &&& 31)) + a1)), (3, .int (((L_upper a1 a2 j).2) <<< ((1 : Int32) &&& 31))), (4, .int (31 - nI j)), (0, .int a1), (1, .int a2)]) hx hb dX1_upper_57 rfl hl (by decide) rfl (fun ls hl => ?_)
        refine lv_iload hx hb dX1_upper_58 (lv_at hl 1 rfl) ?_
        refine lv_istore_n (lv' := [(3, .int ((((L_upper a1 a2 j).2) <<< ((1 : Int32) &&& 31)) + a1)), (2, .int (((((L_upper a1 a2 j).1) <<< ((1 : Int32) &&& 31)) ||| ((((L_upper a1 a2 j).2).toUInt32 >>> ((31 : Int32).toUInt32 &&& Int32.toUInt32 31)).toInt32)) + 1)), (5, .int ((((L_upper a1 a2 j).2) <<< ((1 : Int32) &&& 31)) + a1)), (4, .int (31 - nI j)), (0, .int a1), (1, .int a2)]) hx hb dX1_upper_60 rfl hl (by decide) rfl (fun ls hl => ?_)
        refine lv_iinc (v := (31 - nI j) + (-1)) (lv' := [(4, .int ((31 - nI j) + (-1))), (3, .int ((((L_upper a1 a2 j).2) <<< ((1 : Int32) &&& 31)) + a1)), (2, .int (((((L_upper a1 a2 j).1) <<< ((1 : Int32) &&& 31)) ||| ((((L_upper a1 a2 j).2).toUInt32 >>> ((31 : Int32).toUInt32 &&& Int32.toUInt32 31)).toInt32)) + 1)), (5, .int ((((L_upper a1 a2 j).2) <<< ((1 : Int32) &&& 31)) + a1)), (0, .int a1), (1, .int a2)]) hx hb dX1_upper_61 hl (k := 3) rfl rfl (by decide) rfl (fun ls hl => ?_)
        refine lv_goto (tgt := 8) hx hb dX1_upper_64 (by decide) ?_
        have hl := lv_sub hl [0, 2, 1, 4, 5] rfl
        have hacc : (L_upper a1 a2 (j + 1)) = (((((L_upper a1 a2 j).1) <<< ((1 : Int32) &&& 31)) ||| ((((L_upper a1 a2 j).2).toUInt32 >>> ((31 : Int32).toUInt32 &&& Int32.toUInt32 31)).toInt32)) + 1, (((L_upper a1 a2 j).2) <<< ((1 : Int32) &&& 31)) + a1) := by show B_upper a1 a2 j (L_upper a1 a2 j) = _; unfold B_upper; first | rfl | (rw [if_pos c_2, if_neg c_5]; done) | (rw [if_pos c_2, if_neg c_5]; rfl)
        rw [lpd_next] at hl
        exact ih _ _ ls hlt ⟨⟨rfl, rfl⟩, by rw [hacc]; exact hl⟩
def B_divided (a1 a2 : Int32) (j : Nat) (acc : Int32 × Int32) : Int32 × Int32 :=
  if 0 ≤ (acc.2) then
    if (F_m_under (((acc.2) <<< ((1 : Int32) &&& 31)) ||| ((a1 >>> ((31 - nI j) &&& 31)) &&& 1)) a2) = 0 then
      (((acc.1) <<< ((1 : Int32) &&& 31)) ||| 1, (((acc.2) <<< ((1 : Int32) &&& 31)) ||| ((a1 >>> ((31 - nI j) &&& 31)) &&& 1)) - a2)
    else
      (((acc.1) <<< ((1 : Int32) &&& 31)) ||| 0, ((acc.2) <<< ((1 : Int32) &&& 31)) ||| ((a1 >>> ((31 - nI j) &&& 31)) &&& 1))
  else
    (((acc.1) <<< ((1 : Int32) &&& 31)) ||| 1, (((acc.2) <<< ((1 : Int32) &&& 31)) ||| ((a1 >>> ((31 - nI j) &&& 31)) &&& 1)) - a2)
def L_divided (a1 a2 : Int32) : Nat → (Int32 × Int32)
  | 0 => (0, 0)
  | j + 1 => B_divided a1 a2 j (L_divided a1 a2 j)
def F_m_divided  (a1 : Int32) (a2 : Int32) (a3 : Int32) : Int32 :=
  if a3 = 0 then
    (L_divided a1 a2 32).1
  else
    (L_divided a1 a2 32).2
set_option maxHeartbeats 4000000 in
set_option maxRecDepth 100000 in
theorem c_m_divided (l : Launch) (a1 : Int32) (a2 : Int32) (a3 : Int32) : Met l yX1_divided wsX1_divided ({ frames := 1, cells := 0, slots := 0, locals := 25 }) (fun v _ => v = ([.int a1, .int a2, .int a3] : List Value).toArray) (vp_Si (fun r : Int32 => r = F_m_divided a1 a2 a3)) 0 0 (fun _ => False) := by
  refine Met.ofW (cc := cX1_divided) (maxL := 8) (ret := (some .int)) (by decide) rfl ?_
  intro p e s m args below meth c s₁ B hml hv
  obtain rfl := hv
  have hx := B.exec
  have hb := B.bytes
  have hr := B.returns
  have hts := atoms_spec (ws := wsX1_divided) B.pre
  have hown : s.vm.findClass RX1 = some m.cls := findClass_of_methodNamed B.named
  have hlocks := B.notSynchronized
  have hl := lv_entry ([.int a1, .int a2, .int a3]) (n := 8) (Nat.le_of_ble_eq_true rfl)
  rw [lg_entry_eq]
  generalize (lg_sl ([.int a1, .int a2, .int a3]) ++ List.replicate (8 - (lg_sl ([.int a1, .int a2, .int a3])).length) Slot.unset).toArray = ls at hl ⊢
  have hl : lv_has ls 8 [(0, .int a1), (1, .int a2), (2, .int a3)] := hl
  refine lv_iconst (v := 0) hx hb dX1_divided_0 (by decide) ?_
  refine lv_istore_n (lv' := [(3, .int 0), (0, .int a1), (1, .int a2), (2, .int a3)]) hx hb dX1_divided_1 rfl hl (by decide) rfl (fun ls hl => ?_)
  refine lv_iconst (v := 0) hx hb dX1_divided_2 (by decide) ?_
  refine lv_istore (lv' := [(4, .int 0), (3, .int 0), (0, .int a1), (1, .int a2), (2, .int a3)]) hx hb dX1_divided_3 hl (by decide) rfl (fun ls hl => ?_)
  refine lv_bipush (v := 31) hx hb dX1_divided_5 (by decide) ?_
  refine lv_istore (lv' := [(5, .int 31), (4, .int 0), (3, .int 0), (0, .int a1), (1, .int a2), (2, .int a3)]) hx hb dX1_divided_7 hl (by decide) rfl (fun ls hl => ?_)
  have hl := lv_sub hl [0, 2, 1, 3, 4, 5] rfl
  refine lv_loop (n := 32) (P := fun j H locs ls => (H = s.heap ∧ locs = []) ∧ lv_has ls 8 [(5, .int (31 - nI j)), (3, .int ((L_divided a1 a2 j).1)), (4, .int ((L_divided a1 a2 j).2)), (0, .int a1), (1, .int a2), (2, .int a3)]) (Wg := fun H locs ls => W p l e _ s m _ below meth c H locs 0 0 _ (F0 m 9 ls [])) ?_ (32) 0 _ _ ls (by omega) (Nat.zero_le _) ⟨⟨rfl, rfl⟩, (by rw [lpd_0]; exact hl)⟩
  rintro j H locs ls hj ⟨⟨rfl, rfl⟩, hl⟩ ih
  refine lv_iload hx hb dX1_divided_9 (lv_at hl 0 rfl) ?_
  refine lv_if_lt (tgt := 97) hx hb dX1_divided_11 (by decide) (fun c_1 => ?_) (fun c_1 => ?_)
  · have hjn : j = 32 := lpd_end hj c_1
    subst hjn
    refine lv_iload_n hx hb dX1_divided_97 rfl (lv_at hl 5 rfl) ?_
    refine lv_if_eq (tgt := 106) hx hb dX1_divided_98 (by decide) (fun c_2 => ?_) (fun c_2 => ?_)
    · refine lv_iload_n hx hb dX1_divided_106 rfl (lv_at hl 1 rfl) ?_
      exact W.iret (v := (L_divided a1 a2 32).1) hx hb hr (fun t ht hW => ⟨_, rfl, (by unfold F_m_divided; first | (rw [if_pos c_2]; done) | (rw [if_pos c_2]; rfl)), ht⟩) (fun _ h => by cases h) dX1_divided_107
    · refine lv_iload hx hb dX1_divided_101 (lv_at hl 2 rfl) ?_
      refine lv_goto (tgt := 107) hx hb dX1_divided_103 (by decide) ?_
      exact W.iret (v := (L_divided a1 a2 32).2) hx hb hr (fun t ht hW => ⟨_, rfl, (by unfold F_m_divided; first | (rw [if_neg c_2]; done) | (rw [if_neg c_2]; rfl)), ht⟩) (fun _ h => by cases h) dX1_divided_107
  · have hlt : j < 32 := lpd_lt hj c_1
    refine lv_iload hx hb dX1_divided_14 (lv_at hl 2 rfl) ?_
    refine lv_if_ge (tgt := 23) hx hb dX1_divided_16 (by decide) (fun c_3 => ?_) (fun c_3 => ?_)
    · refine lv_iconst (v := 0) hx hb dX1_divided_23 (by decide) ?_
      refine lv_istore (lv' := [(6, .int 0), (5, .int (31 - nI j)), (3, .int ((L_divided a1 a2 j).1)), (4, .int ((L_divided a1 a2 j).2)), (0, .int a1), (1, .int a2), (2, .int a3)]) hx hb dX1_divided_24 hl (by decide) rfl (fun ls hl => ?_)
      refine lv_iload hx hb dX1_divided_26 (lv_at hl 3 rfl) ?_
      refine lv_iconst (v := 1) hx hb dX1_divided_28 (by decide) ?_
      refine lv_ishl hx hb dX1_divided_29 ?_
      refine lv_iload_n hx hb dX1_divided_30 rfl (lv_at hl 4 rfl) ?_
      refine lv_iload hx hb dX1_divided_31 (lv_at hl 1 rfl) ?_
      refine lv_ishr hx hb dX1_divided_33 ?_
      refine lv_iconst (v := 1) hx hb dX1_divided_34 (by decide) ?_
      refine lv_iand hx hb dX1_divided_35 ?_
      refine lv_ior hx hb dX1_divided_36 ?_
      refine lv_istore (lv' := [(4, .int ((((L_divided a1 a2 j).2) <<< ((1 : Int32) &&& 31)) ||| ((a1 >>> ((31 - nI j) &&& 31)) &&& 1))), (6, .int 0), (5, .int (31 - nI j)), (3, .int ((L_divided a1 a2 j).1)), (0, .int a1), (1, .int a2), (2, .int a3)]) hx hb dX1_divided_37 hl (by decide) rfl (fun ls hl => ?_)
      refine lv_iload hx hb dX1_divided_39 (lv_at hl 1 rfl) ?_
      refine lv_if_ne (tgt := 53) hx hb dX1_divided_41 (by decide) (fun c_4 => ?_) (fun c_4 => ?_)
      · exact absurd (by decide) c_4
      · refine lv_iload hx hb dX1_divided_44 (lv_at hl 0 rfl) ?_
        refine lv_iload_n hx hb dX1_divided_46 rfl (lv_at hl 5 rfl) ?_
        refine vp_callSi (W.runS (As := [.int ((((L_divided a1 a2 j).2) <<< ((1 : Int32) &&& 31)) ||| ((a1 >>> ((31 - nI j) &&& 31)) &&& 1)), .int a2]) (rest := []) ⟨hx, hb, hml, hown, hts⟩ (c_m_under l ((((L_divided a1 a2 j).2) <<< ((1 : Int32) &&& 31)) ||| ((a1 >>> ((31 - nI j) &&& 31)) &&& 1)) a2) (cwS 2 hts (gS mL_X1_40 mS_X1_under mN_X1 mC_X1_under) rfl rfl rfl (by decide +kernel) ⟨Nat.le_of_ble_eq_true rfl, Nat.le_of_ble_eq_true rfl⟩) preEq rfl rfl hl.1 rfl (lv_room (Nat.le_of_ble_eq_true rfl)) dX1_divided_47 ⟨Nat.zero_le _, Nat.zero_le _⟩) (fun r_5 hw => ?_)
        obtain ⟨b_6, hw⟩ := hw
        rw [hw] at b_6 ⊢
        clear hw
        refine lv_if_ne (tgt := 57) hx hb dX1_divided_50 (by decide) (fun c_7 => ?_) (fun c_7 => ?_)
        · refine lv_iconst (v := 0) hx hb dX1_divided_57 (by decide) ?_
          refine lv_istore (lv' := [(7, .int 0), (4, .int ((((L_divided a1 a2 j).2) <<< ((1 : Int32) &&& 31)) ||| ((a1 >>> ((31 - nI j) &&& 31)) &&& 1))), (6, .int 0), (5, .int (31 - nI j)), (3, .int ((L_divided a1 a2 j).1)), (0, .int a1), (1, .int a2), (2, .int a3)]) hx hb dX1_divided_58 hl (by decide) rfl (fun ls hl => ?_)
          refine lv_iload hx hb dX1_divided_60 (lv_at hl 0 rfl) ?_
          refine lv_if_eq (tgt := 72) hx hb dX1_divided_62 (by decide) (fun c_8 => ?_) (fun c_8 => ?_)
          · refine lv_iload hx hb dX1_divided_72 (lv_at hl 1 rfl) ?_
            refine lv_istore (lv' := [(4, .int ((((L_divided a1 a2 j).2) <<< ((1 : Int32) &&& 31)) ||| ((a1 >>> ((31 - nI j) &&& 31)) &&& 1))), (7, .int 0), (6, .int 0), (5, .int (31 - nI j)), (3, .int ((L_divided a1 a2 j).1)), (0, .int a1), (1, .int a2), (2, .int a3)]) hx hb dX1_divided_74 hl (by decide) rfl (fun ls hl => ?_)
            refine lv_iload_n hx hb dX1_divided_76 rfl (lv_at hl 4 rfl) ?_
            refine lv_iconst (v := 1) hx hb dX1_divided_77 (by decide) ?_
            refine lv_ishl hx hb dX1_divided_78 ?_
            refine lv_iload hx hb dX1_divided_79 (lv_at hl 1 rfl) ?_
            refine lv_if_eq (tgt := 88) hx hb dX1_divided_81 (by decide) (fun c_9 => ?_) (fun c_9 => ?_)
            · refine lv_iconst (v := 0) hx hb dX1_divided_88 (by decide) ?_
              refine lv_ior hx hb dX1_divided_89 ?_
              refine lv_istore_n (lv' := [(3, .int ((((L_divided a1 a2 j).1) <<< ((1 : Int32) &&& 31)) ||| 0)), (4, .int ((((L_divided a1 a2 j).2) <<< ((1 : Int32) &&& 31)) ||| ((a1 >>> ((31 - nI j) &&& 31)) &&& 1))), (7, .int 0), (6, .int 0), (5, .int (31 - nI j)), (0, .int a1), (1, .int a2), (2, .int a3)]) hx hb dX1_divided_90 rfl hl (by decide) rfl (fun ls hl => ?_)
              refine lv_iinc (v := (31 - nI j) + (-1)) (lv' := [(5, .int ((31 - nI j) + (-1))), (3, .int ((((L_divided a1 a2 j).1) <<< ((1 : Int32) &&& 31)) ||| 0)), (4, .int ((((L_divided a1 a2 j).2) <<< ((1 : Int32) &&& 31)) ||| ((a1 >>> ((31 - nI j) &&& 31)) &&& 1))), (7, .int 0), (6, .int 0), (0, .int a1), (1, .int a2), (2, .int a3)]) hx hb dX1_divided_91 hl (k := 4) rfl rfl (by decide) rfl (fun ls hl => ?_)
              refine lv_goto (tgt := 9) hx hb dX1_divided_94 (by decide) ?_
              have hl := lv_sub hl [0, 1, 2, 5, 6, 7] rfl
              have hacc : (L_divided a1 a2 (j + 1)) = ((((L_divided a1 a2 j).1) <<< ((1 : Int32) &&& 31)) ||| 0, (((L_divided a1 a2 j).2) <<< ((1 : Int32) &&& 31)) ||| ((a1 >>> ((31 - nI j) &&& 31)) &&& 1)) := by show B_divided a1 a2 j (L_divided a1 a2 j) = _; unfold B_divided; first | rfl | (rw [if_pos c_3, if_neg c_7]; done) | (rw [if_pos c_3, if_neg c_7]; rfl)
              rw [lpd_next] at hl
              exact ih _ _ ls hlt ⟨⟨rfl, rfl⟩, by rw [hacc]; exact hl⟩
            · exact absurd (by decide) c_9
          · exact absurd (by decide) c_8
        · refine lv_iconst (v := 1) hx hb dX1_divided_53 (by decide) ?_
          refine lv_goto (tgt := 58) hx hb dX1_divided_54 (by decide) ?_
          refine lv_istore (lv' := [(7, .int 1), (4, .int ((((L_divided a1 a2 j).2) <<< ((1 : Int32) &&& 31)) ||| ((a1 >>> ((31 - nI j) &&& 31)) &&& 1))), (6, .int 0), (5, .int (31 - nI j)), (3, .int ((L_divided a1 a2 j).1)), (0, .int a1), (1, .int a2), (2, .int a3)]) hx hb dX1_divided_58 hl (by decide) rfl (fun ls hl => ?_)
          refine lv_iload hx hb dX1_divided_60 (lv_at hl 0 rfl) ?_
          refine lv_if_eq (tgt := 72) hx hb dX1_divided_62 (by decide) (fun c_10 => ?_) (fun c_10 => ?_)
          · exact absurd c_10 (by decide)
          · refine lv_iload hx hb dX1_divided_65 (lv_at hl 1 rfl) ?_
            refine lv_iload_n hx hb dX1_divided_67 rfl (lv_at hl 6 rfl) ?_
            refine lv_isub hx hb dX1_divided_68 ?_
            refine lv_goto (tgt := 74) hx hb dX1_divided_69 (by decide) ?_
            refine lv_istore (lv' := [(4, .int (((((L_divided a1 a2 j).2) <<< ((1 : Int32) &&& 31)) ||| ((a1 >>> ((31 - nI j) &&& 31)) &&& 1)) - a2)), (7, .int 1), (6, .int 0), (5, .int (31 - nI j)), (3, .int ((L_divided a1 a2 j).1)), (0, .int a1), (1, .int a2), (2, .int a3)]) hx hb dX1_divided_74 hl (by decide) rfl (fun ls hl => ?_)
            refine lv_iload_n hx hb dX1_divided_76 rfl (lv_at hl 4 rfl) ?_
            refine lv_iconst (v := 1) hx hb dX1_divided_77 (by decide) ?_
            refine lv_ishl hx hb dX1_divided_78 ?_
            refine lv_iload hx hb dX1_divided_79 (lv_at hl 1 rfl) ?_
            refine lv_if_eq (tgt := 88) hx hb dX1_divided_81 (by decide) (fun c_11 => ?_) (fun c_11 => ?_)
            · exact absurd c_11 (by decide)
            · refine lv_iconst (v := 1) hx hb dX1_divided_84 (by decide) ?_
              refine lv_goto (tgt := 89) hx hb dX1_divided_85 (by decide) ?_
              refine lv_ior hx hb dX1_divided_89 ?_
              refine lv_istore_n (lv' := [(3, .int ((((L_divided a1 a2 j).1) <<< ((1 : Int32) &&& 31)) ||| 1)), (4, .int (((((L_divided a1 a2 j).2) <<< ((1 : Int32) &&& 31)) ||| ((a1 >>> ((31 - nI j) &&& 31)) &&& 1)) - a2)), (7, .int 1), (6, .int 0), (5, .int (31 - nI j)), (0, .int a1), (1, .int a2), (2, .int a3)]) hx hb dX1_divided_90 rfl hl (by decide) rfl (fun ls hl => ?_)
              refine lv_iinc (v := (31 - nI j) + (-1)) (lv' := [(5, .int ((31 - nI j) + (-1))), (3, .int ((((L_divided a1 a2 j).1) <<< ((1 : Int32) &&& 31)) ||| 1)), (4, .int (((((L_divided a1 a2 j).2) <<< ((1 : Int32) &&& 31)) ||| ((a1 >>> ((31 - nI j) &&& 31)) &&& 1)) - a2)), (7, .int 1), (6, .int 0), (0, .int a1), (1, .int a2), (2, .int a3)]) hx hb dX1_divided_91 hl (k := 4) rfl rfl (by decide) rfl (fun ls hl => ?_)
              refine lv_goto (tgt := 9) hx hb dX1_divided_94 (by decide) ?_
              have hl := lv_sub hl [0, 1, 2, 5, 6, 7] rfl
              have hacc : (L_divided a1 a2 (j + 1)) = ((((L_divided a1 a2 j).1) <<< ((1 : Int32) &&& 31)) ||| 1, ((((L_divided a1 a2 j).2) <<< ((1 : Int32) &&& 31)) ||| ((a1 >>> ((31 - nI j) &&& 31)) &&& 1)) - a2) := by show B_divided a1 a2 j (L_divided a1 a2 j) = _; unfold B_divided; first | rfl | (rw [if_pos c_3, if_pos c_7]; done) | (rw [if_pos c_3, if_pos c_7]; rfl)
              rw [lpd_next] at hl
              exact ih _ _ ls hlt ⟨⟨rfl, rfl⟩, by rw [hacc]; exact hl⟩
    · refine lv_iconst (v := 1) hx hb dX1_divided_19 (by decide) ?_
      refine lv_goto (tgt := 24) hx hb dX1_divided_20 (by decide) ?_
      refine lv_istore (lv' := [(6, .int 1), (5, .int (31 - nI j)), (3, .int ((L_divided a1 a2 j).1)), (4, .int ((L_divided a1 a2 j).2)), (0, .int a1), (1, .int a2), (2, .int a3)]) hx hb dX1_divided_24 hl (by decide) rfl (fun ls hl => ?_)
      refine lv_iload hx hb dX1_divided_26 (lv_at hl 3 rfl) ?_
      refine lv_iconst (v := 1) hx hb dX1_divided_28 (by decide) ?_
      refine lv_ishl hx hb dX1_divided_29 ?_
      refine lv_iload_n hx hb dX1_divided_30 rfl (lv_at hl 4 rfl) ?_
      refine lv_iload hx hb dX1_divided_31 (lv_at hl 1 rfl) ?_
      refine lv_ishr hx hb dX1_divided_33 ?_
      refine lv_iconst (v := 1) hx hb dX1_divided_34 (by decide) ?_
      refine lv_iand hx hb dX1_divided_35 ?_
      refine lv_ior hx hb dX1_divided_36 ?_
      refine lv_istore (lv' := [(4, .int ((((L_divided a1 a2 j).2) <<< ((1 : Int32) &&& 31)) ||| ((a1 >>> ((31 - nI j) &&& 31)) &&& 1))), (6, .int 1), (5, .int (31 - nI j)), (3, .int ((L_divided a1 a2 j).1)), (0, .int a1), (1, .int a2), (2, .int a3)]) hx hb dX1_divided_37 hl (by decide) rfl (fun ls hl => ?_)
      refine lv_iload hx hb dX1_divided_39 (lv_at hl 1 rfl) ?_
      refine lv_if_ne (tgt := 53) hx hb dX1_divided_41 (by decide) (fun c_12 => ?_) (fun c_12 => ?_)
      · refine lv_iconst (v := 1) hx hb dX1_divided_53 (by decide) ?_
        refine lv_goto (tgt := 58) hx hb dX1_divided_54 (by decide) ?_
        refine lv_istore (lv' := [(7, .int 1), (4, .int ((((L_divided a1 a2 j).2) <<< ((1 : Int32) &&& 31)) ||| ((a1 >>> ((31 - nI j) &&& 31)) &&& 1))), (6, .int 1), (5, .int (31 - nI j)), (3, .int ((L_divided a1 a2 j).1)), (0, .int a1), (1, .int a2), (2, .int a3)]) hx hb dX1_divided_58 hl (by decide) rfl (fun ls hl => ?_)
        refine lv_iload hx hb dX1_divided_60 (lv_at hl 0 rfl) ?_
        refine lv_if_eq (tgt := 72) hx hb dX1_divided_62 (by decide) (fun c_13 => ?_) (fun c_13 => ?_)
        · exact absurd c_13 (by decide)
        · refine lv_iload hx hb dX1_divided_65 (lv_at hl 1 rfl) ?_
          refine lv_iload_n hx hb dX1_divided_67 rfl (lv_at hl 6 rfl) ?_
          refine lv_isub hx hb dX1_divided_68 ?_
          refine lv_goto (tgt := 74) hx hb dX1_divided_69 (by decide) ?_
          refine lv_istore (lv' := [(4, .int (((((L_divided a1 a2 j).2) <<< ((1 : Int32) &&& 31)) ||| ((a1 >>> ((31 - nI j) &&& 31)) &&& 1)) - a2)), (7, .int 1), (6, .int 1), (5, .int (31 - nI j)), (3, .int ((L_divided a1 a2 j).1)), (0, .int a1), (1, .int a2), (2, .int a3)]) hx hb dX1_divided_74 hl (by decide) rfl (fun ls hl => ?_)
          refine lv_iload_n hx hb dX1_divided_76 rfl (lv_at hl 4 rfl) ?_
          refine lv_iconst (v := 1) hx hb dX1_divided_77 (by decide) ?_
          refine lv_ishl hx hb dX1_divided_78 ?_
          refine lv_iload hx hb dX1_divided_79 (lv_at hl 1 rfl) ?_
          refine lv_if_eq (tgt := 88) hx hb dX1_divided_81 (by decide) (fun c_14 => ?_) (fun c_14 => ?_)
          · exact absurd c_14 (by decide)
          · refine lv_iconst (v := 1) hx hb dX1_divided_84 (by decide) ?_
            refine lv_goto (tgt := 89) hx hb dX1_divided_85 (by decide) ?_
            refine lv_ior hx hb dX1_divided_89 ?_
            refine lv_istore_n (lv' := [(3, .int ((((L_divided a1 a2 j).1) <<< ((1 : Int32) &&& 31)) ||| 1)), (4, .int (((((L_divided a1 a2 j).2) <<< ((1 : Int32) &&& 31)) ||| ((a1 >>> ((31 - nI j) &&& 31)) &&& 1)) - a2)), (7, .int 1), (6, .int 1), (5, .int (31 - nI j)), (0, .int a1), (1, .int a2), (2, .int a3)]) hx hb dX1_divided_90 rfl hl (by decide) rfl (fun ls hl => ?_)
            refine lv_iinc (v := (31 - nI j) + (-1)) (lv' := [(5, .int ((31 - nI j) + (-1))), (3, .int ((((L_divided a1 a2 j).1) <<< ((1 : Int32) &&& 31)) ||| 1)), (4, .int (((((L_divided a1 a2 j).2) <<< ((1 : Int32) &&& 31)) ||| ((a1 >>> ((31 - nI j) &&& 31)) &&& 1)) - a2)), (7, .int 1), (6, .int 1), (0, .int a1), (1, .int a2), (2, .int a3)]) hx hb dX1_divided_91 hl (k := 4) rfl rfl (by decide) rfl (fun ls hl => ?_)
            refine lv_goto (tgt := 9) hx hb dX1_divided_94 (by decide) ?_
            have hl := lv_sub hl [0, 1, 2, 5, 6, 7] rfl
            have hacc : (L_divided a1 a2 (j + 1)) = ((((L_divided a1 a2 j).1) <<< ((1 : Int32) &&& 31)) ||| 1, ((((L_divided a1 a2 j).2) <<< ((1 : Int32) &&& 31)) ||| ((a1 >>> ((31 - nI j) &&& 31)) &&& 1)) - a2) := by show B_divided a1 a2 j (L_divided a1 a2 j) = _; unfold B_divided; first | rfl | (rw [if_neg c_3]; done) | (rw [if_neg c_3]; rfl)
            rw [lpd_next] at hl
            exact ih _ _ ls hlt ⟨⟨rfl, rfl⟩, by rw [hacc]; exact hl⟩
      · exact absurd c_12 (by decide)
def F_m_quotient  (a1 : Int32) (a2 : Int32) (a3 : Int32) : Int32 :=
  if a2 = 0 then
    if a3 = 0 then
      (-1)
    else
      a1
  else
    if 0 ≤ a1 then
      if 0 ≤ a2 then
        if a3 = 0 then
          F_m_divided a1 a2 a3
        else
          F_m_divided a1 a2 a3
      else
        if a3 = 0 then
          -(F_m_divided a1 (-a2) a3)
        else
          F_m_divided a1 (-a2) a3
    else
      if 0 ≤ a2 then
        if a3 = 0 then
          -(F_m_divided (-a1) a2 a3)
        else
          -(F_m_divided (-a1) a2 a3)
      else
        if a3 = 0 then
          F_m_divided (-a1) (-a2) a3
        else
          -(F_m_divided (-a1) (-a2) a3)
set_option maxHeartbeats 4000000 in
set_option maxRecDepth 100000 in
theorem c_m_quotient (l : Launch) (a1 : Int32) (a2 : Int32) (a3 : Int32) : Met l yX1_quotient wsX1_quotient ({ frames := 2, cells := 0, slots := 0, locals := 52 }) (fun v _ => v = ([.int a1, .int a2, .int a3] : List Value).toArray) (vp_Si (fun r : Int32 => r = F_m_quotient a1 a2 a3)) 0 0 (fun _ => False) := by
  refine Met.ofW (cc := cX1_quotient) (maxL := 5) (ret := (some .int)) (by decide) rfl ?_
  intro p e s m args below meth c s₁ B hml hv
  obtain rfl := hv
  have hx := B.exec
  have hb := B.bytes
  have hr := B.returns
  have hts := atoms_spec (ws := wsX1_quotient) B.pre
  have hown : s.vm.findClass RX1 = some m.cls := findClass_of_methodNamed B.named
  have hlocks := B.notSynchronized
  have hl := lv_entry ([.int a1, .int a2, .int a3]) (n := 5) (Nat.le_of_ble_eq_true rfl)
  rw [lg_entry_eq]
  generalize (lg_sl ([.int a1, .int a2, .int a3]) ++ List.replicate (5 - (lg_sl ([.int a1, .int a2, .int a3])).length) Slot.unset).toArray = ls at hl ⊢
  have hl : lv_has ls 5 [(0, .int a1), (1, .int a2), (2, .int a3)] := hl
  refine lv_iload_n hx hb dX1_quotient_0 rfl (lv_at hl 1 rfl) ?_
  refine lv_if_ne (tgt := 14) hx hb dX1_quotient_1 (by decide) (fun c_1 => ?_) (fun c_1 => ?_)
  · refine lv_iload_n hx hb dX1_quotient_14 rfl (lv_at hl 0 rfl) ?_
    refine lv_if_ge (tgt := 23) hx hb dX1_quotient_15 (by decide) (fun c_2 => ?_) (fun c_2 => ?_)
    · refine lv_iload_n hx hb dX1_quotient_23 rfl (lv_at hl 0 rfl) ?_
      refine lv_iload_n hx hb dX1_quotient_24 rfl (lv_at hl 1 rfl) ?_
      refine lv_if_ge (tgt := 33) hx hb dX1_quotient_25 (by decide) (fun c_3 => ?_) (fun c_3 => ?_)
      · refine lv_iload_n hx hb dX1_quotient_33 rfl (lv_at hl 1 rfl) ?_
        refine lv_iload_n hx hb dX1_quotient_34 rfl (lv_at hl 2 rfl) ?_
        refine vp_callSi (W.runS (As := [.int a1, .int a2, .int a3]) (rest := []) ⟨hx, hb, hml, hown, hts⟩ (c_m_divided l a1 a2 a3) (cwS 3 hts (gS mL_X1_44 mS_X1_divided mN_X1 mC_X1_divided) rfl rfl rfl (by decide +kernel) ⟨Nat.le_of_ble_eq_true rfl, Nat.le_of_ble_eq_true rfl⟩) preEq rfl rfl hl.1 rfl (lv_room (Nat.le_of_ble_eq_true rfl)) dX1_quotient_35 ⟨Nat.zero_le _, Nat.zero_le _⟩) (fun r_4 hw => ?_)
        rw [hw]
        clear hw r_4
        refine lv_istore_n (lv' := [(3, .int (F_m_divided a1 a2 a3)), (0, .int a1), (1, .int a2), (2, .int a3)]) hx hb dX1_quotient_38 rfl hl (by decide) rfl (fun ls hl => ?_)
        refine lv_iload_n hx hb dX1_quotient_39 rfl (lv_at hl 3 rfl) ?_
        refine lv_if_eq (tgt := 55) hx hb dX1_quotient_40 (by decide) (fun c_5 => ?_) (fun c_5 => ?_)
        · refine lv_iload_n hx hb dX1_quotient_55 rfl (lv_at hl 1 rfl) ?_
          refine lv_if_ge (tgt := 63) hx hb dX1_quotient_56 (by decide) (fun c_6 => ?_) (fun c_6 => ?_)
          · refine lv_iconst (v := 0) hx hb dX1_quotient_63 (by decide) ?_
            refine lv_iload_n hx hb dX1_quotient_64 rfl (lv_at hl 2 rfl) ?_
            refine lv_if_ge (tgt := 72) hx hb dX1_quotient_65 (by decide) (fun c_7 => ?_) (fun c_7 => ?_)
            · refine lv_iconst (v := 0) hx hb dX1_quotient_72 (by decide) ?_
              refine lv_icmp_eq (tgt := 80) hx hb dX1_quotient_73 (by decide) (fun c_8 => ?_) (fun c_8 => ?_)
              · refine lv_iconst (v := 0) hx hb dX1_quotient_80 (by decide) ?_
                refine lv_istore (lv' := [(4, .int 0), (3, .int (F_m_divided a1 a2 a3)), (0, .int a1), (1, .int a2), (2, .int a3)]) hx hb dX1_quotient_81 hl (by decide) rfl (fun ls hl => ?_)
                refine lv_iload hx hb dX1_quotient_83 (lv_at hl 0 rfl) ?_
                refine lv_if_eq (tgt := 93) hx hb dX1_quotient_85 (by decide) (fun c_9 => ?_) (fun c_9 => ?_)
                · refine lv_iload_n hx hb dX1_quotient_93 rfl (lv_at hl 1 rfl) ?_
                  exact W.iret (v := F_m_divided a1 a2 a3) hx hb hr (fun t ht hW => ⟨_, rfl, (by unfold F_m_quotient; first | (rw [if_neg c_1, if_pos c_2, if_pos c_3, if_pos c_5]; done) | (rw [if_neg c_1, if_pos c_2, if_pos c_3, if_pos c_5]; rfl)), ht⟩) (fun _ h => by cases h) dX1_quotient_94
                · exact absurd (by decide) c_9
              · exact absurd (by decide) c_8
            · exact absurd c_3 c_7
          · exact absurd c_2 c_6
        · refine lv_iload_n hx hb dX1_quotient_43 rfl (lv_at hl 1 rfl) ?_
          refine lv_if_ge (tgt := 51) hx hb dX1_quotient_44 (by decide) (fun c_10 => ?_) (fun c_10 => ?_)
          · refine lv_iconst (v := 0) hx hb dX1_quotient_51 (by decide) ?_
            refine lv_goto (tgt := 81) hx hb dX1_quotient_52 (by decide) ?_
            refine lv_istore (lv' := [(4, .int 0), (3, .int (F_m_divided a1 a2 a3)), (0, .int a1), (1, .int a2), (2, .int a3)]) hx hb dX1_quotient_81 hl (by decide) rfl (fun ls hl => ?_)
            refine lv_iload hx hb dX1_quotient_83 (lv_at hl 0 rfl) ?_
            refine lv_if_eq (tgt := 93) hx hb dX1_quotient_85 (by decide) (fun c_11 => ?_) (fun c_11 => ?_)
            · refine lv_iload_n hx hb dX1_quotient_93 rfl (lv_at hl 1 rfl) ?_
              exact W.iret (v := F_m_divided a1 a2 a3) hx hb hr (fun t ht hW => ⟨_, rfl, (by unfold F_m_quotient; first | (rw [if_neg c_1, if_pos c_2, if_pos c_3, if_neg c_5]; done) | (rw [if_neg c_1, if_pos c_2, if_pos c_3, if_neg c_5]; rfl)), ht⟩) (fun _ h => by cases h) dX1_quotient_94
            · exact absurd (by decide) c_11
          · exact absurd c_2 c_10
      · refine lv_iload_n hx hb dX1_quotient_28 rfl (lv_at hl 1 rfl) ?_
        refine lv_ineg hx hb dX1_quotient_29 ?_
        refine lv_goto (tgt := 34) hx hb dX1_quotient_30 (by decide) ?_
        refine lv_iload_n hx hb dX1_quotient_34 rfl (lv_at hl 2 rfl) ?_
        refine vp_callSi (W.runS (As := [.int a1, .int (-a2), .int a3]) (rest := []) ⟨hx, hb, hml, hown, hts⟩ (c_m_divided l a1 (-a2) a3) (cwS 3 hts (gS mL_X1_44 mS_X1_divided mN_X1 mC_X1_divided) rfl rfl rfl (by decide +kernel) ⟨Nat.le_of_ble_eq_true rfl, Nat.le_of_ble_eq_true rfl⟩) preEq rfl rfl hl.1 rfl (lv_room (Nat.le_of_ble_eq_true rfl)) dX1_quotient_35 ⟨Nat.zero_le _, Nat.zero_le _⟩) (fun r_12 hw => ?_)
        rw [hw]
        clear hw r_12
        refine lv_istore_n (lv' := [(3, .int (F_m_divided a1 (-a2) a3)), (0, .int a1), (1, .int a2), (2, .int a3)]) hx hb dX1_quotient_38 rfl hl (by decide) rfl (fun ls hl => ?_)
        refine lv_iload_n hx hb dX1_quotient_39 rfl (lv_at hl 3 rfl) ?_
        refine lv_if_eq (tgt := 55) hx hb dX1_quotient_40 (by decide) (fun c_13 => ?_) (fun c_13 => ?_)
        · refine lv_iload_n hx hb dX1_quotient_55 rfl (lv_at hl 1 rfl) ?_
          refine lv_if_ge (tgt := 63) hx hb dX1_quotient_56 (by decide) (fun c_14 => ?_) (fun c_14 => ?_)
          · refine lv_iconst (v := 0) hx hb dX1_quotient_63 (by decide) ?_
            refine lv_iload_n hx hb dX1_quotient_64 rfl (lv_at hl 2 rfl) ?_
            refine lv_if_ge (tgt := 72) hx hb dX1_quotient_65 (by decide) (fun c_15 => ?_) (fun c_15 => ?_)
            · exact absurd c_15 c_3
            · refine lv_iconst (v := 1) hx hb dX1_quotient_68 (by decide) ?_
              refine lv_goto (tgt := 73) hx hb dX1_quotient_69 (by decide) ?_
              refine lv_icmp_eq (tgt := 80) hx hb dX1_quotient_73 (by decide) (fun c_16 => ?_) (fun c_16 => ?_)
              · exact absurd c_16 (by decide)
              · refine lv_iconst (v := 1) hx hb dX1_quotient_76 (by decide) ?_
                refine lv_goto (tgt := 81) hx hb dX1_quotient_77 (by decide) ?_
                refine lv_istore (lv' := [(4, .int 1), (3, .int (F_m_divided a1 (-a2) a3)), (0, .int a1), (1, .int a2), (2, .int a3)]) hx hb dX1_quotient_81 hl (by decide) rfl (fun ls hl => ?_)
                refine lv_iload hx hb dX1_quotient_83 (lv_at hl 0 rfl) ?_
                refine lv_if_eq (tgt := 93) hx hb dX1_quotient_85 (by decide) (fun c_17 => ?_) (fun c_17 => ?_)
                · exact absurd c_17 (by decide)
                · refine lv_iload_n hx hb dX1_quotient_88 rfl (lv_at hl 1 rfl) ?_
                  refine lv_ineg hx hb dX1_quotient_89 ?_
                  refine lv_goto (tgt := 94) hx hb dX1_quotient_90 (by decide) ?_
                  exact W.iret (v := -(F_m_divided a1 (-a2) a3)) hx hb hr (fun t ht hW => ⟨_, rfl, (by unfold F_m_quotient; first | (rw [if_neg c_1, if_pos c_2, if_neg c_3, if_pos c_13]; done) | (rw [if_neg c_1, if_pos c_2, if_neg c_3, if_pos c_13]; rfl)), ht⟩) (fun _ h => by cases h) dX1_quotient_94
          · exact absurd c_2 c_14
        · refine lv_iload_n hx hb dX1_quotient_43 rfl (lv_at hl 1 rfl) ?_
          refine lv_if_ge (tgt := 51) hx hb dX1_quotient_44 (by decide) (fun c_18 => ?_) (fun c_18 => ?_)
          · refine lv_iconst (v := 0) hx hb dX1_quotient_51 (by decide) ?_
            refine lv_goto (tgt := 81) hx hb dX1_quotient_52 (by decide) ?_
            refine lv_istore (lv' := [(4, .int 0), (3, .int (F_m_divided a1 (-a2) a3)), (0, .int a1), (1, .int a2), (2, .int a3)]) hx hb dX1_quotient_81 hl (by decide) rfl (fun ls hl => ?_)
            refine lv_iload hx hb dX1_quotient_83 (lv_at hl 0 rfl) ?_
            refine lv_if_eq (tgt := 93) hx hb dX1_quotient_85 (by decide) (fun c_19 => ?_) (fun c_19 => ?_)
            · refine lv_iload_n hx hb dX1_quotient_93 rfl (lv_at hl 1 rfl) ?_
              exact W.iret (v := F_m_divided a1 (-a2) a3) hx hb hr (fun t ht hW => ⟨_, rfl, (by unfold F_m_quotient; first | (rw [if_neg c_1, if_pos c_2, if_neg c_3, if_neg c_13]; done) | (rw [if_neg c_1, if_pos c_2, if_neg c_3, if_neg c_13]; rfl)), ht⟩) (fun _ h => by cases h) dX1_quotient_94
            · exact absurd (by decide) c_19
          · exact absurd c_2 c_18
    · refine lv_iload_n hx hb dX1_quotient_18 rfl (lv_at hl 0 rfl) ?_
      refine lv_ineg hx hb dX1_quotient_19 ?_
      refine lv_goto (tgt := 24) hx hb dX1_quotient_20 (by decide) ?_
      refine lv_iload_n hx hb dX1_quotient_24 rfl (lv_at hl 1 rfl) ?_
      refine lv_if_ge (tgt := 33) hx hb dX1_quotient_25 (by decide) (fun c_20 => ?_) (fun c_20 => ?_)
      · refine lv_iload_n hx hb dX1_quotient_33 rfl (lv_at hl 1 rfl) ?_
        refine lv_iload_n hx hb dX1_quotient_34 rfl (lv_at hl 2 rfl) ?_
        refine vp_callSi (W.runS (As := [.int (-a1), .int a2, .int a3]) (rest := []) ⟨hx, hb, hml, hown, hts⟩ (c_m_divided l (-a1) a2 a3) (cwS 3 hts (gS mL_X1_44 mS_X1_divided mN_X1 mC_X1_divided) rfl rfl rfl (by decide +kernel) ⟨Nat.le_of_ble_eq_true rfl, Nat.le_of_ble_eq_true rfl⟩) preEq rfl rfl hl.1 rfl (lv_room (Nat.le_of_ble_eq_true rfl)) dX1_quotient_35 ⟨Nat.zero_le _, Nat.zero_le _⟩) (fun r_21 hw => ?_)
        rw [hw]
        clear hw r_21
        refine lv_istore_n (lv' := [(3, .int (F_m_divided (-a1) a2 a3)), (0, .int a1), (1, .int a2), (2, .int a3)]) hx hb dX1_quotient_38 rfl hl (by decide) rfl (fun ls hl => ?_)
        refine lv_iload_n hx hb dX1_quotient_39 rfl (lv_at hl 3 rfl) ?_
        refine lv_if_eq (tgt := 55) hx hb dX1_quotient_40 (by decide) (fun c_22 => ?_) (fun c_22 => ?_)
        · refine lv_iload_n hx hb dX1_quotient_55 rfl (lv_at hl 1 rfl) ?_
          refine lv_if_ge (tgt := 63) hx hb dX1_quotient_56 (by decide) (fun c_23 => ?_) (fun c_23 => ?_)
          · exact absurd c_23 c_2
          · refine lv_iconst (v := 1) hx hb dX1_quotient_59 (by decide) ?_
            refine lv_goto (tgt := 64) hx hb dX1_quotient_60 (by decide) ?_
            refine lv_iload_n hx hb dX1_quotient_64 rfl (lv_at hl 2 rfl) ?_
            refine lv_if_ge (tgt := 72) hx hb dX1_quotient_65 (by decide) (fun c_24 => ?_) (fun c_24 => ?_)
            · refine lv_iconst (v := 0) hx hb dX1_quotient_72 (by decide) ?_
              refine lv_icmp_eq (tgt := 80) hx hb dX1_quotient_73 (by decide) (fun c_25 => ?_) (fun c_25 => ?_)
              · exact absurd c_25 (by decide)
              · refine lv_iconst (v := 1) hx hb dX1_quotient_76 (by decide) ?_
                refine lv_goto (tgt := 81) hx hb dX1_quotient_77 (by decide) ?_
                refine lv_istore (lv' := [(4, .int 1), (3, .int (F_m_divided (-a1) a2 a3)), (0, .int a1), (1, .int a2), (2, .int a3)]) hx hb dX1_quotient_81 hl (by decide) rfl (fun ls hl => ?_)
                refine lv_iload hx hb dX1_quotient_83 (lv_at hl 0 rfl) ?_
                refine lv_if_eq (tgt := 93) hx hb dX1_quotient_85 (by decide) (fun c_26 => ?_) (fun c_26 => ?_)
                · exact absurd c_26 (by decide)
                · refine lv_iload_n hx hb dX1_quotient_88 rfl (lv_at hl 1 rfl) ?_
                  refine lv_ineg hx hb dX1_quotient_89 ?_
                  refine lv_goto (tgt := 94) hx hb dX1_quotient_90 (by decide) ?_
                  exact W.iret (v := -(F_m_divided (-a1) a2 a3)) hx hb hr (fun t ht hW => ⟨_, rfl, (by unfold F_m_quotient; first | (rw [if_neg c_1, if_neg c_2, if_pos c_20, if_pos c_22]; done) | (rw [if_neg c_1, if_neg c_2, if_pos c_20, if_pos c_22]; rfl)), ht⟩) (fun _ h => by cases h) dX1_quotient_94
            · exact absurd c_20 c_24
        · refine lv_iload_n hx hb dX1_quotient_43 rfl (lv_at hl 1 rfl) ?_
          refine lv_if_ge (tgt := 51) hx hb dX1_quotient_44 (by decide) (fun c_27 => ?_) (fun c_27 => ?_)
          · exact absurd c_27 c_2
          · refine lv_iconst (v := 1) hx hb dX1_quotient_47 (by decide) ?_
            refine lv_goto (tgt := 81) hx hb dX1_quotient_48 (by decide) ?_
            refine lv_istore (lv' := [(4, .int 1), (3, .int (F_m_divided (-a1) a2 a3)), (0, .int a1), (1, .int a2), (2, .int a3)]) hx hb dX1_quotient_81 hl (by decide) rfl (fun ls hl => ?_)
            refine lv_iload hx hb dX1_quotient_83 (lv_at hl 0 rfl) ?_
            refine lv_if_eq (tgt := 93) hx hb dX1_quotient_85 (by decide) (fun c_28 => ?_) (fun c_28 => ?_)
            · exact absurd c_28 (by decide)
            · refine lv_iload_n hx hb dX1_quotient_88 rfl (lv_at hl 1 rfl) ?_
              refine lv_ineg hx hb dX1_quotient_89 ?_
              refine lv_goto (tgt := 94) hx hb dX1_quotient_90 (by decide) ?_
              exact W.iret (v := -(F_m_divided (-a1) a2 a3)) hx hb hr (fun t ht hW => ⟨_, rfl, (by unfold F_m_quotient; first | (rw [if_neg c_1, if_neg c_2, if_pos c_20, if_neg c_22]; done) | (rw [if_neg c_1, if_neg c_2, if_pos c_20, if_neg c_22]; rfl)), ht⟩) (fun _ h => by cases h) dX1_quotient_94
      · refine lv_iload_n hx hb dX1_quotient_28 rfl (lv_at hl 1 rfl) ?_
        refine lv_ineg hx hb dX1_quotient_29 ?_
        refine lv_goto (tgt := 34) hx hb dX1_quotient_30 (by decide) ?_
        refine lv_iload_n hx hb dX1_quotient_34 rfl (lv_at hl 2 rfl) ?_
        refine vp_callSi (W.runS (As := [.int (-a1), .int (-a2), .int a3]) (rest := []) ⟨hx, hb, hml, hown, hts⟩ (c_m_divided l (-a1) (-a2) a3) (cwS 3 hts (gS mL_X1_44 mS_X1_divided mN_X1 mC_X1_divided) rfl rfl rfl (by decide +kernel) ⟨Nat.le_of_ble_eq_true rfl, Nat.le_of_ble_eq_true rfl⟩) preEq rfl rfl hl.1 rfl (lv_room (Nat.le_of_ble_eq_true rfl)) dX1_quotient_35 ⟨Nat.zero_le _, Nat.zero_le _⟩) (fun r_29 hw => ?_)
        rw [hw]
        clear hw r_29
        refine lv_istore_n (lv' := [(3, .int (F_m_divided (-a1) (-a2) a3)), (0, .int a1), (1, .int a2), (2, .int a3)]) hx hb dX1_quotient_38 rfl hl (by decide) rfl (fun ls hl => ?_)
        refine lv_iload_n hx hb dX1_quotient_39 rfl (lv_at hl 3 rfl) ?_
        refine lv_if_eq (tgt := 55) hx hb dX1_quotient_40 (by decide) (fun c_30 => ?_) (fun c_30 => ?_)
        · refine lv_iload_n hx hb dX1_quotient_55 rfl (lv_at hl 1 rfl) ?_
          refine lv_if_ge (tgt := 63) hx hb dX1_quotient_56 (by decide) (fun c_31 => ?_) (fun c_31 => ?_)
          · exact absurd c_31 c_2
          · refine lv_iconst (v := 1) hx hb dX1_quotient_59 (by decide) ?_
            refine lv_goto (tgt := 64) hx hb dX1_quotient_60 (by decide) ?_
            refine lv_iload_n hx hb dX1_quotient_64 rfl (lv_at hl 2 rfl) ?_
            refine lv_if_ge (tgt := 72) hx hb dX1_quotient_65 (by decide) (fun c_32 => ?_) (fun c_32 => ?_)
            · exact absurd c_32 c_20
            · refine lv_iconst (v := 1) hx hb dX1_quotient_68 (by decide) ?_
              refine lv_goto (tgt := 73) hx hb dX1_quotient_69 (by decide) ?_
              refine lv_icmp_eq (tgt := 80) hx hb dX1_quotient_73 (by decide) (fun c_33 => ?_) (fun c_33 => ?_)
              · refine lv_iconst (v := 0) hx hb dX1_quotient_80 (by decide) ?_
                refine lv_istore (lv' := [(4, .int 0), (3, .int (F_m_divided (-a1) (-a2) a3)), (0, .int a1), (1, .int a2), (2, .int a3)]) hx hb dX1_quotient_81 hl (by decide) rfl (fun ls hl => ?_)
                refine lv_iload hx hb dX1_quotient_83 (lv_at hl 0 rfl) ?_
                refine lv_if_eq (tgt := 93) hx hb dX1_quotient_85 (by decide) (fun c_34 => ?_) (fun c_34 => ?_)
                · refine lv_iload_n hx hb dX1_quotient_93 rfl (lv_at hl 1 rfl) ?_
                  exact W.iret (v := F_m_divided (-a1) (-a2) a3) hx hb hr (fun t ht hW => ⟨_, rfl, (by unfold F_m_quotient; first | (rw [if_neg c_1, if_neg c_2, if_neg c_20, if_pos c_30]; done) | (rw [if_neg c_1, if_neg c_2, if_neg c_20, if_pos c_30]; rfl)), ht⟩) (fun _ h => by cases h) dX1_quotient_94
                · exact absurd (by decide) c_34
              · exact absurd (by decide) c_33
        · refine lv_iload_n hx hb dX1_quotient_43 rfl (lv_at hl 1 rfl) ?_
          refine lv_if_ge (tgt := 51) hx hb dX1_quotient_44 (by decide) (fun c_35 => ?_) (fun c_35 => ?_)
          · exact absurd c_35 c_2
          · refine lv_iconst (v := 1) hx hb dX1_quotient_47 (by decide) ?_
            refine lv_goto (tgt := 81) hx hb dX1_quotient_48 (by decide) ?_
            refine lv_istore (lv' := [(4, .int 1), (3, .int (F_m_divided (-a1) (-a2) a3)), (0, .int a1), (1, .int a2), (2, .int a3)]) hx hb dX1_quotient_81 hl (by decide) rfl (fun ls hl => ?_)
            refine lv_iload hx hb dX1_quotient_83 (lv_at hl 0 rfl) ?_
            refine lv_if_eq (tgt := 93) hx hb dX1_quotient_85 (by decide) (fun c_36 => ?_) (fun c_36 => ?_)
            · exact absurd c_36 (by decide)
            · refine lv_iload_n hx hb dX1_quotient_88 rfl (lv_at hl 1 rfl) ?_
              refine lv_ineg hx hb dX1_quotient_89 ?_
              refine lv_goto (tgt := 94) hx hb dX1_quotient_90 (by decide) ?_
              exact W.iret (v := -(F_m_divided (-a1) (-a2) a3)) hx hb hr (fun t ht hW => ⟨_, rfl, (by unfold F_m_quotient; first | (rw [if_neg c_1, if_neg c_2, if_neg c_20, if_neg c_30]; done) | (rw [if_neg c_1, if_neg c_2, if_neg c_20, if_neg c_30]; rfl)), ht⟩) (fun _ h => by cases h) dX1_quotient_94
  · refine lv_iload_n hx hb dX1_quotient_4 rfl (lv_at hl 2 rfl) ?_
    refine lv_if_eq (tgt := 12) hx hb dX1_quotient_5 (by decide) (fun c_37 => ?_) (fun c_37 => ?_)
    · refine lv_iconst (v := (-1)) hx hb dX1_quotient_12 (by decide) ?_
      exact W.iret (v := (-1)) hx hb hr (fun t ht hW => ⟨_, rfl, (by unfold F_m_quotient; first | (rw [if_pos c_1, if_pos c_37]; done) | (rw [if_pos c_1, if_pos c_37]; rfl)), ht⟩) (fun _ h => by cases h) dX1_quotient_13
    · refine lv_iload_n hx hb dX1_quotient_8 rfl (lv_at hl 0 rfl) ?_
      refine lv_goto (tgt := 13) hx hb dX1_quotient_9 (by decide) ?_
      exact W.iret (v := a1) hx hb hr (fun t ht hW => ⟨_, rfl, (by unfold F_m_quotient; first | (rw [if_pos c_1, if_neg c_37]; done) | (rw [if_pos c_1, if_neg c_37]; rfl)), ht⟩) (fun _ h => by cases h) dX1_quotient_13
def B_moved (a1 a3 a4 : Int32) (j : Nat) (acc : Int32) : Int32 :=
  if a3 = 0 then
    if a4 = 0 then
      ((acc).toUInt32 >>> ((1 : Int32).toUInt32 &&& Int32.toUInt32 31)).toInt32
    else
      (acc) >>> ((1 : Int32) &&& 31)
  else
    (acc) + (acc)
def L_moved (a1 a3 a4 : Int32) : Nat → Int32
  | 0 => a1
  | j + 1 => B_moved a1 a3 a4 j (L_moved a1 a3 a4 j)
def F_m_moved  (a1 : Int32) (a2 : Int32) (a3 : Int32) (a4 : Int32) : Int32 :=
  (L_moved a1 a3 a4 (a2.toNatClampNeg))
set_option maxHeartbeats 4000000 in
set_option maxRecDepth 100000 in
theorem c_m_moved (l : Launch) (a1 : Int32) (a2 : Int32) (a3 : Int32) (a4 : Int32) : Met l yX1_moved wsX1_moved ({ frames := 0, cells := 0, slots := 0, locals := 0 }) (fun v _ => v = ([.int a1, .int a2, .int a3, .int a4] : List Value).toArray) (vp_Si (fun r : Int32 => r = F_m_moved a1 a2 a3 a4)) 0 0 (fun _ => False) := by
  refine Met.ofW (cc := cX1_moved) (maxL := 6) (ret := (some .int)) (by decide) rfl ?_
  intro p e s m args below meth c s₁ B hml hv
  obtain rfl := hv
  have hx := B.exec
  have hb := B.bytes
  have hr := B.returns
  have hts := atoms_spec (ws := wsX1_moved) B.pre
  have hown : s.vm.findClass RX1 = some m.cls := findClass_of_methodNamed B.named
  have hlocks := B.notSynchronized
  have hl := lv_entry ([.int a1, .int a2, .int a3, .int a4]) (n := 6) (Nat.le_of_ble_eq_true rfl)
  rw [lg_entry_eq]
  generalize (lg_sl ([.int a1, .int a2, .int a3, .int a4]) ++ List.replicate (6 - (lg_sl ([.int a1, .int a2, .int a3, .int a4])).length) Slot.unset).toArray = ls at hl ⊢
  have hl : lv_has ls 6 [(0, .int a1), (1, .int a2), (2, .int a3), (3, .int a4)] := hl
  refine lv_iload_n hx hb dX1_moved_0 rfl (lv_at hl 0 rfl) ?_
  refine lv_istore (lv' := [(4, .int a1), (0, .int a1), (1, .int a2), (2, .int a3), (3, .int a4)]) hx hb dX1_moved_1 hl (by decide) rfl (fun ls hl => ?_)
  refine lv_iconst (v := 0) hx hb dX1_moved_3 (by decide) ?_
  refine lv_istore (lv' := [(5, .int 0), (4, .int a1), (0, .int a1), (1, .int a2), (2, .int a3), (3, .int a4)]) hx hb dX1_moved_4 hl (by decide) rfl (fun ls hl => ?_)
  have hl := lv_sub hl [0, 1, 2, 3, 4, 5] rfl
  refine lv_loop (n := a2.toNatClampNeg) (P := fun j H locs ls => (H = s.heap ∧ locs = []) ∧ lv_has ls 6 [(5, .int (nI j)), (4, .int ((L_moved a1 a3 a4 j))), (0, .int a1), (1, .int a2), (2, .int a3), (3, .int a4)]) (Wg := fun H locs ls => W p l e _ s m _ below meth c H locs 0 0 _ (F0 m 6 ls [])) ?_ (a2.toNatClampNeg) 0 _ _ ls (by omega) (Nat.zero_le _) ⟨⟨rfl, rfl⟩, hl⟩
  rintro j H locs ls hj ⟨⟨rfl, rfl⟩, hl⟩ ih
  refine lv_iload hx hb dX1_moved_6 (lv_at hl 0 rfl) ?_
  refine lv_iload_n hx hb dX1_moved_8 rfl (lv_at hl 3 rfl) ?_
  refine lv_icmp_ge (tgt := 47) hx hb dX1_moved_9 (by decide) (fun c_1 => ?_) (fun c_1 => ?_)
  · have hjn : j = a2.toNatClampNeg := lp_end hj c_1
    subst hjn
    refine lv_iload hx hb dX1_moved_47 (lv_at hl 1 rfl) ?_
    exact W.iret (v := (L_moved a1 a3 a4 (a2.toNatClampNeg))) hx hb hr (fun t ht hW => ⟨_, rfl, (by unfold F_m_moved; rfl), ht⟩) (fun _ h => by cases h) dX1_moved_49
  · have hlt : j < a2.toNatClampNeg := lp_lt hj c_1
    refine lv_iload_n hx hb dX1_moved_12 rfl (lv_at hl 4 rfl) ?_
    refine lv_if_eq (tgt := 24) hx hb dX1_moved_13 (by decide) (fun c_2 => ?_) (fun c_2 => ?_)
    · refine lv_iload_n hx hb dX1_moved_24 rfl (lv_at hl 5 rfl) ?_
      refine lv_if_eq (tgt := 35) hx hb dX1_moved_25 (by decide) (fun c_3 => ?_) (fun c_3 => ?_)
      · refine lv_iload hx hb dX1_moved_35 (lv_at hl 1 rfl) ?_
        refine lv_iconst (v := 1) hx hb dX1_moved_37 (by decide) ?_
        refine lv_iushr (v := (((L_moved a1 a3 a4 j)).toUInt32 >>> ((1 : Int32).toUInt32 &&& Int32.toUInt32 31)).toInt32) hx hb dX1_moved_38 rfl ?_
        refine lv_istore (lv' := [(4, .int ((((L_moved a1 a3 a4 j)).toUInt32 >>> ((1 : Int32).toUInt32 &&& Int32.toUInt32 31)).toInt32)), (5, .int (nI j)), (0, .int a1), (1, .int a2), (2, .int a3), (3, .int a4)]) hx hb dX1_moved_39 hl (by decide) rfl (fun ls hl => ?_)
        refine lv_iinc (v := (nI j) + 1) (lv' := [(5, .int ((nI j) + 1)), (4, .int ((((L_moved a1 a3 a4 j)).toUInt32 >>> ((1 : Int32).toUInt32 &&& Int32.toUInt32 31)).toInt32)), (0, .int a1), (1, .int a2), (2, .int a3), (3, .int a4)]) hx hb dX1_moved_41 hl (k := 1) rfl rfl (by decide) rfl (fun ls hl => ?_)
        refine lv_goto (tgt := 6) hx hb dX1_moved_44 (by decide) ?_
        have hl := lv_sub hl [0, 1, 2, 3, 4, 5] rfl
        have hacc : (L_moved a1 a3 a4 (j + 1)) = (((L_moved a1 a3 a4 j)).toUInt32 >>> ((1 : Int32).toUInt32 &&& Int32.toUInt32 31)).toInt32 := by show B_moved a1 a3 a4 j (L_moved a1 a3 a4 j) = _; unfold B_moved; first | rfl | (rw [if_pos c_2, if_pos c_3]; done) | (rw [if_pos c_2, if_pos c_3]; rfl)
        rw [nI_1] at hl
        exact ih _ _ ls hlt ⟨⟨rfl, rfl⟩, by rw [hacc]; exact hl⟩
      · refine lv_iload hx hb dX1_moved_28 (lv_at hl 1 rfl) ?_
        refine lv_iconst (v := 1) hx hb dX1_moved_30 (by decide) ?_
        refine lv_ishr hx hb dX1_moved_31 ?_
        refine lv_goto (tgt := 39) hx hb dX1_moved_32 (by decide) ?_
        refine lv_istore (lv' := [(4, .int (((L_moved a1 a3 a4 j)) >>> ((1 : Int32) &&& 31))), (5, .int (nI j)), (0, .int a1), (1, .int a2), (2, .int a3), (3, .int a4)]) hx hb dX1_moved_39 hl (by decide) rfl (fun ls hl => ?_)
        refine lv_iinc (v := (nI j) + 1) (lv' := [(5, .int ((nI j) + 1)), (4, .int (((L_moved a1 a3 a4 j)) >>> ((1 : Int32) &&& 31))), (0, .int a1), (1, .int a2), (2, .int a3), (3, .int a4)]) hx hb dX1_moved_41 hl (k := 1) rfl rfl (by decide) rfl (fun ls hl => ?_)
        refine lv_goto (tgt := 6) hx hb dX1_moved_44 (by decide) ?_
        have hl := lv_sub hl [0, 1, 2, 3, 4, 5] rfl
        have hacc : (L_moved a1 a3 a4 (j + 1)) = ((L_moved a1 a3 a4 j)) >>> ((1 : Int32) &&& 31) := by show B_moved a1 a3 a4 j (L_moved a1 a3 a4 j) = _; unfold B_moved; first | rfl | (rw [if_pos c_2, if_neg c_3]; done) | (rw [if_pos c_2, if_neg c_3]; rfl)
        rw [nI_1] at hl
        exact ih _ _ ls hlt ⟨⟨rfl, rfl⟩, by rw [hacc]; exact hl⟩
    · refine lv_iload hx hb dX1_moved_16 (lv_at hl 1 rfl) ?_
      refine lv_iload hx hb dX1_moved_18 (lv_at hl 1 rfl) ?_
      refine lv_iadd hx hb dX1_moved_20 ?_
      refine lv_goto (tgt := 39) hx hb dX1_moved_21 (by decide) ?_
      refine lv_istore (lv' := [(4, .int (((L_moved a1 a3 a4 j)) + ((L_moved a1 a3 a4 j)))), (5, .int (nI j)), (0, .int a1), (1, .int a2), (2, .int a3), (3, .int a4)]) hx hb dX1_moved_39 hl (by decide) rfl (fun ls hl => ?_)
      refine lv_iinc (v := (nI j) + 1) (lv' := [(5, .int ((nI j) + 1)), (4, .int (((L_moved a1 a3 a4 j)) + ((L_moved a1 a3 a4 j)))), (0, .int a1), (1, .int a2), (2, .int a3), (3, .int a4)]) hx hb dX1_moved_41 hl (k := 1) rfl rfl (by decide) rfl (fun ls hl => ?_)
      refine lv_goto (tgt := 6) hx hb dX1_moved_44 (by decide) ?_
      have hl := lv_sub hl [0, 1, 2, 3, 4, 5] rfl
      have hacc : (L_moved a1 a3 a4 (j + 1)) = ((L_moved a1 a3 a4 j)) + ((L_moved a1 a3 a4 j)) := by show B_moved a1 a3 a4 j (L_moved a1 a3 a4 j) = _; unfold B_moved; first | rfl | (rw [if_neg c_2]; done) | (rw [if_neg c_2]; rfl)
      rw [nI_1] at hl
      exact ih _ _ ls hlt ⟨⟨rfl, rfl⟩, by rw [hacc]; exact hl⟩
def F_m_multiplied  (a1 : Int32) (a2 : Int32) (a3 : Int32) : Int32 :=
  if a1 = 0 then
    a2 * a3
  else
    if a1 = 1 then
      if 0 ≤ a2 then
        if 0 ≤ a3 then
          ((F_m_upper a2 a3) - 0) - 0
        else
          ((F_m_upper a2 a3) - 0) - a2
      else
        if 0 ≤ a3 then
          ((F_m_upper a2 a3) - a3) - 0
        else
          ((F_m_upper a2 a3) - a3) - a2
    else
      if a1 = 2 then
        if 0 ≤ a2 then
          (F_m_upper a2 a3) - 0
        else
          (F_m_upper a2 a3) - a3
      else
        if a1 = 3 then
          F_m_upper a2 a3
        else
          if a1 = 4 then
            F_m_quotient a2 a3 0
          else
            if a1 = 5 then
              if a3 = 0 then
                (-1)
              else
                F_m_divided a2 a3 0
            else
              if a1 = 6 then
                F_m_quotient a2 a3 1
              else
                if a3 = 0 then
                  a2
                else
                  F_m_divided a2 a3 1
set_option maxHeartbeats 4000000 in
set_option maxRecDepth 100000 in
theorem c_m_multiplied (l : Launch) (a1 : Int32) (a2 : Int32) (a3 : Int32) : Met l yX1_multiplied wsX1_multiplied ({ frames := 3, cells := 0, slots := 0, locals := 76 }) (fun v _ => v = ([.int a1, .int a2, .int a3] : List Value).toArray) (vp_Si (fun r : Int32 => r = F_m_multiplied a1 a2 a3)) 0 0 (fun _ => False) := by
  refine Met.ofW (cc := cX1_multiplied) (maxL := 4) (ret := (some .int)) (by decide) rfl ?_
  intro p e s m args below meth c s₁ B hml hv
  obtain rfl := hv
  have hx := B.exec
  have hb := B.bytes
  have hr := B.returns
  have hts := atoms_spec (ws := wsX1_multiplied) B.pre
  have hown : s.vm.findClass RX1 = some m.cls := findClass_of_methodNamed B.named
  have hlocks := B.notSynchronized
  have hl := lv_entry ([.int a1, .int a2, .int a3]) (n := 4) (Nat.le_of_ble_eq_true rfl)
  rw [lg_entry_eq]
  generalize (lg_sl ([.int a1, .int a2, .int a3]) ++ List.replicate (4 - (lg_sl ([.int a1, .int a2, .int a3])).length) Slot.unset).toArray = ls at hl ⊢
  have hl : lv_has ls 4 [(0, .int a1), (1, .int a2), (2, .int a3)] := hl
  refine lv_iload_n hx hb dX1_multiplied_0 rfl (lv_at hl 1 rfl) ?_
  refine lv_iload_n hx hb dX1_multiplied_1 rfl (lv_at hl 2 rfl) ?_
  refine vp_callSi (W.runS (As := [.int a2, .int a3]) (rest := []) ⟨hx, hb, hml, hown, hts⟩ (c_m_upper l a2 a3) (cwS 2 hts (gS mL_X1_48 mS_X1_upper mN_X1 mC_X1_upper) rfl rfl rfl (by decide +kernel) ⟨Nat.le_of_ble_eq_true rfl, Nat.le_of_ble_eq_true rfl⟩) preEq rfl rfl hl.1 rfl (lv_room (Nat.le_of_ble_eq_true rfl)) dX1_multiplied_2 ⟨Nat.zero_le _, Nat.zero_le _⟩) (fun r_1 hw => ?_)
  rw [hw]
  clear hw r_1
  refine lv_istore_n (lv' := [(3, .int (F_m_upper a2 a3)), (0, .int a1), (1, .int a2), (2, .int a3)]) hx hb dX1_multiplied_5 rfl hl (by decide) rfl (fun ls hl => ?_)
  refine lv_iload_n hx hb dX1_multiplied_6 rfl (lv_at hl 1 rfl) ?_
  by_cases c_2 : a1 = 0
  · refine lv_tableIn (tgt := 48) (off := 41) hx hb dX1_multiplied_7 (by rw [c_2]; decide) (by rw [c_2]; decide) (by rw [c_2] <;> rfl) (by decide) ?_
    refine lv_iload_n hx hb dX1_multiplied_48 rfl (lv_at hl 2 rfl) ?_
    refine lv_iload_n hx hb dX1_multiplied_49 rfl (lv_at hl 3 rfl) ?_
    refine lv_imul hx hb dX1_multiplied_50 ?_
    exact W.iret (v := a2 * a3) hx hb hr (fun t ht hW => ⟨_, rfl, (by unfold F_m_multiplied; first | (rw [if_pos c_2]; done) | (rw [if_pos c_2]; rfl)), ht⟩) (fun _ h => by cases h) dX1_multiplied_51
  · by_cases c_3 : a1 = 1
    · refine lv_tableIn (tgt := 52) (off := 45) hx hb dX1_multiplied_7 (by rw [c_3]; decide) (by rw [c_3]; decide) (by rw [c_3] <;> rfl) (by decide) ?_
      refine lv_iload_n hx hb dX1_multiplied_52 rfl (lv_at hl 0 rfl) ?_
      refine lv_iload_n hx hb dX1_multiplied_53 rfl (lv_at hl 2 rfl) ?_
      refine lv_if_ge (tgt := 61) hx hb dX1_multiplied_54 (by decide) (fun c_4 => ?_) (fun c_4 => ?_)
      · refine lv_iconst (v := 0) hx hb dX1_multiplied_61 (by decide) ?_
        refine lv_isub hx hb dX1_multiplied_62 ?_
        refine lv_iload_n hx hb dX1_multiplied_63 rfl (lv_at hl 3 rfl) ?_
        refine lv_if_ge (tgt := 71) hx hb dX1_multiplied_64 (by decide) (fun c_5 => ?_) (fun c_5 => ?_)
        · refine lv_iconst (v := 0) hx hb dX1_multiplied_71 (by decide) ?_
          refine lv_isub hx hb dX1_multiplied_72 ?_
          exact W.iret (v := ((F_m_upper a2 a3) - 0) - 0) hx hb hr (fun t ht hW => ⟨_, rfl, (by unfold F_m_multiplied; first | (rw [if_neg c_2, if_pos c_3, if_pos c_4, if_pos c_5]; done) | (rw [if_neg c_2, if_pos c_3, if_pos c_4, if_pos c_5]; rfl)), ht⟩) (fun _ h => by cases h) dX1_multiplied_73
        · refine lv_iload_n hx hb dX1_multiplied_67 rfl (lv_at hl 2 rfl) ?_
          refine lv_goto (tgt := 72) hx hb dX1_multiplied_68 (by decide) ?_
          refine lv_isub hx hb dX1_multiplied_72 ?_
          exact W.iret (v := ((F_m_upper a2 a3) - 0) - a2) hx hb hr (fun t ht hW => ⟨_, rfl, (by unfold F_m_multiplied; first | (rw [if_neg c_2, if_pos c_3, if_pos c_4, if_neg c_5]; done) | (rw [if_neg c_2, if_pos c_3, if_pos c_4, if_neg c_5]; rfl)), ht⟩) (fun _ h => by cases h) dX1_multiplied_73
      · refine lv_iload_n hx hb dX1_multiplied_57 rfl (lv_at hl 3 rfl) ?_
        refine lv_goto (tgt := 62) hx hb dX1_multiplied_58 (by decide) ?_
        refine lv_isub hx hb dX1_multiplied_62 ?_
        refine lv_iload_n hx hb dX1_multiplied_63 rfl (lv_at hl 3 rfl) ?_
        refine lv_if_ge (tgt := 71) hx hb dX1_multiplied_64 (by decide) (fun c_6 => ?_) (fun c_6 => ?_)
        · refine lv_iconst (v := 0) hx hb dX1_multiplied_71 (by decide) ?_
          refine lv_isub hx hb dX1_multiplied_72 ?_
          exact W.iret (v := ((F_m_upper a2 a3) - a3) - 0) hx hb hr (fun t ht hW => ⟨_, rfl, (by unfold F_m_multiplied; first | (rw [if_neg c_2, if_pos c_3, if_neg c_4, if_pos c_6]; done) | (rw [if_neg c_2, if_pos c_3, if_neg c_4, if_pos c_6]; rfl)), ht⟩) (fun _ h => by cases h) dX1_multiplied_73
        · refine lv_iload_n hx hb dX1_multiplied_67 rfl (lv_at hl 2 rfl) ?_
          refine lv_goto (tgt := 72) hx hb dX1_multiplied_68 (by decide) ?_
          refine lv_isub hx hb dX1_multiplied_72 ?_
          exact W.iret (v := ((F_m_upper a2 a3) - a3) - a2) hx hb hr (fun t ht hW => ⟨_, rfl, (by unfold F_m_multiplied; first | (rw [if_neg c_2, if_pos c_3, if_neg c_4, if_neg c_6]; done) | (rw [if_neg c_2, if_pos c_3, if_neg c_4, if_neg c_6]; rfl)), ht⟩) (fun _ h => by cases h) dX1_multiplied_73
    · by_cases c_7 : a1 = 2
      · refine lv_tableIn (tgt := 74) (off := 67) hx hb dX1_multiplied_7 (by rw [c_7]; decide) (by rw [c_7]; decide) (by rw [c_7] <;> rfl) (by decide) ?_
        refine lv_iload_n hx hb dX1_multiplied_74 rfl (lv_at hl 0 rfl) ?_
        refine lv_iload_n hx hb dX1_multiplied_75 rfl (lv_at hl 2 rfl) ?_
        refine lv_if_ge (tgt := 83) hx hb dX1_multiplied_76 (by decide) (fun c_8 => ?_) (fun c_8 => ?_)
        · refine lv_iconst (v := 0) hx hb dX1_multiplied_83 (by decide) ?_
          refine lv_isub hx hb dX1_multiplied_84 ?_
          exact W.iret (v := (F_m_upper a2 a3) - 0) hx hb hr (fun t ht hW => ⟨_, rfl, (by unfold F_m_multiplied; first | (rw [if_neg c_2, if_neg c_3, if_pos c_7, if_pos c_8]; done) | (rw [if_neg c_2, if_neg c_3, if_pos c_7, if_pos c_8]; rfl)), ht⟩) (fun _ h => by cases h) dX1_multiplied_85
        · refine lv_iload_n hx hb dX1_multiplied_79 rfl (lv_at hl 3 rfl) ?_
          refine lv_goto (tgt := 84) hx hb dX1_multiplied_80 (by decide) ?_
          refine lv_isub hx hb dX1_multiplied_84 ?_
          exact W.iret (v := (F_m_upper a2 a3) - a3) hx hb hr (fun t ht hW => ⟨_, rfl, (by unfold F_m_multiplied; first | (rw [if_neg c_2, if_neg c_3, if_pos c_7, if_neg c_8]; done) | (rw [if_neg c_2, if_neg c_3, if_pos c_7, if_neg c_8]; rfl)), ht⟩) (fun _ h => by cases h) dX1_multiplied_85
      · by_cases c_9 : a1 = 3
        · refine lv_tableIn (tgt := 86) (off := 79) hx hb dX1_multiplied_7 (by rw [c_9]; decide) (by rw [c_9]; decide) (by rw [c_9] <;> rfl) (by decide) ?_
          refine lv_iload_n hx hb dX1_multiplied_86 rfl (lv_at hl 0 rfl) ?_
          exact W.iret (v := F_m_upper a2 a3) hx hb hr (fun t ht hW => ⟨_, rfl, (by unfold F_m_multiplied; first | (rw [if_neg c_2, if_neg c_3, if_neg c_7, if_pos c_9]; done) | (rw [if_neg c_2, if_neg c_3, if_neg c_7, if_pos c_9]; rfl)), ht⟩) (fun _ h => by cases h) dX1_multiplied_87
        · by_cases c_10 : a1 = 4
          · refine lv_tableIn (tgt := 88) (off := 81) hx hb dX1_multiplied_7 (by rw [c_10]; decide) (by rw [c_10]; decide) (by rw [c_10] <;> rfl) (by decide) ?_
            refine lv_iload_n hx hb dX1_multiplied_88 rfl (lv_at hl 2 rfl) ?_
            refine lv_iload_n hx hb dX1_multiplied_89 rfl (lv_at hl 3 rfl) ?_
            refine lv_iconst (v := 0) hx hb dX1_multiplied_90 (by decide) ?_
            refine vp_callSi (W.runS (As := [.int a2, .int a3, .int 0]) (rest := []) ⟨hx, hb, hml, hown, hts⟩ (c_m_quotient l a2 a3 0) (cwS 3 hts (gS mL_X1_51 mS_X1_quotient mN_X1 mC_X1_quotient) rfl rfl rfl (by decide +kernel) ⟨Nat.le_of_ble_eq_true rfl, Nat.le_of_ble_eq_true rfl⟩) preEq rfl rfl hl.1 rfl (lv_room (Nat.le_of_ble_eq_true rfl)) dX1_multiplied_91 ⟨Nat.zero_le _, Nat.zero_le _⟩) (fun r_11 hw => ?_)
            rw [hw]
            clear hw r_11
            exact W.iret (v := F_m_quotient a2 a3 0) hx hb hr (fun t ht hW => ⟨_, rfl, (by unfold F_m_multiplied; first | (rw [if_neg c_2, if_neg c_3, if_neg c_7, if_neg c_9, if_pos c_10]; done) | (rw [if_neg c_2, if_neg c_3, if_neg c_7, if_neg c_9, if_pos c_10]; rfl)), ht⟩) (fun _ h => by cases h) dX1_multiplied_94
          · by_cases c_12 : a1 = 5
            · refine lv_tableIn (tgt := 95) (off := 88) hx hb dX1_multiplied_7 (by rw [c_12]; decide) (by rw [c_12]; decide) (by rw [c_12] <;> rfl) (by decide) ?_
              refine lv_iload_n hx hb dX1_multiplied_95 rfl (lv_at hl 3 rfl) ?_
              refine lv_if_ne (tgt := 103) hx hb dX1_multiplied_96 (by decide) (fun c_13 => ?_) (fun c_13 => ?_)
              · refine lv_iload_n hx hb dX1_multiplied_103 rfl (lv_at hl 2 rfl) ?_
                refine lv_iload_n hx hb dX1_multiplied_104 rfl (lv_at hl 3 rfl) ?_
                refine lv_iconst (v := 0) hx hb dX1_multiplied_105 (by decide) ?_
                refine vp_callSi (W.runS (As := [.int a2, .int a3, .int 0]) (rest := []) ⟨hx, hb, hml, hown, hts⟩ (c_m_divided l a2 a3 0) (cwS 3 hts (gS mL_X1_44 mS_X1_divided mN_X1 mC_X1_divided) rfl rfl rfl (by decide +kernel) ⟨Nat.le_of_ble_eq_true rfl, Nat.le_of_ble_eq_true rfl⟩) preEq rfl rfl hl.1 rfl (lv_room (Nat.le_of_ble_eq_true rfl)) dX1_multiplied_106 ⟨Nat.zero_le _, Nat.zero_le _⟩) (fun r_14 hw => ?_)
                rw [hw]
                clear hw r_14
                exact W.iret (v := F_m_divided a2 a3 0) hx hb hr (fun t ht hW => ⟨_, rfl, (by unfold F_m_multiplied; first | (rw [if_neg c_2, if_neg c_3, if_neg c_7, if_neg c_9, if_neg c_10, if_pos c_12, if_neg c_13]; done) | (rw [if_neg c_2, if_neg c_3, if_neg c_7, if_neg c_9, if_neg c_10, if_pos c_12, if_neg c_13]; rfl)), ht⟩) (fun _ h => by cases h) dX1_multiplied_109
              · refine lv_iconst (v := (-1)) hx hb dX1_multiplied_99 (by decide) ?_
                refine lv_goto (tgt := 109) hx hb dX1_multiplied_100 (by decide) ?_
                exact W.iret (v := (-1)) hx hb hr (fun t ht hW => ⟨_, rfl, (by unfold F_m_multiplied; first | (rw [if_neg c_2, if_neg c_3, if_neg c_7, if_neg c_9, if_neg c_10, if_pos c_12, if_pos c_13]; done) | (rw [if_neg c_2, if_neg c_3, if_neg c_7, if_neg c_9, if_neg c_10, if_pos c_12, if_pos c_13]; rfl)), ht⟩) (fun _ h => by cases h) dX1_multiplied_109
            · by_cases c_15 : a1 = 6
              · refine lv_tableIn (tgt := 110) (off := 103) hx hb dX1_multiplied_7 (by rw [c_15]; decide) (by rw [c_15]; decide) (by rw [c_15] <;> rfl) (by decide) ?_
                refine lv_iload_n hx hb dX1_multiplied_110 rfl (lv_at hl 2 rfl) ?_
                refine lv_iload_n hx hb dX1_multiplied_111 rfl (lv_at hl 3 rfl) ?_
                refine lv_iconst (v := 1) hx hb dX1_multiplied_112 (by decide) ?_
                refine vp_callSi (W.runS (As := [.int a2, .int a3, .int 1]) (rest := []) ⟨hx, hb, hml, hown, hts⟩ (c_m_quotient l a2 a3 1) (cwS 3 hts (gS mL_X1_51 mS_X1_quotient mN_X1 mC_X1_quotient) rfl rfl rfl (by decide +kernel) ⟨Nat.le_of_ble_eq_true rfl, Nat.le_of_ble_eq_true rfl⟩) preEq rfl rfl hl.1 rfl (lv_room (Nat.le_of_ble_eq_true rfl)) dX1_multiplied_113 ⟨Nat.zero_le _, Nat.zero_le _⟩) (fun r_16 hw => ?_)
                rw [hw]
                clear hw r_16
                exact W.iret (v := F_m_quotient a2 a3 1) hx hb hr (fun t ht hW => ⟨_, rfl, (by unfold F_m_multiplied; first | (rw [if_neg c_2, if_neg c_3, if_neg c_7, if_neg c_9, if_neg c_10, if_neg c_12, if_pos c_15]; done) | (rw [if_neg c_2, if_neg c_3, if_neg c_7, if_neg c_9, if_neg c_10, if_neg c_12, if_pos c_15]; rfl)), ht⟩) (fun _ h => by cases h) dX1_multiplied_116
              · have tc_2 := lv_neT (a := 0) c_2 (by decide)
                have tc_3 := lv_neT (a := 1) c_3 (by decide)
                have tc_7 := lv_neT (a := 2) c_7 (by decide)
                have tc_9 := lv_neT (a := 3) c_9 (by decide)
                have tc_10 := lv_neT (a := 4) c_10 (by decide)
                have tc_12 := lv_neT (a := 5) c_12 (by decide)
                have tc_15 := lv_neT (a := 6) c_15 (by decide)
                refine lv_tableOut (tgt := 117) hx hb dX1_multiplied_7 (by omega) (by decide) ?_
                refine lv_iload_n hx hb dX1_multiplied_117 rfl (lv_at hl 3 rfl) ?_
                refine lv_if_ne (tgt := 125) hx hb dX1_multiplied_118 (by decide) (fun c_17 => ?_) (fun c_17 => ?_)
                · refine lv_iload_n hx hb dX1_multiplied_125 rfl (lv_at hl 2 rfl) ?_
                  refine lv_iload_n hx hb dX1_multiplied_126 rfl (lv_at hl 3 rfl) ?_
                  refine lv_iconst (v := 1) hx hb dX1_multiplied_127 (by decide) ?_
                  refine vp_callSi (W.runS (As := [.int a2, .int a3, .int 1]) (rest := []) ⟨hx, hb, hml, hown, hts⟩ (c_m_divided l a2 a3 1) (cwS 3 hts (gS mL_X1_44 mS_X1_divided mN_X1 mC_X1_divided) rfl rfl rfl (by decide +kernel) ⟨Nat.le_of_ble_eq_true rfl, Nat.le_of_ble_eq_true rfl⟩) preEq rfl rfl hl.1 rfl (lv_room (Nat.le_of_ble_eq_true rfl)) dX1_multiplied_128 ⟨Nat.zero_le _, Nat.zero_le _⟩) (fun r_18 hw => ?_)
                  rw [hw]
                  clear hw r_18
                  exact W.iret (v := F_m_divided a2 a3 1) hx hb hr (fun t ht hW => ⟨_, rfl, (by unfold F_m_multiplied; first | (rw [if_neg c_2, if_neg c_3, if_neg c_7, if_neg c_9, if_neg c_10, if_neg c_12, if_neg c_15, if_neg c_17]; done) | (rw [if_neg c_2, if_neg c_3, if_neg c_7, if_neg c_9, if_neg c_10, if_neg c_12, if_neg c_15, if_neg c_17]; rfl)), ht⟩) (fun _ h => by cases h) dX1_multiplied_131
                · refine lv_iload_n hx hb dX1_multiplied_121 rfl (lv_at hl 2 rfl) ?_
                  refine lv_goto (tgt := 131) hx hb dX1_multiplied_122 (by decide) ?_
                  exact W.iret (v := a2) hx hb hr (fun t ht hW => ⟨_, rfl, (by unfold F_m_multiplied; first | (rw [if_neg c_2, if_neg c_3, if_neg c_7, if_neg c_9, if_neg c_10, if_neg c_12, if_neg c_15, if_pos c_17]; done) | (rw [if_neg c_2, if_neg c_3, if_neg c_7, if_neg c_9, if_neg c_10, if_neg c_12, if_neg c_15, if_pos c_17]; rfl)), ht⟩) (fun _ h => by cases h) dX1_multiplied_131
def F_m_worked  (a1 : Int32) (a2 : Int32) (a3 : Int32) (a4 : Int32) : Int32 :=
  if a1 = 0 then
    if a4 = 0 then
      a2 + a3
    else
      a2 - a3
  else
    if a1 = 1 then
      F_m_moved a2 (a3 &&& 31) 1 0
    else
      if a1 = 2 then
        if a3 ≤ a2 then
          0
        else
          1
      else
        if a1 = 3 then
          if (F_m_under a2 a3) = 0 then
            0
          else
            1
        else
          if a1 = 4 then
            (a2 ||| a3) &&& ((a2 &&& a3) ^^^ ((-1)))
          else
            if a1 = 5 then
              F_m_moved a2 (a3 &&& 31) 0 a4
            else
              if a1 = 6 then
                ((a2 ^^^ ((-1))) &&& (a3 ^^^ ((-1)))) ^^^ ((-1))
              else
                a2 &&& a3
set_option maxHeartbeats 4000000 in
set_option maxRecDepth 100000 in
theorem c_m_worked (l : Launch) (a1 : Int32) (a2 : Int32) (a3 : Int32) (a4 : Int32) : Met l yX1_worked wsX1_worked ({ frames := 1, cells := 0, slots := 0, locals := 25 }) (fun v _ => v = ([.int a1, .int a2, .int a3, .int a4] : List Value).toArray) (vp_Si (fun r : Int32 => r = F_m_worked a1 a2 a3 a4)) 0 0 (fun _ => False) := by
  refine Met.ofW (cc := cX1_worked) (maxL := 4) (ret := (some .int)) (by decide) rfl ?_
  intro p e s m args below meth c s₁ B hml hv
  obtain rfl := hv
  have hx := B.exec
  have hb := B.bytes
  have hr := B.returns
  have hts := atoms_spec (ws := wsX1_worked) B.pre
  have hown : s.vm.findClass RX1 = some m.cls := findClass_of_methodNamed B.named
  have hlocks := B.notSynchronized
  have hl := lv_entry ([.int a1, .int a2, .int a3, .int a4]) (n := 4) (Nat.le_of_ble_eq_true rfl)
  rw [lg_entry_eq]
  generalize (lg_sl ([.int a1, .int a2, .int a3, .int a4]) ++ List.replicate (4 - (lg_sl ([.int a1, .int a2, .int a3, .int a4])).length) Slot.unset).toArray = ls at hl ⊢
  have hl : lv_has ls 4 [(0, .int a1), (1, .int a2), (2, .int a3), (3, .int a4)] := hl
  refine lv_iload_n hx hb dX1_worked_0 rfl (lv_at hl 0 rfl) ?_
  by_cases c_1 : a1 = 0
  · refine lv_tableIn (tgt := 44) (off := 43) hx hb dX1_worked_1 (by rw [c_1]; decide) (by rw [c_1]; decide) (by rw [c_1] <;> rfl) (by decide) ?_
    refine lv_iload_n hx hb dX1_worked_44 rfl (lv_at hl 3 rfl) ?_
    refine lv_if_eq (tgt := 54) hx hb dX1_worked_45 (by decide) (fun c_2 => ?_) (fun c_2 => ?_)
    · refine lv_iload_n hx hb dX1_worked_54 rfl (lv_at hl 1 rfl) ?_
      refine lv_iload_n hx hb dX1_worked_55 rfl (lv_at hl 2 rfl) ?_
      refine lv_iadd hx hb dX1_worked_56 ?_
      exact W.iret (v := a2 + a3) hx hb hr (fun t ht hW => ⟨_, rfl, (by unfold F_m_worked; first | (rw [if_pos c_1, if_pos c_2]; done) | (rw [if_pos c_1, if_pos c_2]; rfl)), ht⟩) (fun _ h => by cases h) dX1_worked_57
    · refine lv_iload_n hx hb dX1_worked_48 rfl (lv_at hl 1 rfl) ?_
      refine lv_iload_n hx hb dX1_worked_49 rfl (lv_at hl 2 rfl) ?_
      refine lv_isub hx hb dX1_worked_50 ?_
      refine lv_goto (tgt := 57) hx hb dX1_worked_51 (by decide) ?_
      exact W.iret (v := a2 - a3) hx hb hr (fun t ht hW => ⟨_, rfl, (by unfold F_m_worked; first | (rw [if_pos c_1, if_neg c_2]; done) | (rw [if_pos c_1, if_neg c_2]; rfl)), ht⟩) (fun _ h => by cases h) dX1_worked_57
  · by_cases c_3 : a1 = 1
    · refine lv_tableIn (tgt := 58) (off := 57) hx hb dX1_worked_1 (by rw [c_3]; decide) (by rw [c_3]; decide) (by rw [c_3] <;> rfl) (by decide) ?_
      refine lv_iload_n hx hb dX1_worked_58 rfl (lv_at hl 1 rfl) ?_
      refine lv_iload_n hx hb dX1_worked_59 rfl (lv_at hl 2 rfl) ?_
      refine lv_bipush (v := 31) hx hb dX1_worked_60 (by decide) ?_
      refine lv_iand hx hb dX1_worked_62 ?_
      refine lv_iconst (v := 1) hx hb dX1_worked_63 (by decide) ?_
      refine lv_iconst (v := 0) hx hb dX1_worked_64 (by decide) ?_
      refine vp_callSi (W.runS (As := [.int a2, .int (a3 &&& 31), .int 1, .int 0]) (rest := []) ⟨hx, hb, hml, hown, hts⟩ (c_m_moved l a2 (a3 &&& 31) 1 0) (cwS 4 hts (gS mL_X1_88 mS_X1_moved mN_X1 mC_X1_moved) rfl rfl rfl (by decide +kernel) ⟨Nat.le_of_ble_eq_true rfl, Nat.le_of_ble_eq_true rfl⟩) preEq rfl rfl hl.1 rfl (lv_room (Nat.le_of_ble_eq_true rfl)) dX1_worked_65 ⟨Nat.zero_le _, Nat.zero_le _⟩) (fun r_4 hw => ?_)
      rw [hw]
      clear hw r_4
      exact W.iret (v := F_m_moved a2 (a3 &&& 31) 1 0) hx hb hr (fun t ht hW => ⟨_, rfl, (by unfold F_m_worked; first | (rw [if_neg c_1, if_pos c_3]; done) | (rw [if_neg c_1, if_pos c_3]; rfl)), ht⟩) (fun _ h => by cases h) dX1_worked_68
    · by_cases c_5 : a1 = 2
      · refine lv_tableIn (tgt := 69) (off := 68) hx hb dX1_worked_1 (by rw [c_5]; decide) (by rw [c_5]; decide) (by rw [c_5] <;> rfl) (by decide) ?_
        refine lv_iload_n hx hb dX1_worked_69 rfl (lv_at hl 1 rfl) ?_
        refine lv_iload_n hx hb dX1_worked_70 rfl (lv_at hl 2 rfl) ?_
        refine lv_icmp_ge (tgt := 78) hx hb dX1_worked_71 (by decide) (fun c_6 => ?_) (fun c_6 => ?_)
        · refine lv_iconst (v := 0) hx hb dX1_worked_78 (by decide) ?_
          exact W.iret (v := 0) hx hb hr (fun t ht hW => ⟨_, rfl, (by unfold F_m_worked; first | (rw [if_neg c_1, if_neg c_3, if_pos c_5, if_pos c_6]; done) | (rw [if_neg c_1, if_neg c_3, if_pos c_5, if_pos c_6]; rfl)), ht⟩) (fun _ h => by cases h) dX1_worked_79
        · refine lv_iconst (v := 1) hx hb dX1_worked_74 (by decide) ?_
          refine lv_goto (tgt := 79) hx hb dX1_worked_75 (by decide) ?_
          exact W.iret (v := 1) hx hb hr (fun t ht hW => ⟨_, rfl, (by unfold F_m_worked; first | (rw [if_neg c_1, if_neg c_3, if_pos c_5, if_neg c_6]; done) | (rw [if_neg c_1, if_neg c_3, if_pos c_5, if_neg c_6]; rfl)), ht⟩) (fun _ h => by cases h) dX1_worked_79
      · by_cases c_7 : a1 = 3
        · refine lv_tableIn (tgt := 80) (off := 79) hx hb dX1_worked_1 (by rw [c_7]; decide) (by rw [c_7]; decide) (by rw [c_7] <;> rfl) (by decide) ?_
          refine lv_iload_n hx hb dX1_worked_80 rfl (lv_at hl 1 rfl) ?_
          refine lv_iload_n hx hb dX1_worked_81 rfl (lv_at hl 2 rfl) ?_
          refine vp_callSi (W.runS (As := [.int a2, .int a3]) (rest := []) ⟨hx, hb, hml, hown, hts⟩ (c_m_under l a2 a3) (cwS 2 hts (gS mL_X1_40 mS_X1_under mN_X1 mC_X1_under) rfl rfl rfl (by decide +kernel) ⟨Nat.le_of_ble_eq_true rfl, Nat.le_of_ble_eq_true rfl⟩) preEq rfl rfl hl.1 rfl (lv_room (Nat.le_of_ble_eq_true rfl)) dX1_worked_82 ⟨Nat.zero_le _, Nat.zero_le _⟩) (fun r_8 hw => ?_)
          obtain ⟨b_9, hw⟩ := hw
          rw [hw] at b_9 ⊢
          clear hw
          refine lv_if_eq (tgt := 92) hx hb dX1_worked_85 (by decide) (fun c_10 => ?_) (fun c_10 => ?_)
          · refine lv_iconst (v := 0) hx hb dX1_worked_92 (by decide) ?_
            exact W.iret (v := 0) hx hb hr (fun t ht hW => ⟨_, rfl, (by unfold F_m_worked; first | (rw [if_neg c_1, if_neg c_3, if_neg c_5, if_pos c_7, if_pos c_10]; done) | (rw [if_neg c_1, if_neg c_3, if_neg c_5, if_pos c_7, if_pos c_10]; rfl)), ht⟩) (fun _ h => by cases h) dX1_worked_93
          · refine lv_iconst (v := 1) hx hb dX1_worked_88 (by decide) ?_
            refine lv_goto (tgt := 93) hx hb dX1_worked_89 (by decide) ?_
            exact W.iret (v := 1) hx hb hr (fun t ht hW => ⟨_, rfl, (by unfold F_m_worked; first | (rw [if_neg c_1, if_neg c_3, if_neg c_5, if_pos c_7, if_neg c_10]; done) | (rw [if_neg c_1, if_neg c_3, if_neg c_5, if_pos c_7, if_neg c_10]; rfl)), ht⟩) (fun _ h => by cases h) dX1_worked_93
        · by_cases c_11 : a1 = 4
          · refine lv_tableIn (tgt := 94) (off := 93) hx hb dX1_worked_1 (by rw [c_11]; decide) (by rw [c_11]; decide) (by rw [c_11] <;> rfl) (by decide) ?_
            refine lv_iload_n hx hb dX1_worked_94 rfl (lv_at hl 1 rfl) ?_
            refine lv_iload_n hx hb dX1_worked_95 rfl (lv_at hl 2 rfl) ?_
            refine lv_ior hx hb dX1_worked_96 ?_
            refine lv_iload_n hx hb dX1_worked_97 rfl (lv_at hl 1 rfl) ?_
            refine lv_iload_n hx hb dX1_worked_98 rfl (lv_at hl 2 rfl) ?_
            refine lv_iand hx hb dX1_worked_99 ?_
            refine lv_iconst (v := (-1)) hx hb dX1_worked_100 (by decide) ?_
            refine lv_ixor hx hb dX1_worked_101 ?_
            refine lv_iand hx hb dX1_worked_102 ?_
            exact W.iret (v := (a2 ||| a3) &&& ((a2 &&& a3) ^^^ ((-1)))) hx hb hr (fun t ht hW => ⟨_, rfl, (by unfold F_m_worked; first | (rw [if_neg c_1, if_neg c_3, if_neg c_5, if_neg c_7, if_pos c_11]; done) | (rw [if_neg c_1, if_neg c_3, if_neg c_5, if_neg c_7, if_pos c_11]; rfl)), ht⟩) (fun _ h => by cases h) dX1_worked_103
          · by_cases c_12 : a1 = 5
            · refine lv_tableIn (tgt := 104) (off := 103) hx hb dX1_worked_1 (by rw [c_12]; decide) (by rw [c_12]; decide) (by rw [c_12] <;> rfl) (by decide) ?_
              refine lv_iload_n hx hb dX1_worked_104 rfl (lv_at hl 1 rfl) ?_
              refine lv_iload_n hx hb dX1_worked_105 rfl (lv_at hl 2 rfl) ?_
              refine lv_bipush (v := 31) hx hb dX1_worked_106 (by decide) ?_
              refine lv_iand hx hb dX1_worked_108 ?_
              refine lv_iconst (v := 0) hx hb dX1_worked_109 (by decide) ?_
              refine lv_iload_n hx hb dX1_worked_110 rfl (lv_at hl 3 rfl) ?_
              refine vp_callSi (W.runS (As := [.int a2, .int (a3 &&& 31), .int 0, .int a4]) (rest := []) ⟨hx, hb, hml, hown, hts⟩ (c_m_moved l a2 (a3 &&& 31) 0 a4) (cwS 4 hts (gS mL_X1_88 mS_X1_moved mN_X1 mC_X1_moved) rfl rfl rfl (by decide +kernel) ⟨Nat.le_of_ble_eq_true rfl, Nat.le_of_ble_eq_true rfl⟩) preEq rfl rfl hl.1 rfl (lv_room (Nat.le_of_ble_eq_true rfl)) dX1_worked_111 ⟨Nat.zero_le _, Nat.zero_le _⟩) (fun r_13 hw => ?_)
              rw [hw]
              clear hw r_13
              exact W.iret (v := F_m_moved a2 (a3 &&& 31) 0 a4) hx hb hr (fun t ht hW => ⟨_, rfl, (by unfold F_m_worked; first | (rw [if_neg c_1, if_neg c_3, if_neg c_5, if_neg c_7, if_neg c_11, if_pos c_12]; done) | (rw [if_neg c_1, if_neg c_3, if_neg c_5, if_neg c_7, if_neg c_11, if_pos c_12]; rfl)), ht⟩) (fun _ h => by cases h) dX1_worked_114
            · by_cases c_14 : a1 = 6
              · refine lv_tableIn (tgt := 115) (off := 114) hx hb dX1_worked_1 (by rw [c_14]; decide) (by rw [c_14]; decide) (by rw [c_14] <;> rfl) (by decide) ?_
                refine lv_iload_n hx hb dX1_worked_115 rfl (lv_at hl 1 rfl) ?_
                refine lv_iconst (v := (-1)) hx hb dX1_worked_116 (by decide) ?_
                refine lv_ixor hx hb dX1_worked_117 ?_
                refine lv_iload_n hx hb dX1_worked_118 rfl (lv_at hl 2 rfl) ?_
                refine lv_iconst (v := (-1)) hx hb dX1_worked_119 (by decide) ?_
                refine lv_ixor hx hb dX1_worked_120 ?_
                refine lv_iand hx hb dX1_worked_121 ?_
                refine lv_iconst (v := (-1)) hx hb dX1_worked_122 (by decide) ?_
                refine lv_ixor hx hb dX1_worked_123 ?_
                exact W.iret (v := ((a2 ^^^ ((-1))) &&& (a3 ^^^ ((-1)))) ^^^ ((-1))) hx hb hr (fun t ht hW => ⟨_, rfl, (by unfold F_m_worked; first | (rw [if_neg c_1, if_neg c_3, if_neg c_5, if_neg c_7, if_neg c_11, if_neg c_12, if_pos c_14]; done) | (rw [if_neg c_1, if_neg c_3, if_neg c_5, if_neg c_7, if_neg c_11, if_neg c_12, if_pos c_14]; rfl)), ht⟩) (fun _ h => by cases h) dX1_worked_124
              · have tc_1 := lv_neT (a := 0) c_1 (by decide)
                have tc_3 := lv_neT (a := 1) c_3 (by decide)
                have tc_5 := lv_neT (a := 2) c_5 (by decide)
                have tc_7 := lv_neT (a := 3) c_7 (by decide)
                have tc_11 := lv_neT (a := 4) c_11 (by decide)
                have tc_12 := lv_neT (a := 5) c_12 (by decide)
                have tc_14 := lv_neT (a := 6) c_14 (by decide)
                refine lv_tableOut (tgt := 125) hx hb dX1_worked_1 (by omega) (by decide) ?_
                refine lv_iload_n hx hb dX1_worked_125 rfl (lv_at hl 1 rfl) ?_
                refine lv_iload_n hx hb dX1_worked_126 rfl (lv_at hl 2 rfl) ?_
                refine lv_iand hx hb dX1_worked_127 ?_
                exact W.iret (v := a2 &&& a3) hx hb hr (fun t ht hW => ⟨_, rfl, (by unfold F_m_worked; first | (rw [if_neg c_1, if_neg c_3, if_neg c_5, if_neg c_7, if_neg c_11, if_neg c_12, if_neg c_14]; done) | (rw [if_neg c_1, if_neg c_3, if_neg c_5, if_neg c_7, if_neg c_11, if_neg c_12, if_neg c_14]; rfl)), ht⟩) (fun _ h => by cases h) dX1_worked_128
end
