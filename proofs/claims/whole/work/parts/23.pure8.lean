theorem op115 : F_m_part 115 0 7 = 115 := by rw [← eOp]; decide
theorem op1048691 : F_m_part 1048691 0 7 = 115 := by rw [← eOp]; decide
theorem exec_eq {wd me rg rs : Nat → Int32} (h : RelM wd me) (h0 : rs 0 = 0) (hG : RgOK rg) (pcv trv vav w wi : Int32) (ha : pcv &&& 3 = 0) : PR trv vav pcv (F_execute wd rg rs pcv trv vav w) (F_m_perform me rg rs pcv w (-1) wi (pcv + 4)) := by
  unfold F_execute F_m_perform
  rw [eOp]
  by_cases c3 : F_m_part w 0 7 = 3
  · rw [if_pos c3, if_pos c3]
    exact load_eq h h0 hG pcv trv vav w wi
  rw [if_neg c3, if_neg c3]
  by_cases c15 : F_m_part w 0 7 = 15
  · rw [if_pos c15, if_pos c15]
    unfold F_fence
    rw [eF]
    by_cases d : F_m_part w 12 3 = 0
    · rw [if_pos d, if_pos d]
      exact ⟨h, rfl, h0, Or.inl ⟨rfl, rfl, rfl, rfl⟩⟩
    · rw [if_neg d, if_neg d]
      exact PR_bad h h0 pcv trv vav w _
  rw [if_neg c15, if_neg c15]
  by_cases c19 : F_m_part w 0 7 = 19
  · rw [if_pos c19, if_pos c19]
    exact imm_eq h h0 pcv trv vav w wi
  rw [if_neg c19, if_neg c19]
  by_cases c23 : F_m_part w 0 7 = 23
  · rw [if_pos c23, if_pos c23]
    exact PR_fin h h0 pcv trv vav w wi (by rw [eU])
  rw [if_neg c23, if_neg c23]
  by_cases c35 : F_m_part w 0 7 = 35
  · rw [if_pos c35, if_pos c35]
    exact store_eq h h0 hG pcv trv vav w wi
  rw [if_neg c35, if_neg c35]
  by_cases c51 : F_m_part w 0 7 = 51
  · rw [if_pos c51, if_pos c51]
    exact both_eq h h0 pcv trv vav w wi
  rw [if_neg c51, if_neg c51]
  by_cases c55 : F_m_part w 0 7 = 55
  · rw [if_pos c55, if_pos c55]
    exact PR_fin h h0 pcv trv vav w wi (eU w)
  rw [if_neg c55, if_neg c55]
  by_cases c99 : F_m_part w 0 7 = 99
  · rw [if_pos c99, if_pos c99]
    exact branch_eq h h0 pcv trv vav w wi ha
  rw [if_neg c99, if_neg c99]
  by_cases c103 : F_m_part w 0 7 = 103
  · rw [if_pos c103, if_pos c103]
    unfold F_goToRegister
    rw [eF, eA, eI]
    by_cases d : F_m_part w 12 3 = 0
    · rw [if_pos d, if_pos d]
      exact PR_link h h0 pcv trv vav w wi _
    · rw [if_neg d, if_neg d]
      exact PR_bad h h0 pcv trv vav w _
  rw [if_neg c103, if_neg c103]
  by_cases c111 : F_m_part w 0 7 = 111
  · rw [if_pos c111, if_pos c111, eJ]
    exact PR_link h h0 pcv trv vav w wi _
  rw [if_neg c111, if_neg c111]
  by_cases d : w = 115
  · subst d
    rw [if_pos op115, if_pos rfl]
    unfold F_callOrBreak
    rw [if_pos rfl]
    exact PR_trap h h0 pcv trv vav 8 0 _ (by decide)
  rw [if_neg d]
  by_cases d2 : w = 1048691
  · subst d2
    rw [if_pos op1048691, if_pos rfl]
    unfold F_callOrBreak
    rw [if_neg (by decide), if_pos rfl]
    exact PR_trap h h0 pcv trv vav 3 0 _ (by decide)
  rw [if_neg d2]
  by_cases d3 : F_m_part w 0 7 = 115
  · rw [if_pos d3]
    unfold F_callOrBreak
    rw [if_neg d, if_neg d2]
    exact PR_bad h h0 pcv trv vav w _
  · rw [if_neg d3]
    exact PR_bad h h0 pcv trv vav w _
theorem word_eq {wd : Nat → Int32} {p : Int32} (c : p &&& 3 = 0) : wd ((p.toUInt32 >>> ((2 : Int32).toUInt32 &&& Int32.toUInt32 31)).toInt32).toNatClampNeg = F_bytesFrom wd p := by
  unfold F_bytesFrom
  have e : (p &&& 3) * 8 = nI 0 := by rw [c]; decide
  rw [e, ushr_is _ (by decide), Nat.pow_zero, Nat.div_one]
  exact U_nI _
theorem step_eq {wd me rg rs : Nat → Int32} (h : RelM wd me) (h0 : rs 0 = 0) (hG : RgOK rg) (pcv trv vav dnv wv fa wi ne : Int32) :
    RelM (F_makeStep wd rg rs pcv trv vav).2.1 (F_m_step me rg rs pcv dnv wv fa wi ne).2.1 ∧ (F_makeStep wd rg rs pcv trv vav).2.2.1 = (F_m_step me rg rs pcv dnv wv fa wi ne).2.2.1 ∧ (F_makeStep wd rg rs pcv trv vav).2.2.1 0 = 0 ∧ (F_makeStep wd rg rs pcv trv vav).2.2.2.1 = (F_m_step me rg rs pcv dnv wv fa wi ne).2.2.2.1 ∧
    (((F_makeStep wd rg rs pcv trv vav).1 = 1 ∧ (F_m_step me rg rs pcv dnv wv fa wi ne).1 = 1 ∧ (F_makeStep wd rg rs pcv trv vav).2.2.2.2 = (trv, vav) ∧ (F_m_step me rg rs pcv dnv wv fa wi ne).2.2.2.2.1 = dnv + 1) ∨
     ((F_makeStep wd rg rs pcv trv vav).1 = 0 ∧ (F_m_step me rg rs pcv dnv wv fa wi ne).1 = 0 ∧ (F_makeStep wd rg rs pcv trv vav).2.2.2.2 = ((F_m_step me rg rs pcv dnv wv fa wi ne).2.2.2.2.2.2.1, (F_m_step me rg rs pcv dnv wv fa wi ne).2.2.2.2.2.2.2.1) ∧ (F_m_step me rg rs pcv dnv wv fa wi ne).2.2.2.2.1 = dnv)) := by
  unfold F_makeStep F_m_step
  have e3 : (4 : Int32) - 1 = 3 := by decide
  have hr := right_eq hG pcv 4 r4
  rw [crook_is, e3]
  by_cases c : pcv &&& 3 = 0
  · simp only [if_pos c, eq_self, if_true]
    by_cases r : F_m_may rg pcv 4 = 0
    · simp only [if_pos (hr.mpr r), if_pos r, if_neg (show ¬ (F_m_fail 12 pcv).1 = -1 by show ¬ (12 : Int32) = -1; decide)]
      exact ⟨h, (by first | rfl | trivial), h0, (by first | rfl | trivial), Or.inr ⟨(by first | rfl | trivial), (by first | rfl | trivial), (by first | rfl | trivial), (by first | rfl | trivial)⟩⟩
    · simp only [if_neg (fun z => r (hr.mp z)), if_neg r]
      have hwd : F_bytesFrom wd pcv = F_m_bytes me pcv 4 := by
        obtain ⟨k, hk, rfl⟩ := mpages_of r
        exact ld_w h hk (al_of 2 (by decide) hk rfl (by decide) c)
      rw [word_eq (wd := wd) c, hwd]
      obtain ⟨p1, p2, p3, p4⟩ := exec_eq h h0 hG pcv trv vav (F_m_bytes me pcv 4) wi c
      generalize F_m_perform me rg rs pcv (F_m_bytes me pcv 4) (-1) wi (pcv + 4) = m at p1 p2 p3 p4 ⊢
      generalize F_execute wd rg rs pcv trv vav (F_m_bytes me pcv 4) = cc at p1 p2 p3 p4 ⊢
      rcases p4 with ⟨q1, q2, q3, q4⟩ | ⟨q1, q2, q3, q4⟩
      · simp only [if_pos q2]
        exact ⟨p1, p2, p3, q3, Or.inl ⟨q1, (by first | rfl | trivial), q4, (by first | rfl | trivial)⟩⟩
      · simp only [if_neg q2]
        exact ⟨p1, p2, p3, q3, Or.inr ⟨q1, (by first | rfl | trivial), q4, (by first | rfl | trivial)⟩⟩
  · simp only [if_neg c, if_neg (show ¬ (1 : Int32) = 0 by decide), if_neg (show ¬ (F_m_fail 0 pcv).1 = -1 by show ¬ (0 : Int32) = -1; decide)]
    exact ⟨h, (by first | rfl | trivial), h0, (by first | rfl | trivial), Or.inr ⟨(by first | rfl | trivial), (by first | rfl | trivial), (by first | rfl | trivial), (by first | rfl | trivial)⟩⟩
theorem run_eq {rg : Nat → Int32} (hG : RgOK rg) : ∀ (n : Nat) (u : stC) (v : stM), RelM u.1 v.1 → u.2.1 = v.2.1 → u.2.1 0 = 0 → u.2.2.1 = v.2.2.1 → u.2.2.2 = (-1, 0) →
    (runC rg n u).1 = (runM rg n v).1 ∧ RelM (runC rg n u).2.1 (runM rg n v).2.2.1 ∧ (runC rg n u).2.2.1 = (runM rg n v).2.2.2.1 ∧ (runC rg n u).2.2.1 0 = 0 ∧ (runC rg n u).2.2.2.1 = (runM rg n v).2.2.2.2.1 ∧ v.2.2.2.1 + nI (runC rg n u).1 = (runM rg n v).2.2.2.2.2.1 ∧ (runC rg n u).2.2.2.2 = (if (runM rg n v).2.1 = true then ((-1, 0) : Int32 × Int32) else ((runM rg n v).2.2.2.2.2.2.2.1, (runM rg n v).2.2.2.2.2.2.2.2.1)) := by
  intro n
  induction n with
  | zero =>
    intro u v h1 h2 h3 h4 h5
    refine ⟨rfl, h1, h2, h3, h4, ?_, ?_⟩
    · show v.2.2.2.1 + nI 0 = v.2.2.2.1
      exact Int32.add_zero _
    · show u.2.2.2 = (if true = true then ((-1, 0) : Int32 × Int32) else _)
      rw [if_pos rfl]
      exact h5
  | succ n ih =>
    intro u v h1 h2 h3 h4 h5
    obtain ⟨s1, s2, s3, s4, s5⟩ := step_eq h1 h3 hG u.2.2.1 u.2.2.2.1 u.2.2.2.2 v.2.2.2.1 v.2.2.2.2.1 v.2.2.2.2.2.1 v.2.2.2.2.2.2.1 v.2.2.2.2.2.2.2
    unfold runC runM
    rw [← h2, ← h4]
    generalize F_makeStep u.1 rg u.2.1 u.2.2.1 u.2.2.2.1 u.2.2.2.2 = C at s1 s2 s3 s4 s5 ⊢
    generalize F_m_step v.1 rg u.2.1 u.2.2.1 v.2.2.2.1 v.2.2.2.2.1 v.2.2.2.2.2.1 v.2.2.2.2.2.2.1 v.2.2.2.2.2.2.2 = M at s1 s2 s3 s4 s5 ⊢
    rcases s5 with ⟨q1, q2, q3, q4⟩ | ⟨q1, q2, q3, q4⟩
    · rw [if_neg (by rw [q1]; decide), if_neg (by rw [q2]; decide)]
      obtain ⟨i1, i2, i3, i4, i5, i6, i7⟩ := ih C.2 M.2 s1 s2 s3 s4 (q3.trans h5)
      refine ⟨congrArg (fun z => z + 1) i1, i2, i3, i4, i5, ?_, i7⟩
      show v.2.2.2.1 + nI ((runC rg n C.2).1 + 1) = _
      rw [← nI_1, Int32.add_comm (nI _) 1, ← Int32.add_assoc, ← q4]
      exact i6
    · rw [if_pos q1, if_pos q2]
      refine ⟨rfl, s1, s2, s3, s4, ?_, ?_⟩
      · show v.2.2.2.1 + nI 0 = M.2.2.2.2.1
        rw [q4]
        exact Int32.add_zero _
      · show C.2.2.2.2 = (if false = true then ((-1, 0) : Int32 × Int32) else _)
        rw [if_neg (by decide)]
        exact q3
theorem q_run {wd me rg rs : Nat → Int32} (h : RelM wd me) (h0 : rs 0 = 0) (hG : RgOK rg) (n : Nat) (pcv dnv wv fa wi ne : Int32) :
    (runC rg n (wd, rs, pcv, (-1), 0)).1 = (runM rg n (me, rs, pcv, dnv, wv, fa, wi, ne)).1 ∧
    RelM (runC rg n (wd, rs, pcv, (-1), 0)).2.1 (runM rg n (me, rs, pcv, dnv, wv, fa, wi, ne)).2.2.1 ∧
    (runC rg n (wd, rs, pcv, (-1), 0)).2.2.1 = (runM rg n (me, rs, pcv, dnv, wv, fa, wi, ne)).2.2.2.1 ∧
    (runC rg n (wd, rs, pcv, (-1), 0)).2.2.1 0 = 0 ∧
    (runC rg n (wd, rs, pcv, (-1), 0)).2.2.2.1 = (runM rg n (me, rs, pcv, dnv, wv, fa, wi, ne)).2.2.2.2.1 ∧
    dnv + nI (runC rg n (wd, rs, pcv, (-1), 0)).1 = (runM rg n (me, rs, pcv, dnv, wv, fa, wi, ne)).2.2.2.2.2.1 ∧
    (runC rg n (wd, rs, pcv, (-1), 0)).2.2.2.2.1 = (if (runM rg n (me, rs, pcv, dnv, wv, fa, wi, ne)).2.1 = true then (-1) else (runM rg n (me, rs, pcv, dnv, wv, fa, wi, ne)).2.2.2.2.2.2.2.1) ∧
    (runC rg n (wd, rs, pcv, (-1), 0)).2.2.2.2.2 = (if (runM rg n (me, rs, pcv, dnv, wv, fa, wi, ne)).2.1 = true then 0 else (runM rg n (me, rs, pcv, dnv, wv, fa, wi, ne)).2.2.2.2.2.2.2.2.1) := by
  obtain ⟨i1, i2, i3, i4, i5, i6, i7⟩ := run_eq hG n (wd, rs, pcv, (-1), 0) (me, rs, pcv, dnv, wv, fa, wi, ne) h rfl h0 rfl rfl
  refine ⟨i1, i2, i3, i4, i5, i6, ?_, ?_⟩
  · rw [i7]
    split <;> rfl
  · rw [i7]
    split <;> rfl
