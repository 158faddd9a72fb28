theorem cmp0 (x y : Int32) : F_compare 0 x y = if x = y then 1 else 0 := by
  unfold F_compare
  rw [if_pos rfl]
theorem cmp4 (x y : Int32) : F_compare 4 x y = if y ≤ x then 0 else 1 := by
  unfold F_compare
  rw [if_neg (by decide), if_pos rfl]
theorem cmp6 (x y : Int32) : F_compare 6 x y = F_m_under x y := by
  unfold F_compare
  rw [if_neg (by decide), if_neg (by decide), under_is]
  by_cases c : U x < U y
  · rw [if_pos c, if_neg (fun z => (un_ge x y).mp z c)]
  · rw [if_neg c, if_pos ((un_ge x y).mpr c)]
theorem under01 (x y : Int32) : F_m_under x y = 0 ∨ F_m_under x y = 1 := by
  rw [under_is]
  by_cases c : U x < U y
  · rw [if_pos c]; exact Or.inr rfl
  · rw [if_neg c]; exact Or.inl rfl
theorem branch_eq {wd me rg rs : Nat → Int32} (h : RelM wd me) (h0 : rs 0 = 0) (pcv trv vav w wi : Int32) (ha : pcv &&& 3 = 0) : PR trv vav pcv (F_branch wd rg rs pcv trv vav w) (F_m_branch me rg rs pcv w (-1) wi (pcv + 4) (F_m_part w 12 3) (rs (F_m_part w 15 5).toNatClampNeg) (rs (F_m_part w 20 5).toNatClampNeg)) := by
  unfold F_branch F_m_branch
  rw [eF, eA, eBr, eBi]
  obtain ⟨j, hj, ej⟩ := fval w
  rw [ej]
  generalize rs (F_m_part w 15 5).toNatClampNeg = x
  generalize rs (F_m_part w 20 5).toNatClampNeg = y
  rcases (show j = 0 ∨ j = 1 ∨ j = 2 ∨ j = 3 ∨ j = 4 ∨ j = 5 ∨ j = 6 ∨ j = 7 by omega) with rfl | rfl | rfl | rfl | rfl | rfl | rfl | rfl
  · have em : nI 0 &&& 6 = (0 : Int32) := by decide
    simp only [if_neg (show ¬ nI 0 = (2 : Int32) by decide), if_neg (show ¬ nI 0 = (3 : Int32) by decide), if_neg (show ¬ (2 : Int32) ≤ nI 0 by decide), if_neg (show ¬ (6 : Int32) ≤ nI 0 by decide), if_neg (show ¬ nI 0 &&& 1 = (1 : Int32) by decide), if_pos (show nI 0 - nI 0 / 2 * 2 = (0 : Int32) by decide), em, cmp0]
    by_cases c : x = y
    · simp only [if_pos c, if_neg (show ¬ (1 : Int32) = 0 by decide), eq_self, if_true]
      exact PR_go h h0 pcv trv vav w wi _
    · simp only [if_neg c, if_neg (show ¬ (0 : Int32) = 1 by decide), eq_self, if_true]
      exact PR_stay h h0 pcv trv vav wi ha
  · have em : nI 1 &&& 6 = (0 : Int32) := by decide
    simp only [if_neg (show ¬ nI 1 = (2 : Int32) by decide), if_neg (show ¬ nI 1 = (3 : Int32) by decide), if_neg (show ¬ (2 : Int32) ≤ nI 1 by decide), if_neg (show ¬ (6 : Int32) ≤ nI 1 by decide), if_pos (show nI 1 &&& 1 = (1 : Int32) by decide), if_neg (show ¬ nI 1 - nI 1 / 2 * 2 = (0 : Int32) by decide), em, cmp0]
    by_cases c : x = y
    · simp only [if_pos c, if_neg (show ¬ (1 : Int32) = 0 by decide), eq_self, if_true]
      exact PR_stay h h0 pcv trv vav wi ha
    · simp only [if_neg c, if_neg (show ¬ (0 : Int32) = 1 by decide), eq_self, if_true]
      exact PR_go h h0 pcv trv vav w wi _
  · simp only [if_pos (show nI 2 = (2 : Int32) by decide), if_neg (show ¬ nI 2 = (3 : Int32) by decide)]
    exact PR_bad h h0 pcv trv vav w _
  · simp only [if_neg (show ¬ nI 3 = (2 : Int32) by decide), if_pos (show nI 3 = (3 : Int32) by decide)]
    exact PR_bad h h0 pcv trv vav w _
  · have em : nI 4 &&& 6 = (4 : Int32) := by decide
    simp only [if_neg (show ¬ nI 4 = (2 : Int32) by decide), if_neg (show ¬ nI 4 = (3 : Int32) by decide), if_pos (show (2 : Int32) ≤ nI 4 by decide), if_neg (show ¬ (6 : Int32) ≤ nI 4 by decide), if_neg (show ¬ nI 4 &&& 1 = (1 : Int32) by decide), if_pos (show nI 4 - nI 4 / 2 * 2 = (0 : Int32) by decide), em, cmp4]
    by_cases c : y ≤ x
    · simp only [if_pos c, if_neg (show ¬ (0 : Int32) = 1 by decide), eq_self, if_true]
      exact PR_stay h h0 pcv trv vav wi ha
    · simp only [if_neg c, if_neg (show ¬ (1 : Int32) = 0 by decide), eq_self, if_true]
      exact PR_go h h0 pcv trv vav w wi _
  · have em : nI 5 &&& 6 = (4 : Int32) := by decide
    simp only [if_neg (show ¬ nI 5 = (2 : Int32) by decide), if_neg (show ¬ nI 5 = (3 : Int32) by decide), if_pos (show (2 : Int32) ≤ nI 5 by decide), if_neg (show ¬ (6 : Int32) ≤ nI 5 by decide), if_pos (show nI 5 &&& 1 = (1 : Int32) by decide), if_neg (show ¬ nI 5 - nI 5 / 2 * 2 = (0 : Int32) by decide), em, cmp4]
    by_cases c : y ≤ x
    · simp only [if_pos c, if_neg (show ¬ (0 : Int32) = 1 by decide), eq_self, if_true]
      exact PR_go h h0 pcv trv vav w wi _
    · simp only [if_neg c, if_neg (show ¬ (1 : Int32) = 0 by decide), eq_self, if_true]
      exact PR_stay h h0 pcv trv vav wi ha
  · have em : nI 6 &&& 6 = (6 : Int32) := by decide
    simp only [if_neg (show ¬ nI 6 = (2 : Int32) by decide), if_neg (show ¬ nI 6 = (3 : Int32) by decide), if_pos (show (2 : Int32) ≤ nI 6 by decide), if_pos (show (6 : Int32) ≤ nI 6 by decide), if_neg (show ¬ nI 6 &&& 1 = (1 : Int32) by decide), if_pos (show nI 6 - nI 6 / 2 * 2 = (0 : Int32) by decide), em, cmp6]
    rcases under01 x y with c | c
    · simp only [c, if_neg (show ¬ (0 : Int32) = 1 by decide), eq_self, if_true]
      exact PR_stay h h0 pcv trv vav wi ha
    · simp only [c, if_neg (show ¬ (1 : Int32) = 0 by decide), eq_self, if_true]
      exact PR_go h h0 pcv trv vav w wi _
  · have em : nI 7 &&& 6 = (6 : Int32) := by decide
    simp only [if_neg (show ¬ nI 7 = (2 : Int32) by decide), if_neg (show ¬ nI 7 = (3 : Int32) by decide), if_pos (show (2 : Int32) ≤ nI 7 by decide), if_pos (show (6 : Int32) ≤ nI 7 by decide), if_pos (show nI 7 &&& 1 = (1 : Int32) by decide), if_neg (show ¬ nI 7 - nI 7 / 2 * 2 = (0 : Int32) by decide), em, cmp6]
    rcases under01 x y with c | c
    · simp only [c, if_neg (show ¬ (0 : Int32) = 1 by decide), eq_self, if_true]
      exact PR_go h h0 pcv trv vav w wi _
    · simp only [c, if_neg (show ¬ (1 : Int32) = 0 by decide), eq_self, if_true]
      exact PR_stay h h0 pcv trv vav wi ha
theorem crook_is (a n : Int32) : F_isCrooked a n = if a &&& (n - 1) = 0 then 0 else 1 := rfl
theorem al_of {a m : Nat} (s : Nat) {z : Int32} (hz : z.toBitVec.toNat = 2 ^ s - 1) (ha : a < 16384) (hm : 2 ^ s = m) (hs : s ≤ 2) (c : nI a &&& z = 0) : a % m = 0 := by
  rw [pk_andN (by omega) s hz, hm] at c
  rcases Nat.eq_zero_or_pos (a % m) with q | q
  · exact q
  · have q2 : a % m < 2 ^ 31 := Nat.lt_of_le_of_lt (Nat.mod_le _ _) (by omega)
    exact absurd c (nI_ne0 q q2)
theorem load_eq {wd me rg rs : Nat → Int32} (h : RelM wd me) (h0 : rs 0 = 0) (hG : RgOK rg) (pcv trv vav w wi : Int32) : PR trv vav pcv (F_load wd rg rs pcv trv vav w) (F_m_load me rg rs pcv w (-1) wi (pcv + 4) (F_m_part w 12 3) (rs (F_m_part w 15 5).toNatClampNeg + F_m_i w)) := by
  unfold F_load F_m_load F_narrow
  rw [eF, eA, eI]
  obtain ⟨j, hj, ej⟩ := fval w
  rw [ej]
  generalize rs (F_m_part w 15 5).toNatClampNeg + F_m_i w = a
  have hr := right_eq hG a 1 r1
  rcases (show j = 0 ∨ j = 1 ∨ j = 2 ∨ j = 3 ∨ j = 4 ∨ j = 5 ∨ j = 6 ∨ j = 7 by omega) with rfl | rfl | rfl | rfl | rfl | rfl | rfl | rfl
  · have en : (1 : Int32) <<< ((nI 0 &&& 3) &&& 31) = 1 := by decide
    simp only [if_pos (show nI 0 = (0 : Int32) by decide), if_neg (show ¬ nI 0 = (1 : Int32) by decide), if_neg (show ¬ nI 0 = (2 : Int32) by decide), if_neg (show ¬ nI 0 = (3 : Int32) by decide), if_neg (show ¬ nI 0 = (4 : Int32) by decide), if_neg (show ¬ nI 0 = (5 : Int32) by decide), if_pos (show nI 0 ≤ (5 : Int32) by decide), if_pos (show nI 0 - nI 0 / 4 * 4 = (0 : Int32) by decide), if_neg (show ¬ nI 0 - nI 0 / 4 * 4 = (1 : Int32) by decide), if_neg (show ¬ (2 : Int32) ≤ nI 0 by decide), en, crook_is]
    by_cases c : a &&& (1 - 1) = 0
    · simp only [if_pos c, eq_self, if_true]
      by_cases r : F_m_may rg a 1 = 0
      · rw [if_pos (hr.mpr r), if_pos r]
        exact PR_trap h h0 pcv trv vav 13 a _ (by decide)
      · rw [if_neg (fun z => r (hr.mp z)), if_neg r]
        obtain ⟨k, hk, rfl⟩ := mpages_of r
        exact PR_fin h h0 pcv trv vav w wi (ld_b h hk)
    · simp only [if_neg c, if_neg (show ¬ (1 : Int32) = 0 by decide)]
      exact PR_trap h h0 pcv trv vav 4 a _ (by decide)
  · have en : (1 : Int32) <<< ((nI 1 &&& 3) &&& 31) = 2 := by decide
    simp only [if_neg (show ¬ nI 1 = (0 : Int32) by decide), if_pos (show nI 1 = (1 : Int32) by decide), if_neg (show ¬ nI 1 = (2 : Int32) by decide), if_neg (show ¬ nI 1 = (3 : Int32) by decide), if_neg (show ¬ nI 1 = (4 : Int32) by decide), if_neg (show ¬ nI 1 = (5 : Int32) by decide), if_pos (show nI 1 ≤ (5 : Int32) by decide), if_neg (show ¬ nI 1 - nI 1 / 4 * 4 = (0 : Int32) by decide), if_pos (show nI 1 - nI 1 / 4 * 4 = (1 : Int32) by decide), if_neg (show ¬ (2 : Int32) ≤ nI 1 by decide), en, crook_is]
    by_cases c : a &&& (2 - 1) = 0
    · simp only [if_pos c, eq_self, if_true]
      by_cases r : F_m_may rg a 1 = 0
      · rw [if_pos (hr.mpr r), if_pos r]
        exact PR_trap h h0 pcv trv vav 13 a _ (by decide)
      · rw [if_neg (fun z => r (hr.mp z)), if_neg r]
        obtain ⟨k, hk, rfl⟩ := mpages_of r
        exact PR_fin h h0 pcv trv vav w wi (ld_h h hk (al_of 1 (by decide) hk rfl (by decide) c))
    · simp only [if_neg c, if_neg (show ¬ (1 : Int32) = 0 by decide)]
      exact PR_trap h h0 pcv trv vav 4 a _ (by decide)
  · have en : (1 : Int32) <<< ((nI 2 &&& 3) &&& 31) = 4 := by decide
    simp only [if_neg (show ¬ nI 2 = (0 : Int32) by decide), if_neg (show ¬ nI 2 = (1 : Int32) by decide), if_pos (show nI 2 = (2 : Int32) by decide), if_neg (show ¬ nI 2 = (3 : Int32) by decide), if_neg (show ¬ nI 2 = (4 : Int32) by decide), if_neg (show ¬ nI 2 = (5 : Int32) by decide), if_pos (show nI 2 ≤ (5 : Int32) by decide), if_neg (show ¬ nI 2 - nI 2 / 4 * 4 = (0 : Int32) by decide), if_neg (show ¬ nI 2 - nI 2 / 4 * 4 = (1 : Int32) by decide), if_pos (show (2 : Int32) ≤ nI 2 by decide), en, crook_is]
    by_cases c : a &&& (4 - 1) = 0
    · simp only [if_pos c, eq_self, if_true]
      by_cases r : F_m_may rg a 1 = 0
      · rw [if_pos (hr.mpr r), if_pos r]
        exact PR_trap h h0 pcv trv vav 13 a _ (by decide)
      · rw [if_neg (fun z => r (hr.mp z)), if_neg r]
        obtain ⟨k, hk, rfl⟩ := mpages_of r
        exact PR_fin h h0 pcv trv vav w wi (ld_w h hk (al_of 2 (by decide) hk rfl (by decide) c))
    · simp only [if_neg c, if_neg (show ¬ (1 : Int32) = 0 by decide)]
      exact PR_trap h h0 pcv trv vav 4 a _ (by decide)
  · simp only [if_pos (show nI 3 = (3 : Int32) by decide), if_pos (show nI 3 ≤ (5 : Int32) by decide)]
    exact PR_bad h h0 pcv trv vav w _
  · have en : (1 : Int32) <<< ((nI 4 &&& 3) &&& 31) = 1 := by decide
    simp only [if_neg (show ¬ nI 4 = (0 : Int32) by decide), if_neg (show ¬ nI 4 = (1 : Int32) by decide), if_neg (show ¬ nI 4 = (2 : Int32) by decide), if_neg (show ¬ nI 4 = (3 : Int32) by decide), if_pos (show nI 4 = (4 : Int32) by decide), if_neg (show ¬ nI 4 = (5 : Int32) by decide), if_pos (show nI 4 ≤ (5 : Int32) by decide), if_pos (show nI 4 - nI 4 / 4 * 4 = (0 : Int32) by decide), if_neg (show ¬ nI 4 - nI 4 / 4 * 4 = (1 : Int32) by decide), if_pos (show (2 : Int32) ≤ nI 4 by decide), en, crook_is]
    by_cases c : a &&& (1 - 1) = 0
    · simp only [if_pos c, eq_self, if_true]
      by_cases r : F_m_may rg a 1 = 0
      · rw [if_pos (hr.mpr r), if_pos r]
        exact PR_trap h h0 pcv trv vav 13 a _ (by decide)
      · rw [if_neg (fun z => r (hr.mp z)), if_neg r]
        obtain ⟨k, hk, rfl⟩ := mpages_of r
        exact PR_fin h h0 pcv trv vav w wi (ld_bu h hk)
    · simp only [if_neg c, if_neg (show ¬ (1 : Int32) = 0 by decide)]
      exact PR_trap h h0 pcv trv vav 4 a _ (by decide)
  · have en : (1 : Int32) <<< ((nI 5 &&& 3) &&& 31) = 2 := by decide
    simp only [if_neg (show ¬ nI 5 = (0 : Int32) by decide), if_neg (show ¬ nI 5 = (1 : Int32) by decide), if_neg (show ¬ nI 5 = (2 : Int32) by decide), if_neg (show ¬ nI 5 = (3 : Int32) by decide), if_neg (show ¬ nI 5 = (4 : Int32) by decide), if_pos (show nI 5 = (5 : Int32) by decide), if_pos (show nI 5 ≤ (5 : Int32) by decide), if_neg (show ¬ nI 5 - nI 5 / 4 * 4 = (0 : Int32) by decide), if_pos (show nI 5 - nI 5 / 4 * 4 = (1 : Int32) by decide), if_pos (show (2 : Int32) ≤ nI 5 by decide), en, crook_is]
    by_cases c : a &&& (2 - 1) = 0
    · simp only [if_pos c, eq_self, if_true]
      by_cases r : F_m_may rg a 1 = 0
      · rw [if_pos (hr.mpr r), if_pos r]
        exact PR_trap h h0 pcv trv vav 13 a _ (by decide)
      · rw [if_neg (fun z => r (hr.mp z)), if_neg r]
        obtain ⟨k, hk, rfl⟩ := mpages_of r
        exact PR_fin h h0 pcv trv vav w wi (ld_hu h hk (al_of 1 (by decide) hk rfl (by decide) c))
    · simp only [if_neg c, if_neg (show ¬ (1 : Int32) = 0 by decide)]
      exact PR_trap h h0 pcv trv vav 4 a _ (by decide)
  · simp only [if_neg (show ¬ nI 6 = (3 : Int32) by decide), if_neg (show ¬ nI 6 ≤ (5 : Int32) by decide)]
    exact PR_bad h h0 pcv trv vav w _
  · simp only [if_neg (show ¬ nI 7 = (3 : Int32) by decide), if_neg (show ¬ nI 7 ≤ (5 : Int32) by decide)]
    exact PR_bad h h0 pcv trv vav w _
theorem store_eq {wd me rg rs : Nat → Int32} (h : RelM wd me) (h0 : rs 0 = 0) (hG : RgOK rg) (pcv trv vav w wi : Int32) : PR trv vav pcv (F_store wd rg rs pcv trv vav w) (F_m_store me rg rs pcv w (-1) wi (pcv + 4) (F_m_part w 12 3) (rs (F_m_part w 15 5).toNatClampNeg + F_m_s w) (rs (F_m_part w 20 5).toNatClampNeg)) := by
  unfold F_store F_m_store F_putBytes
  rw [eF, eA, eBr, eS]
  obtain ⟨j, hj, ej⟩ := fval w
  rw [ej]
  generalize rs (F_m_part w 15 5).toNatClampNeg + F_m_s w = a
  generalize rs (F_m_part w 20 5).toNatClampNeg = y
  have hr := right_eq hG a 2 r2
  rcases (show j = 0 ∨ j = 1 ∨ j = 2 ∨ j = 3 ∨ j = 4 ∨ j = 5 ∨ j = 6 ∨ j = 7 by omega) with rfl | rfl | rfl | rfl | rfl | rfl | rfl | rfl
  · have en : (1 : Int32) <<< (nI 0 &&& 31) = 1 := by decide
    have ec : (1 : Int32).toNatClampNeg = 1 := by decide
    simp only [if_pos (show nI 0 ≤ (2 : Int32) by decide), if_pos (show nI 0 = (0 : Int32) by decide), if_neg (show ¬ nI 0 = (1 : Int32) by decide), en, ec, crook_is]
    by_cases c : a &&& (1 - 1) = 0
    · simp only [if_pos c, eq_self, if_true]
      by_cases r : F_m_may rg a 2 = 0
      · rw [if_pos (hr.mpr r), if_pos r]
        exact PR_trap h h0 pcv trv vav 15 a _ (by decide)
      · rw [if_neg (fun z => r (hr.mp z)), if_neg r]
        obtain ⟨k, hk, rfl⟩ := mpages_of r
        exact ⟨sto_rel h y 1 (by decide) (by omega), rfl, h0, Or.inl ⟨rfl, rfl, rfl, rfl⟩⟩
    · simp only [if_neg c, if_neg (show ¬ (1 : Int32) = 0 by decide)]
      exact PR_trap h h0 pcv trv vav 6 a _ (by decide)
  · have en : (1 : Int32) <<< (nI 1 &&& 31) = 2 := by decide
    have ec : (2 : Int32).toNatClampNeg = 2 := by decide
    simp only [if_pos (show nI 1 ≤ (2 : Int32) by decide), if_neg (show ¬ nI 1 = (0 : Int32) by decide), if_pos (show nI 1 = (1 : Int32) by decide), en, ec, crook_is]
    by_cases c : a &&& (2 - 1) = 0
    · simp only [if_pos c, eq_self, if_true]
      by_cases r : F_m_may rg a 2 = 0
      · rw [if_pos (hr.mpr r), if_pos r]
        exact PR_trap h h0 pcv trv vav 15 a _ (by decide)
      · rw [if_neg (fun z => r (hr.mp z)), if_neg r]
        obtain ⟨k, hk, rfl⟩ := mpages_of r
        have hal : k % 2 = 0 := al_of 1 (by decide) hk rfl (by decide) c
        exact ⟨sto_rel h y 2 (by decide) (by omega), rfl, h0, Or.inl ⟨rfl, rfl, rfl, rfl⟩⟩
    · simp only [if_neg c, if_neg (show ¬ (1 : Int32) = 0 by decide)]
      exact PR_trap h h0 pcv trv vav 6 a _ (by decide)
  · have en : (1 : Int32) <<< (nI 2 &&& 31) = 4 := by decide
    have ec : (4 : Int32).toNatClampNeg = 4 := by decide
    simp only [if_pos (show nI 2 ≤ (2 : Int32) by decide), if_neg (show ¬ nI 2 = (0 : Int32) by decide), if_neg (show ¬ nI 2 = (1 : Int32) by decide), en, ec, crook_is]
    by_cases c : a &&& (4 - 1) = 0
    · simp only [if_pos c, eq_self, if_true]
      by_cases r : F_m_may rg a 2 = 0
      · rw [if_pos (hr.mpr r), if_pos r]
        exact PR_trap h h0 pcv trv vav 15 a _ (by decide)
      · rw [if_neg (fun z => r (hr.mp z)), if_neg r]
        obtain ⟨k, hk, rfl⟩ := mpages_of r
        have hal : k % 4 = 0 := al_of 2 (by decide) hk rfl (by decide) c
        exact ⟨sto_rel h y 4 (by decide) (by omega), rfl, h0, Or.inl ⟨rfl, rfl, rfl, rfl⟩⟩
    · simp only [if_neg c, if_neg (show ¬ (1 : Int32) = 0 by decide)]
      exact PR_trap h h0 pcv trv vav 6 a _ (by decide)
  · simp only [if_neg (show ¬ nI 3 ≤ (2 : Int32) by decide)]
    exact PR_bad h h0 pcv trv vav w _
  · simp only [if_neg (show ¬ nI 4 ≤ (2 : Int32) by decide)]
    exact PR_bad h h0 pcv trv vav w _
  · simp only [if_neg (show ¬ nI 5 ≤ (2 : Int32) by decide)]
    exact PR_bad h h0 pcv trv vav w _
  · simp only [if_neg (show ¬ nI 6 ≤ (2 : Int32) by decide)]
    exact PR_bad h h0 pcv trv vav w _
  · simp only [if_neg (show ¬ nI 7 ≤ (2 : Int32) by decide)]
    exact PR_bad h h0 pcv trv vav w _
theorem imm_eq {wd me rg rs : Nat → Int32} (h : RelM wd me) (h0 : rs 0 = 0) (pcv trv vav w wi : Int32) : PR trv vav pcv (F_computeWithImmediate wd rg rs pcv trv vav w) (F_m_immediate me rg rs pcv w (-1) wi (pcv + 4) (F_m_part w 12 3) (rs (F_m_part w 15 5).toNatClampNeg) (F_m_part w 25 7)) := by
  unfold F_computeWithImmediate F_m_immediate
  rw [eF, eA, eI, eG, eB]
  obtain ⟨j, hj, ej⟩ := fval w
  rw [ej]
  generalize rs (F_m_part w 15 5).toNatClampNeg = x
  generalize F_m_part w 25 7 = g
  have hc := comp_eq hj x (F_m_i w)
  rcases (show j = 0 ∨ j = 1 ∨ j = 2 ∨ j = 3 ∨ j = 4 ∨ j = 5 ∨ j = 6 ∨ j = 7 by omega) with rfl | rfl | rfl | rfl | rfl | rfl | rfl | rfl
  · simp only [if_neg (show ¬ nI 0 = (1 : Int32) by decide), if_neg (show ¬ nI 0 = (5 : Int32) by decide)]
    exact PR_fin h h0 pcv trv vav w wi hc
  · simp only [if_pos (show nI 1 = (1 : Int32) by decide), if_neg (show ¬ nI 1 = (5 : Int32) by decide)]
    by_cases c : g = 0
    · simp only [if_pos c]
      exact PR_fin h h0 pcv trv vav w wi (hc.trans (sh_only1 x _ _ 0 (low5 w)))
    · simp only [if_neg c]
      exact PR_bad h h0 pcv trv vav w _
  · simp only [if_neg (show ¬ nI 2 = (1 : Int32) by decide), if_neg (show ¬ nI 2 = (5 : Int32) by decide)]
    exact PR_fin h h0 pcv trv vav w wi hc
  · simp only [if_neg (show ¬ nI 3 = (1 : Int32) by decide), if_neg (show ¬ nI 3 = (5 : Int32) by decide)]
    exact PR_fin h h0 pcv trv vav w wi hc
  · simp only [if_neg (show ¬ nI 4 = (1 : Int32) by decide), if_neg (show ¬ nI 4 = (5 : Int32) by decide)]
    exact PR_fin h h0 pcv trv vav w wi hc
  · simp only [if_neg (show ¬ nI 5 = (1 : Int32) by decide), if_pos (show nI 5 = (5 : Int32) by decide)]
    by_cases c2 : g = 32
    · subst c2
      simp only [eq_self, if_true, if_neg (show ¬ (32 : Int32) = 0 by decide)]
      refine PR_fin h h0 pcv trv vav w wi (Eq.trans ?_ (sar_eq x (F_m_part w 20 5)))
      have hp : F_m_part w 20 5 &&& 31 = F_m_part w 20 5 := by
        obtain ⟨k, hk, e⟩ := part_lt w 20 5 (by decide)
        have e2 : F_m_part w 20 5 = nI k := e
        rw [e2, pk_andN (m := 31) (by omega) 5 (by decide), Nat.mod_eq_of_lt hk]
      rw [hp, hp]
    · by_cases c : g = 0
      · simp only [if_pos c, if_neg c2]
        exact PR_fin h h0 pcv trv vav w wi (hc.trans (sh_only5 x _ _ 0 (low5 w)))
      · simp only [if_neg c, if_neg c2]
        exact PR_bad h h0 pcv trv vav w _
  · simp only [if_neg (show ¬ nI 6 = (1 : Int32) by decide), if_neg (show ¬ nI 6 = (5 : Int32) by decide)]
    exact PR_fin h h0 pcv trv vav w wi hc
  · simp only [if_neg (show ¬ nI 7 = (1 : Int32) by decide), if_neg (show ¬ nI 7 = (5 : Int32) by decide)]
    exact PR_fin h h0 pcv trv vav w wi hc
theorem both_eq {wd me rg rs : Nat → Int32} (h : RelM wd me) (h0 : rs 0 = 0) (pcv trv vav w wi : Int32) : PR trv vav pcv (F_computeWithRegisters wd rg rs pcv trv vav w) (F_m_both me rg rs pcv w (-1) wi (pcv + 4) (F_m_part w 12 3) (rs (F_m_part w 15 5).toNatClampNeg) (rs (F_m_part w 20 5).toNatClampNeg) (F_m_part w 25 7)) := by
  unfold F_computeWithRegisters F_m_both
  rw [eF, eA, eBr, eG]
  obtain ⟨j, hj, ej⟩ := fval w
  rw [ej]
  generalize rs (F_m_part w 15 5).toNatClampNeg = x
  generalize rs (F_m_part w 20 5).toNatClampNeg = y
  generalize F_m_part w 25 7 = g
  by_cases c0 : g = 0
  · subst c0
    simp only [eq_self, if_true, if_neg (show ¬ (0 : Int32) = 1 by decide), if_neg (show ¬ (0 : Int32) = 32 by decide)]
    exact PR_fin h h0 pcv trv vav w wi (comp_eq hj x y)
  · by_cases c1 : g = 1
    · subst c1
      simp only [eq_self, if_true, if_neg (show ¬ (1 : Int32) = 0 by decide)]
      exact PR_fin h h0 pcv trv vav w wi (mul_eq hj x y)
    · by_cases c2 : g = 32
      · subst c2
        simp only [eq_self, if_true, if_neg (show ¬ (32 : Int32) = 0 by decide), if_neg (show ¬ (32 : Int32) = 1 by decide)]
        by_cases d0 : nI j = 0
        · simp only [if_pos d0]
          rw [d0]
          exact PR_fin h h0 pcv trv vav w wi (sub_eq x y)
        · by_cases d5 : nI j = 5
          · simp only [if_neg d0, if_pos d5]
            rw [d5]
            exact PR_fin h h0 pcv trv vav w wi (sar_eq x y)
          · simp only [if_neg d0, if_neg d5]
            exact PR_bad h h0 pcv trv vav w _
      · simp only [if_neg c0, if_neg c1, if_neg c2]
        exact PR_bad h h0 pcv trv vav w _
