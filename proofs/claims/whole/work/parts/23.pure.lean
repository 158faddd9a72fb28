/-- the words and the bytes hold one memory -/
def RelM (wd me : Nat → Int32) : Prop := ∀ a, a < 16384 → ∀ i, i < 8 → bt (wd (a / 4)) (8 * (a % 4) + i) = bt (me a) i
theorem q_poke {wd me : Nat → Int32} (h : RelM wd me) (a n : Int32) (b : Int64) : (F_poke wd a n b).1 = (F_m_poke me a n b).1 ∧ RelM (F_poke wd a n b).2 (F_m_poke me a n b).2.2 := sorry
theorem q_peek {wd me : Nat → Int32} (h : RelM wd me) (a : Int32) : F_peek wd a = (F_m_peek me a).1 := sorry
theorem q_protect (rg : Nat → Int32) (a r : Int32) : (F_protect rg a r).1 = (F_m_protect rg a r).1 ∧ (F_protect rg a r).2 = (F_m_protect rg a r).2.2 := sorry
theorem q_set {rs : Nat → Int32} (h : rs 0 = 0) (k v : Int32) : (F_set rs k v).1 = (F_m_set rs k v).1 ∧ (F_set rs k v).2 = (F_m_set rs k v).2.2 ∧ (F_set rs k v).2 0 = 0 := sorry
theorem q_register (rs : Nat → Int32) (k : Int32) : F_register rs k = (F_m_register rs k).1 := sorry
theorem q_run {wd me rg rs : Nat → Int32} (h : RelM wd me) (h0 : rs 0 = 0) (n : Nat) (pcv dnv wv fa wi ne : Int32) :
    (runC rg n (wd, rs, pcv, (-1), 0)).1 = (runM rg n (me, rs, pcv, dnv, wv, fa, wi, ne)).1 ∧
    RelM (runC rg n (wd, rs, pcv, (-1), 0)).2.1 (runM rg n (me, rs, pcv, dnv, wv, fa, wi, ne)).2.2.1 ∧
    (runC rg n (wd, rs, pcv, (-1), 0)).2.2.1 = (runM rg n (me, rs, pcv, dnv, wv, fa, wi, ne)).2.2.2.1 ∧
    (runC rg n (wd, rs, pcv, (-1), 0)).2.2.1 0 = 0 ∧
    (runC rg n (wd, rs, pcv, (-1), 0)).2.2.2.1 = (runM rg n (me, rs, pcv, dnv, wv, fa, wi, ne)).2.2.2.2.1 ∧
    dnv + nI (runC rg n (wd, rs, pcv, (-1), 0)).1 = (runM rg n (me, rs, pcv, dnv, wv, fa, wi, ne)).2.2.2.2.2.1 ∧
    (runC rg n (wd, rs, pcv, (-1), 0)).2.2.2.2.1 = (if (runM rg n (me, rs, pcv, dnv, wv, fa, wi, ne)).2.1 = true then (-1) else (runM rg n (me, rs, pcv, dnv, wv, fa, wi, ne)).2.2.2.2.2.2.2.1) ∧
    (runC rg n (wd, rs, pcv, (-1), 0)).2.2.2.2.2 = (if (runM rg n (me, rs, pcv, dnv, wv, fa, wi, ne)).2.1 = true then 0 else (runM rg n (me, rs, pcv, dnv, wv, fa, wi, ne)).2.2.2.2.2.2.2.2.1) := sorry
