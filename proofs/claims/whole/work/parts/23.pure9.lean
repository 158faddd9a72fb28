theorem q_run {wd me rg rs : Nat → Int32} (h : RelM wd me) (h0 : rs 0 = 0) (hG : RgOK rg) (n : Nat) (pcv dnv wv fa wi ne : Int32) :
    (runC rg n (wd, rs, pcv, (-1), 0)).1 = (runM rg n (me, rs, pcv, dnv, wv, fa, wi, ne)).1 ∧
    RelM (runC rg n (wd, rs, pcv, (-1), 0)).2.1 (runM rg n (me, rs, pcv, dnv, wv, fa, wi, ne)).2.2.1 ∧
    (runC rg n (wd, rs, pcv, (-1), 0)).2.2.1 = (runM rg n (me, rs, pcv, dnv, wv, fa, wi, ne)).2.2.2.1 ∧
    (runC rg n (wd, rs, pcv, (-1), 0)).2.2.1 0 = 0 ∧
    (runC rg n (wd, rs, pcv, (-1), 0)).2.2.2.1 = (runM rg n (me, rs, pcv, dnv, wv, fa, wi, ne)).2.2.2.2.1 ∧
    dnv + nI (runC rg n (wd, rs, pcv, (-1), 0)).1 = (runM rg n (me, rs, pcv, dnv, wv, fa, wi, ne)).2.2.2.2.2.1 ∧
    (runC rg n (wd, rs, pcv, (-1), 0)).2.2.2.2.1 = (if (runM rg n (me, rs, pcv, dnv, wv, fa, wi, ne)).2.1 = true then (-1) else (runM rg n (me, rs, pcv, dnv, wv, fa, wi, ne)).2.2.2.2.2.2.2.1) ∧
    (runC rg n (wd, rs, pcv, (-1), 0)).2.2.2.2.2 = (if (runM rg n (me, rs, pcv, dnv, wv, fa, wi, ne)).2.1 = true then 0 else (runM rg n (me, rs, pcv, dnv, wv, fa, wi, ne)).2.2.2.2.2.2.2.2.1) := sorry
