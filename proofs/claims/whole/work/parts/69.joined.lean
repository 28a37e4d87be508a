/-! The law's own methods: one contract each -/
set_option maxHeartbeats 4000000 in
set_option maxRecDepth 100000 in
theorem l_L_site (l : Launch) (hst9 : l.stackTraces = false) (dC : Nat → ClassId) (dI : Nat → Nat → Nat) (c0 m0 s0 xa ya : Nat) (cI : ClassId) (oj : Nat) (cJ : ClassId) (ou : Nat → Int64) (x y : Nat → Int32) (st : Int32) (n : Nat) (px py : Int32) (ln : n ≤ 20) (R : Int32 × (Nat → Int64) × Nat × (Nat → Int32) × (Nat → Int32) × Int32) (hR : h_site ou x y n st px py = R) : Met l yL_site wsL_site ({ frames := 8, cells := 1, slots := 6, locals := 125 }) (q_Py (dC, dI) [.ref c0, .int px, .int py, .ref oj] [(c0, .inr (3, [.ref s0, .ref m0, .int st])), (s0, .inr (2, [.ref xa, .ref ya, .int (nI n)])), (xa, .inl (cI, 20, .inl x)), (ya, .inl (cI, 20, .inl y)), (oj, .inl (cJ, 1, .inr (.inl ou)))] [(cI, .int), (cJ, .long)]) (q_Qm (dC, dI) (q_in [(c0, .inr (3, [.ref s0, .ref m0, .int st])), (s0, .inr (2, [.ref xa, .ref ya, .int (nI n)])), (xa, .inl (cI, 20, .inl x)), (ya, .inl (cI, 20, .inl y)), (oj, .inl (cJ, 1, .inr (.inl ou)))]) (some (.int R.1)) [(c0, .inr (3, [.ref s0, .ref m0, .int R.2.2.2.2.2])), (s0, .inr (2, [.ref xa, .ref ya, .int (nI R.2.2.1)])), (xa, .inl (cI, 20, .inl R.2.2.2.1)), (ya, .inl (cI, 20, .inl R.2.2.2.2.1)), (oj, .inl (cJ, 1, .inr (.inl R.2.1)))]) 1 6 (q_in [(c0, .inr (3, [.ref s0, .ref m0, .int st])), (s0, .inr (2, [.ref xa, .ref ya, .int (nI n)])), (xa, .inl (cI, 20, .inl x)), (ya, .inl (cI, 20, .inl y)), (oj, .inl (cJ, 1, .inr (.inl ou)))]) := by
  unfold h_site at hR
  by_cases h1 : r_far px py = true
  · rw [if_pos h1] at hR
    subst hR
    exact l1_L_site l hst9 dC dI c0 m0 s0 xa ya cI oj cJ ou x y st n px py h1
  · rw [if_neg h1] at hR
    by_cases h2 : j_num x y n px py 0 = -1
    · rw [if_pos h2] at hR
      by_cases h3 : n < 20
      · rw [if_pos h3] at hR
        subst hR
        exact lR_L_site l hst9 dC dI c0 m0 s0 xa ya cI oj cJ ou x y st n px py h3 (v_bt h1) h2
      · rw [if_neg h3] at hR
        subst hR
        exact l3_L_site l hst9 dC dI c0 m0 s0 xa ya cI oj cJ ou x y st n px py (by omega) (v_bt h1) h2
    · rw [if_neg h2] at hR
      subst hR
      exact l2_L_site l hst9 dC dI c0 m0 s0 xa ya cI oj cJ ou x y st n px py ln (v_bt h1) h2
set_option maxHeartbeats 4000000 in
set_option maxRecDepth 100000 in
theorem l_L_remove (l : Launch) (hst9 : l.stackTraces = false) (dC : Nat → ClassId) (dI : Nat → Nat → Nat) (c0 m0 s0 xa ya : Nat) (cI : ClassId) (x y : Nat → Int32) (st : Int32) (n : Nat) (w : Int32) (ln : n ≤ 20) (R : Int32 × Nat × (Nat → Int32) × (Nat → Int32) × Int32) (hR : h_rem x y n st w = R) : Met l yL_remove wsL_remove ({ frames := 8, cells := 1, slots := 6, locals := 124 }) (q_Py (dC, dI) [.ref c0, .int w] [(c0, .inr (3, [.ref s0, .ref m0, .int st])), (s0, .inr (2, [.ref xa, .ref ya, .int (nI n)])), (xa, .inl (cI, 20, .inl x)), (ya, .inl (cI, 20, .inl y))] [(cI, .int)]) (q_Qm (dC, dI) (q_in [(c0, .inr (3, [.ref s0, .ref m0, .int st])), (s0, .inr (2, [.ref xa, .ref ya, .int (nI n)])), (xa, .inl (cI, 20, .inl x)), (ya, .inl (cI, 20, .inl y))]) (some (.int R.1)) [(c0, .inr (3, [.ref s0, .ref m0, .int R.2.2.2.2])), (s0, .inr (2, [.ref xa, .ref ya, .int (nI R.2.1)])), (xa, .inl (cI, 20, .inl R.2.2.1)), (ya, .inl (cI, 20, .inl R.2.2.2.1))]) 1 6 (q_in [(c0, .inr (3, [.ref s0, .ref m0, .int st])), (s0, .inr (2, [.ref xa, .ref ya, .int (nI n)])), (xa, .inl (cI, 20, .inl x)), (ya, .inl (cI, 20, .inl y))]) := by
  unfold h_rem at hR
  by_cases h1 : r_out w (nI n) = true
  · rw [if_pos h1] at hR
    subst hR
    exact l1_L_remove l hst9 dC dI c0 m0 s0 xa ya cI x y st n w h1
  · rw [if_neg h1] at hR
    obtain ⟨k, hk, rfl⟩ := r_out_f (by omega) (v_bt h1)
    rw [nI_clamp (by omega)] at hR
    subst hR
    exact lR_L_remove l hst9 dC dI c0 m0 s0 xa ya cI x y st n k hk ln _ rfl
set_option maxHeartbeats 4000000 in
set_option maxRecDepth 100000 in
theorem l_L_move (l : Launch) (hst9 : l.stackTraces = false) (dC : Nat → ClassId) (dI : Nat → Nat → Nat) (c0 m0 s0 xa ya : Nat) (cI : ClassId) (x y : Nat → Int32) (st : Int32) (n : Nat) (w px py : Int32) (ln : n ≤ 20) (R : Int32 × (Nat → Int32) × (Nat → Int32) × Int32) (hR : h_mov x y n st w px py = R) : Met l yL_move wsL_move ({ frames := 8, cells := 1, slots := 6, locals := 127 }) (q_Py (dC, dI) [.ref c0, .int w, .int px, .int py] [(c0, .inr (3, [.ref s0, .ref m0, .int st])), (s0, .inr (2, [.ref xa, .ref ya, .int (nI n)])), (xa, .inl (cI, 20, .inl x)), (ya, .inl (cI, 20, .inl y))] [(cI, .int)]) (q_Qm (dC, dI) (q_in [(c0, .inr (3, [.ref s0, .ref m0, .int st])), (s0, .inr (2, [.ref xa, .ref ya, .int (nI n)])), (xa, .inl (cI, 20, .inl x)), (ya, .inl (cI, 20, .inl y))]) (some (.int R.1)) [(c0, .inr (3, [.ref s0, .ref m0, .int R.2.2.2])), (s0, .inr (2, [.ref xa, .ref ya, .int (nI n)])), (xa, .inl (cI, 20, .inl R.2.1)), (ya, .inl (cI, 20, .inl R.2.2.1))]) 1 6 (q_in [(c0, .inr (3, [.ref s0, .ref m0, .int st])), (s0, .inr (2, [.ref xa, .ref ya, .int (nI n)])), (xa, .inl (cI, 20, .inl x)), (ya, .inl (cI, 20, .inl y))]) := by
  unfold h_mov at hR
  by_cases h1 : r_out w (nI n) = true
  · rw [if_pos h1] at hR
    subst hR
    exact l1_L_move l hst9 dC dI c0 m0 s0 xa ya cI x y st n w px py h1
  · rw [if_neg h1] at hR
    obtain ⟨k, hk, rfl⟩ := r_out_f (by omega) (v_bt h1)
    rw [nI_clamp (by omega)] at hR
    by_cases h2 : r_far px py = true
    · rw [if_pos h2] at hR
      subst hR
      exact l2_L_move l hst9 dC dI c0 m0 s0 xa ya cI x y st n k px py hk ln h2
    · rw [if_neg h2] at hR
      by_cases h3 : j_num x y n px py 0 = -1 ∨ j_num x y n px py 0 = nI k
      · rw [if_pos h3] at hR
        subst hR
        exact lR_L_move l hst9 dC dI c0 m0 s0 xa ya cI x y st n k px py hk ln (v_bt h2) h3
      · rw [if_neg h3] at hR
        subst hR
        exact l3_L_move l hst9 dC dI c0 m0 s0 xa ya cI x y st n k px py hk ln (v_bt h2) (fun h9 => h3 (Or.inl h9)) (fun h9 => h3 (Or.inr h9))
set_option maxHeartbeats 4000000 in
set_option maxRecDepth 100000 in
theorem l_L_where (l : Launch) (hst9 : l.stackTraces = false) (dC : Nat → ClassId) (dI : Nat → Nat → Nat) (c0 m0 s0 xa ya : Nat) (cI : ClassId) (oj : Nat) (cJ : ClassId) (ou : Nat → Int64) (x y : Nat → Int32) (st : Int32) (n : Nat) (w t : Int32) (ln : n ≤ 20) (R : Int32 × (Nat → Int64)) (hR : h_whe ou x y n w t = R) : Met l yL_where wsL_where ({ frames := 8, cells := 1, slots := 6, locals := 125 }) (q_Py (dC, dI) [.ref c0, .int w, .int t, .ref oj] [(c0, .inr (3, [.ref s0, .ref m0, .int st])), (s0, .inr (2, [.ref xa, .ref ya, .int (nI n)])), (xa, .inl (cI, 20, .inl x)), (ya, .inl (cI, 20, .inl y)), (oj, .inl (cJ, 1, .inr (.inl ou)))] [(cI, .int), (cJ, .long)]) (q_Qm (dC, dI) (q_in [(c0, .inr (3, [.ref s0, .ref m0, .int st])), (s0, .inr (2, [.ref xa, .ref ya, .int (nI n)])), (xa, .inl (cI, 20, .inl x)), (ya, .inl (cI, 20, .inl y)), (oj, .inl (cJ, 1, .inr (.inl ou)))]) (some (.int R.1)) [(c0, .inr (3, [.ref s0, .ref m0, .int st])), (s0, .inr (2, [.ref xa, .ref ya, .int (nI n)])), (xa, .inl (cI, 20, .inl x)), (ya, .inl (cI, 20, .inl y)), (oj, .inl (cJ, 1, .inr (.inl R.2)))]) 1 6 (q_in [(c0, .inr (3, [.ref s0, .ref m0, .int st])), (s0, .inr (2, [.ref xa, .ref ya, .int (nI n)])), (xa, .inl (cI, 20, .inl x)), (ya, .inl (cI, 20, .inl y)), (oj, .inl (cJ, 1, .inr (.inl ou)))]) := by
  unfold h_whe at hR
  by_cases h1 : r_out w (nI n) = true
  · rw [if_pos h1] at hR
    subst hR
    exact l1_L_where l hst9 dC dI c0 m0 s0 xa ya cI oj cJ ou x y st n w t h1
  · rw [if_neg h1] at hR
    obtain ⟨k, hk, rfl⟩ := r_out_f (by omega) (v_bt h1)
    rw [nI_clamp (by omega)] at hR
    by_cases h2 : t = 0 ∨ t = 1
    · rw [if_pos h2] at hR
      subst hR
      exact lR_L_where l hst9 dC dI c0 m0 s0 xa ya cI oj cJ ou x y st n k t hk ln h2
    · rw [if_neg h2] at hR
      subst hR
      exact l2_L_where l hst9 dC dI c0 m0 s0 xa ya cI oj cJ ou x y st n k t hk ln (fun h9 => h2 (Or.inl h9)) (fun h9 => h2 (Or.inr h9))
set_option maxHeartbeats 4000000 in
set_option maxRecDepth 100000 in
theorem l_L_nearest (l : Launch) (hst9 : l.stackTraces = false) (dC : Nat → ClassId) (dI : Nat → Nat → Nat) (c0 m0 s0 xa ya : Nat) (cI : ClassId) (oj : Nat) (cJ : ClassId) (ou : Nat → Int64) (x y : Nat → Int32) (st : Int32) (n : Nat) (px py : Int32) (ln : n ≤ 20) (R : Int32 × (Nat → Int64)) (hR : h_nea ou x y n px py = R) : Met l yL_nearest wsL_nearest ({ frames := 8, cells := 1, slots := 6, locals := 125 }) (q_Py (dC, dI) [.ref c0, .int px, .int py, .ref oj] [(c0, .inr (3, [.ref s0, .ref m0, .int st])), (s0, .inr (2, [.ref xa, .ref ya, .int (nI n)])), (xa, .inl (cI, 20, .inl x)), (ya, .inl (cI, 20, .inl y)), (oj, .inl (cJ, 1, .inr (.inl ou)))] [(cI, .int), (cJ, .long)]) (q_Qm (dC, dI) (q_in [(c0, .inr (3, [.ref s0, .ref m0, .int st])), (s0, .inr (2, [.ref xa, .ref ya, .int (nI n)])), (xa, .inl (cI, 20, .inl x)), (ya, .inl (cI, 20, .inl y)), (oj, .inl (cJ, 1, .inr (.inl ou)))]) (some (.int R.1)) [(c0, .inr (3, [.ref s0, .ref m0, .int st])), (s0, .inr (2, [.ref xa, .ref ya, .int (nI n)])), (xa, .inl (cI, 20, .inl x)), (ya, .inl (cI, 20, .inl y)), (oj, .inl (cJ, 1, .inr (.inl R.2)))]) 1 6 (q_in [(c0, .inr (3, [.ref s0, .ref m0, .int st])), (s0, .inr (2, [.ref xa, .ref ya, .int (nI n)])), (xa, .inl (cI, 20, .inl x)), (ya, .inl (cI, 20, .inl y)), (oj, .inl (cJ, 1, .inr (.inl ou)))]) := by
  unfold h_nea at hR
  by_cases h1 : r_far px py = true
  · rw [if_pos h1] at hR
    subst hR
    exact l1_L_nearest l hst9 dC dI c0 m0 s0 xa ya cI oj cJ ou x y st n px py h1
  · rw [if_neg h1] at hR
    by_cases h2 : n = 0
    · rw [if_pos h2] at hR
      subst hR
      exact l2_L_nearest l hst9 dC dI c0 m0 s0 xa ya cI oj cJ ou x y st n px py h2 (v_bt h1)
    · rw [if_neg h2] at hR
      subst hR
      exact lR_L_nearest l hst9 dC dI c0 m0 s0 xa ya cI oj cJ ou x y st n px py (by omega) ln (v_bt h1)
set_option maxHeartbeats 4000000 in
set_option maxRecDepth 100000 in
theorem l_L_cell (l : Launch) (hst9 : l.stackTraces = false) (dC : Nat → ClassId) (dI : Nat → Nat → Nat) (c0 m0 s0 g0 ra sa oa ma xa ya : Nat) (cI : ClassId) (oj : Nat) (cJ : ClassId) (ou : Nat → Int64) (x y : Nat → Int32) (st : Int32) (z : (Int32 × Int32 × Int64 × Int64 × Int64) × (Nat → Nat) × (Nat → Nat) × (Nat → Int32) × Nat) (rm : Nat → Int32) (rc n : Nat) (w i : Int32) (ln : n ≤ 20) (lr : ∀ j, z.2.1 j < 20) (ls0 : z.2.2.1 0 = 0) (hst : j_st (j_refr x y n st z rm rc)) (R : Int32 × (Nat → Int64)) (hR : h_cel ou w i (j_refr x y n st z rm rc) = R) : Met l yL_cell wsL_cell ({ frames := 8, cells := 1, slots := 6, locals := 160 }) (q_Py (dC, dI) [.ref c0, .int w, .int i, .ref oj] [(c0, .inr (3, [.ref s0, .ref m0, .int st])), (m0, .inr (1, [.ref s0, .ref g0, .ref ra, .ref sa, .ref oa, .int (nI z.2.2.2.2), .ref ma, .int (nI rc)])), (g0, .inr (0, [.int z.1.1, .int z.1.2.1, .long z.1.2.2.1, .long z.1.2.2.2.1, .long z.1.2.2.2.2])), (s0, .inr (2, [.ref xa, .ref ya, .int (nI n)])), (xa, .inl (cI, 20, .inl x)), (ya, .inl (cI, 20, .inl y)), (ra, .inl (cI, 105, .inl (fun j9 => nI (z.2.1 j9)))), (sa, .inl (cI, 36, .inl (fun j9 => nI (z.2.2.1 j9)))), (oa, .inl (cI, 400, .inl z.2.2.2.1)), (ma, .inl (cI, 20, .inl rm)), (oj, .inl (cJ, 1, .inr (.inl ou)))] [(cI, .int), (cJ, .long)]) (q_Qm (dC, dI) (q_in [(c0, .inr (3, [.ref s0, .ref m0, .int st])), (m0, .inr (1, [.ref s0, .ref g0, .ref ra, .ref sa, .ref oa, .int (nI z.2.2.2.2), .ref ma, .int (nI rc)])), (g0, .inr (0, [.int z.1.1, .int z.1.2.1, .long z.1.2.2.1, .long z.1.2.2.2.1, .long z.1.2.2.2.2])), (s0, .inr (2, [.ref xa, .ref ya, .int (nI n)])), (xa, .inl (cI, 20, .inl x)), (ya, .inl (cI, 20, .inl y)), (ra, .inl (cI, 105, .inl (fun j9 => nI (z.2.1 j9)))), (sa, .inl (cI, 36, .inl (fun j9 => nI (z.2.2.1 j9)))), (oa, .inl (cI, 400, .inl z.2.2.2.1)), (ma, .inl (cI, 20, .inl rm)), (oj, .inl (cJ, 1, .inr (.inl ou)))]) (some (.int R.1)) [(c0, .inr (3, [.ref s0, .ref m0, .int 0])), (m0, .inr (1, [.ref s0, .ref g0, .ref ra, .ref sa, .ref oa, .int (nI ((j_refr x y n st z rm rc).1.2.2.2.2)), .ref ma, .int (nI ((j_refr x y n st z rm rc).2.2))])), (g0, .inr (0, [.int ((j_refr x y n st z rm rc).1.1.1), .int ((j_refr x y n st z rm rc).1.1.2.1), .long ((j_refr x y n st z rm rc).1.1.2.2.1), .long ((j_refr x y n st z rm rc).1.1.2.2.2.1), .long ((j_refr x y n st z rm rc).1.1.2.2.2.2)])), (s0, .inr (2, [.ref xa, .ref ya, .int (nI n)])), (xa, .inl (cI, 20, .inl x)), (ya, .inl (cI, 20, .inl y)), (ra, .inl (cI, 105, .inl (fun j9 => nI ((j_refr x y n st z rm rc).1.2.1 j9)))), (sa, .inl (cI, 36, .inl (fun j9 => nI ((j_refr x y n st z rm rc).1.2.2.1 j9)))), (oa, .inl (cI, 400, .inl ((j_refr x y n st z rm rc).1.2.2.2.1))), (ma, .inl (cI, 20, .inl ((j_refr x y n st z rm rc).2.1))), (oj, .inl (cJ, 1, .inr (.inl R.2)))]) 1 6 (q_in [(c0, .inr (3, [.ref s0, .ref m0, .int st])), (m0, .inr (1, [.ref s0, .ref g0, .ref ra, .ref sa, .ref oa, .int (nI z.2.2.2.2), .ref ma, .int (nI rc)])), (g0, .inr (0, [.int z.1.1, .int z.1.2.1, .long z.1.2.2.1, .long z.1.2.2.2.1, .long z.1.2.2.2.2])), (s0, .inr (2, [.ref xa, .ref ya, .int (nI n)])), (xa, .inl (cI, 20, .inl x)), (ya, .inl (cI, 20, .inl y)), (ra, .inl (cI, 105, .inl (fun j9 => nI (z.2.1 j9)))), (sa, .inl (cI, 36, .inl (fun j9 => nI (z.2.2.1 j9)))), (oa, .inl (cI, 400, .inl z.2.2.2.1)), (ma, .inl (cI, 20, .inl rm)), (oj, .inl (cJ, 1, .inr (.inl ou)))]) := by
  unfold h_cel at hR
  by_cases h1 : r_out w (nI (j_refr x y n st z rm rc).1.2.2.2.2) = true
  · rw [if_pos h1] at hR
    subst hR
    exact l1_L_cell l hst9 dC dI c0 m0 s0 g0 ra sa oa ma xa ya cI oj cJ ou x y st z rm rc n w i ln lr ls0 h1 _ rfl
  · rw [if_neg h1] at hR
    have hq := hst.2.1
    obtain ⟨k, hk, rfl⟩ := r_out_f (by omega) (v_bt h1)
    rw [nI_clamp (by omega)] at hR
    by_cases h2 : i = -1
    · rw [if_pos h2] at hR
      subst hR
      exact lR_L_cell l hst9 dC dI c0 m0 s0 g0 ra sa oa ma xa ya cI oj cJ ou x y st z rm rc n k i ln lr ls0 hst hk (Or.inl h2) _ rfl
    · rw [if_neg h2] at hR
      by_cases h3 : r_out i (nI ((j_refr x y n st z rm rc).1.2.2.1 (k + 1) - (j_refr x y n st z rm rc).1.2.2.1 k)) = true
      · rw [if_pos h3] at hR
        subst hR
        exact l2_L_cell l hst9 dC dI c0 m0 s0 g0 ra sa oa ma xa ya cI oj cJ ou x y st z rm rc n k i ln lr ls0 hst hk h2 h3 _ rfl
      · rw [if_neg h3] at hR
        subst hR
        exact lR_L_cell l hst9 dC dI c0 m0 s0 g0 ra sa oa ma xa ya cI oj cJ ou x y st z rm rc n k i ln lr ls0 hst hk (Or.inr (v_bt h3)) _ rfl
set_option maxHeartbeats 4000000 in
set_option maxRecDepth 100000 in
theorem l_L_beside (l : Launch) (hst9 : l.stackTraces = false) (dC : Nat → ClassId) (dI : Nat → Nat → Nat) (c0 m0 s0 g0 ra sa oa ma xa ya : Nat) (cI : ClassId) (oj : Nat) (cJ : ClassId) (ou : Nat → Int64) (x y : Nat → Int32) (st : Int32) (z : (Int32 × Int32 × Int64 × Int64 × Int64) × (Nat → Nat) × (Nat → Nat) × (Nat → Int32) × Nat) (rm : Nat → Int32) (rc n : Nat) (w i : Int32) (ln : n ≤ 20) (lr : ∀ j, z.2.1 j < 20) (ls0 : z.2.2.1 0 = 0) (hst : j_st (j_refr x y n st z rm rc)) (R : Int32 × (Nat → Int64)) (hR : h_bes ou w i (j_refr x y n st z rm rc) = R) : Met l yL_beside wsL_beside ({ frames := 8, cells := 1, slots := 6, locals := 159 }) (q_Py (dC, dI) [.ref c0, .int w, .int i, .ref oj] [(c0, .inr (3, [.ref s0, .ref m0, .int st])), (m0, .inr (1, [.ref s0, .ref g0, .ref ra, .ref sa, .ref oa, .int (nI z.2.2.2.2), .ref ma, .int (nI rc)])), (g0, .inr (0, [.int z.1.1, .int z.1.2.1, .long z.1.2.2.1, .long z.1.2.2.2.1, .long z.1.2.2.2.2])), (s0, .inr (2, [.ref xa, .ref ya, .int (nI n)])), (xa, .inl (cI, 20, .inl x)), (ya, .inl (cI, 20, .inl y)), (ra, .inl (cI, 105, .inl (fun j9 => nI (z.2.1 j9)))), (sa, .inl (cI, 36, .inl (fun j9 => nI (z.2.2.1 j9)))), (oa, .inl (cI, 400, .inl z.2.2.2.1)), (ma, .inl (cI, 20, .inl rm)), (oj, .inl (cJ, 1, .inr (.inl ou)))] [(cI, .int), (cJ, .long)]) (q_Qm (dC, dI) (q_in [(c0, .inr (3, [.ref s0, .ref m0, .int st])), (m0, .inr (1, [.ref s0, .ref g0, .ref ra, .ref sa, .ref oa, .int (nI z.2.2.2.2), .ref ma, .int (nI rc)])), (g0, .inr (0, [.int z.1.1, .int z.1.2.1, .long z.1.2.2.1, .long z.1.2.2.2.1, .long z.1.2.2.2.2])), (s0, .inr (2, [.ref xa, .ref ya, .int (nI n)])), (xa, .inl (cI, 20, .inl x)), (ya, .inl (cI, 20, .inl y)), (ra, .inl (cI, 105, .inl (fun j9 => nI (z.2.1 j9)))), (sa, .inl (cI, 36, .inl (fun j9 => nI (z.2.2.1 j9)))), (oa, .inl (cI, 400, .inl z.2.2.2.1)), (ma, .inl (cI, 20, .inl rm)), (oj, .inl (cJ, 1, .inr (.inl ou)))]) (some (.int R.1)) [(c0, .inr (3, [.ref s0, .ref m0, .int 0])), (m0, .inr (1, [.ref s0, .ref g0, .ref ra, .ref sa, .ref oa, .int (nI ((j_refr x y n st z rm rc).1.2.2.2.2)), .ref ma, .int (nI ((j_refr x y n st z rm rc).2.2))])), (g0, .inr (0, [.int ((j_refr x y n st z rm rc).1.1.1), .int ((j_refr x y n st z rm rc).1.1.2.1), .long ((j_refr x y n st z rm rc).1.1.2.2.1), .long ((j_refr x y n st z rm rc).1.1.2.2.2.1), .long ((j_refr x y n st z rm rc).1.1.2.2.2.2)])), (s0, .inr (2, [.ref xa, .ref ya, .int (nI n)])), (xa, .inl (cI, 20, .inl x)), (ya, .inl (cI, 20, .inl y)), (ra, .inl (cI, 105, .inl (fun j9 => nI ((j_refr x y n st z rm rc).1.2.1 j9)))), (sa, .inl (cI, 36, .inl (fun j9 => nI ((j_refr x y n st z rm rc).1.2.2.1 j9)))), (oa, .inl (cI, 400, .inl ((j_refr x y n st z rm rc).1.2.2.2.1))), (ma, .inl (cI, 20, .inl ((j_refr x y n st z rm rc).2.1))), (oj, .inl (cJ, 1, .inr (.inl R.2)))]) 1 6 (q_in [(c0, .inr (3, [.ref s0, .ref m0, .int st])), (m0, .inr (1, [.ref s0, .ref g0, .ref ra, .ref sa, .ref oa, .int (nI z.2.2.2.2), .ref ma, .int (nI rc)])), (g0, .inr (0, [.int z.1.1, .int z.1.2.1, .long z.1.2.2.1, .long z.1.2.2.2.1, .long z.1.2.2.2.2])), (s0, .inr (2, [.ref xa, .ref ya, .int (nI n)])), (xa, .inl (cI, 20, .inl x)), (ya, .inl (cI, 20, .inl y)), (ra, .inl (cI, 105, .inl (fun j9 => nI (z.2.1 j9)))), (sa, .inl (cI, 36, .inl (fun j9 => nI (z.2.2.1 j9)))), (oa, .inl (cI, 400, .inl z.2.2.2.1)), (ma, .inl (cI, 20, .inl rm)), (oj, .inl (cJ, 1, .inr (.inl ou)))]) := by
  unfold h_bes at hR
  by_cases h1 : r_out w (nI (j_refr x y n st z rm rc).1.2.2.2.2) = true
  · rw [if_pos h1] at hR
    subst hR
    exact l1_L_beside l hst9 dC dI c0 m0 s0 g0 ra sa oa ma xa ya cI oj cJ ou x y st z rm rc n w i ln lr ls0 h1 _ rfl
  · rw [if_neg h1] at hR
    have hq := hst.2.1
    obtain ⟨k, hk, rfl⟩ := r_out_f (by omega) (v_bt h1)
    rw [nI_clamp (by omega)] at hR
    have hk9 := hst.2.2.1 k hk
    by_cases h3 : r_out i (nI ((j_refr x y n st z rm rc).1.2.2.1 (k + 1) - (j_refr x y n st z rm rc).1.2.2.1 k)) = true
    · rw [if_pos h3] at hR
      subst hR
      exact l2_L_beside l hst9 dC dI c0 m0 s0 g0 ra sa oa ma xa ya cI oj cJ ou x y st z rm rc n k i ln lr ls0 hst hk h3 _ rfl
    · rw [if_neg h3] at hR
      obtain ⟨t, ht, rfl⟩ := r_out_f (by omega) (v_bt h3)
      subst hR
      exact lR_L_beside l hst9 dC dI c0 m0 s0 g0 ra sa oa ma xa ya cI oj cJ ou x y st z rm rc n k t ln lr ls0 hst hk ht _ rfl
set_option maxHeartbeats 4000000 in
set_option maxRecDepth 100000 in
theorem l_L_hull (l : Launch) (hst9 : l.stackTraces = false) (dC : Nat → ClassId) (dI : Nat → Nat → Nat) (c0 m0 s0 g0 ra sa oa ma xa ya : Nat) (cI : ClassId) (oj : Nat) (cJ : ClassId) (ou : Nat → Int64) (x y : Nat → Int32) (st : Int32) (z : (Int32 × Int32 × Int64 × Int64 × Int64) × (Nat → Nat) × (Nat → Nat) × (Nat → Int32) × Nat) (rm : Nat → Int32) (rc n : Nat) (i : Int32) (ln : n ≤ 20) (lr : ∀ j, z.2.1 j < 20) (ls0 : z.2.2.1 0 = 0) (hst : j_st (j_refr x y n st z rm rc)) (R : Int32 × (Nat → Int64)) (hR : h_hul ou i (j_refr x y n st z rm rc) = R) : Met l yL_hull wsL_hull ({ frames := 8, cells := 1, slots := 6, locals := 158 }) (q_Py (dC, dI) [.ref c0, .int i, .ref oj] [(c0, .inr (3, [.ref s0, .ref m0, .int st])), (m0, .inr (1, [.ref s0, .ref g0, .ref ra, .ref sa, .ref oa, .int (nI z.2.2.2.2), .ref ma, .int (nI rc)])), (g0, .inr (0, [.int z.1.1, .int z.1.2.1, .long z.1.2.2.1, .long z.1.2.2.2.1, .long z.1.2.2.2.2])), (s0, .inr (2, [.ref xa, .ref ya, .int (nI n)])), (xa, .inl (cI, 20, .inl x)), (ya, .inl (cI, 20, .inl y)), (ra, .inl (cI, 105, .inl (fun j9 => nI (z.2.1 j9)))), (sa, .inl (cI, 36, .inl (fun j9 => nI (z.2.2.1 j9)))), (oa, .inl (cI, 400, .inl z.2.2.2.1)), (ma, .inl (cI, 20, .inl rm)), (oj, .inl (cJ, 1, .inr (.inl ou)))] [(cI, .int), (cJ, .long)]) (q_Qm (dC, dI) (q_in [(c0, .inr (3, [.ref s0, .ref m0, .int st])), (m0, .inr (1, [.ref s0, .ref g0, .ref ra, .ref sa, .ref oa, .int (nI z.2.2.2.2), .ref ma, .int (nI rc)])), (g0, .inr (0, [.int z.1.1, .int z.1.2.1, .long z.1.2.2.1, .long z.1.2.2.2.1, .long z.1.2.2.2.2])), (s0, .inr (2, [.ref xa, .ref ya, .int (nI n)])), (xa, .inl (cI, 20, .inl x)), (ya, .inl (cI, 20, .inl y)), (ra, .inl (cI, 105, .inl (fun j9 => nI (z.2.1 j9)))), (sa, .inl (cI, 36, .inl (fun j9 => nI (z.2.2.1 j9)))), (oa, .inl (cI, 400, .inl z.2.2.2.1)), (ma, .inl (cI, 20, .inl rm)), (oj, .inl (cJ, 1, .inr (.inl ou)))]) (some (.int R.1)) [(c0, .inr (3, [.ref s0, .ref m0, .int 0])), (m0, .inr (1, [.ref s0, .ref g0, .ref ra, .ref sa, .ref oa, .int (nI ((j_refr x y n st z rm rc).1.2.2.2.2)), .ref ma, .int (nI ((j_refr x y n st z rm rc).2.2))])), (g0, .inr (0, [.int ((j_refr x y n st z rm rc).1.1.1), .int ((j_refr x y n st z rm rc).1.1.2.1), .long ((j_refr x y n st z rm rc).1.1.2.2.1), .long ((j_refr x y n st z rm rc).1.1.2.2.2.1), .long ((j_refr x y n st z rm rc).1.1.2.2.2.2)])), (s0, .inr (2, [.ref xa, .ref ya, .int (nI n)])), (xa, .inl (cI, 20, .inl x)), (ya, .inl (cI, 20, .inl y)), (ra, .inl (cI, 105, .inl (fun j9 => nI ((j_refr x y n st z rm rc).1.2.1 j9)))), (sa, .inl (cI, 36, .inl (fun j9 => nI ((j_refr x y n st z rm rc).1.2.2.1 j9)))), (oa, .inl (cI, 400, .inl ((j_refr x y n st z rm rc).1.2.2.2.1))), (ma, .inl (cI, 20, .inl ((j_refr x y n st z rm rc).2.1))), (oj, .inl (cJ, 1, .inr (.inl R.2)))]) 1 6 (q_in [(c0, .inr (3, [.ref s0, .ref m0, .int st])), (m0, .inr (1, [.ref s0, .ref g0, .ref ra, .ref sa, .ref oa, .int (nI z.2.2.2.2), .ref ma, .int (nI rc)])), (g0, .inr (0, [.int z.1.1, .int z.1.2.1, .long z.1.2.2.1, .long z.1.2.2.2.1, .long z.1.2.2.2.2])), (s0, .inr (2, [.ref xa, .ref ya, .int (nI n)])), (xa, .inl (cI, 20, .inl x)), (ya, .inl (cI, 20, .inl y)), (ra, .inl (cI, 105, .inl (fun j9 => nI (z.2.1 j9)))), (sa, .inl (cI, 36, .inl (fun j9 => nI (z.2.2.1 j9)))), (oa, .inl (cI, 400, .inl z.2.2.2.1)), (ma, .inl (cI, 20, .inl rm)), (oj, .inl (cJ, 1, .inr (.inl ou)))]) := by
  unfold h_hul at hR
  by_cases h2 : i = -1
  · rw [if_pos h2] at hR
    subst hR
    exact lR_L_hull l hst9 dC dI c0 m0 s0 g0 ra sa oa ma xa ya cI oj cJ ou x y st z rm rc n i ln lr ls0 hst (Or.inl h2) _ rfl
  · rw [if_neg h2] at hR
    by_cases h3 : r_out i (nI (j_refr x y n st z rm rc).2.2) = true
    · rw [if_pos h3] at hR
      subst hR
      exact l1_L_hull l hst9 dC dI c0 m0 s0 g0 ra sa oa ma xa ya cI oj cJ ou x y st z rm rc n i ln lr ls0 h2 h3 _ rfl
    · rw [if_neg h3] at hR
      subst hR
      exact lR_L_hull l hst9 dC dI c0 m0 s0 g0 ra sa oa ma xa ya cI oj cJ ou x y st z rm rc n i ln lr ls0 hst (Or.inr (v_bt h3)) _ rfl
set_option maxHeartbeats 4000000 in
set_option maxRecDepth 100000 in
theorem l_L_around (l : Launch) (hst9 : l.stackTraces = false) (dC : Nat → ClassId) (dI : Nat → Nat → Nat) (c0 m0 s0 g0 ra sa oa ma xa ya : Nat) (cI : ClassId) (oj : Nat) (cJ : ClassId) (ou : Nat → Int64) (x y : Nat → Int32) (st : Int32) (z : (Int32 × Int32 × Int64 × Int64 × Int64) × (Nat → Nat) × (Nat → Nat) × (Nat → Int32) × Nat) (rm : Nat → Int32) (rc n : Nat) (px py : Int32) (ln : n ≤ 20) (lr : ∀ j, z.2.1 j < 20) (ls0 : z.2.2.1 0 = 0) (hst : j_st (j_refr x y n st z rm rc)) (R : Int32 × (Nat → Int64) × Int32 × h_Z) (hR : h_aro ou x y st px py (z, rm, rc) (j_refr x y n st z rm rc) = R) : Met l yL_around wsL_around ({ frames := 8, cells := 1, slots := 6, locals := 159 }) (q_Py (dC, dI) [.ref c0, .int px, .int py, .ref oj] [(c0, .inr (3, [.ref s0, .ref m0, .int st])), (m0, .inr (1, [.ref s0, .ref g0, .ref ra, .ref sa, .ref oa, .int (nI z.2.2.2.2), .ref ma, .int (nI rc)])), (g0, .inr (0, [.int z.1.1, .int z.1.2.1, .long z.1.2.2.1, .long z.1.2.2.2.1, .long z.1.2.2.2.2])), (s0, .inr (2, [.ref xa, .ref ya, .int (nI n)])), (xa, .inl (cI, 20, .inl x)), (ya, .inl (cI, 20, .inl y)), (ra, .inl (cI, 105, .inl (fun j9 => nI (z.2.1 j9)))), (sa, .inl (cI, 36, .inl (fun j9 => nI (z.2.2.1 j9)))), (oa, .inl (cI, 400, .inl z.2.2.2.1)), (ma, .inl (cI, 20, .inl rm)), (oj, .inl (cJ, 1, .inr (.inl ou)))] [(cI, .int), (cJ, .long)]) (q_Qm (dC, dI) (q_in [(c0, .inr (3, [.ref s0, .ref m0, .int st])), (m0, .inr (1, [.ref s0, .ref g0, .ref ra, .ref sa, .ref oa, .int (nI z.2.2.2.2), .ref ma, .int (nI rc)])), (g0, .inr (0, [.int z.1.1, .int z.1.2.1, .long z.1.2.2.1, .long z.1.2.2.2.1, .long z.1.2.2.2.2])), (s0, .inr (2, [.ref xa, .ref ya, .int (nI n)])), (xa, .inl (cI, 20, .inl x)), (ya, .inl (cI, 20, .inl y)), (ra, .inl (cI, 105, .inl (fun j9 => nI (z.2.1 j9)))), (sa, .inl (cI, 36, .inl (fun j9 => nI (z.2.2.1 j9)))), (oa, .inl (cI, 400, .inl z.2.2.2.1)), (ma, .inl (cI, 20, .inl rm)), (oj, .inl (cJ, 1, .inr (.inl ou)))]) (some (.int R.1)) [(c0, .inr (3, [.ref s0, .ref m0, .int R.2.2.1])), (m0, .inr (1, [.ref s0, .ref g0, .ref ra, .ref sa, .ref oa, .int (nI R.2.2.2.1.2.2.2.2), .ref ma, .int (nI R.2.2.2.2.2)])), (g0, .inr (0, [.int R.2.2.2.1.1.1, .int R.2.2.2.1.1.2.1, .long R.2.2.2.1.1.2.2.1, .long R.2.2.2.1.1.2.2.2.1, .long R.2.2.2.1.1.2.2.2.2])), (s0, .inr (2, [.ref xa, .ref ya, .int (nI n)])), (xa, .inl (cI, 20, .inl x)), (ya, .inl (cI, 20, .inl y)), (ra, .inl (cI, 105, .inl (fun j9 => nI (R.2.2.2.1.2.1 j9)))), (sa, .inl (cI, 36, .inl (fun j9 => nI (R.2.2.2.1.2.2.1 j9)))), (oa, .inl (cI, 400, .inl R.2.2.2.1.2.2.2.1)), (ma, .inl (cI, 20, .inl R.2.2.2.2.1)), (oj, .inl (cJ, 1, .inr (.inl R.2.1)))]) 1 6 (q_in [(c0, .inr (3, [.ref s0, .ref m0, .int st])), (m0, .inr (1, [.ref s0, .ref g0, .ref ra, .ref sa, .ref oa, .int (nI z.2.2.2.2), .ref ma, .int (nI rc)])), (g0, .inr (0, [.int z.1.1, .int z.1.2.1, .long z.1.2.2.1, .long z.1.2.2.2.1, .long z.1.2.2.2.2])), (s0, .inr (2, [.ref xa, .ref ya, .int (nI n)])), (xa, .inl (cI, 20, .inl x)), (ya, .inl (cI, 20, .inl y)), (ra, .inl (cI, 105, .inl (fun j9 => nI (z.2.1 j9)))), (sa, .inl (cI, 36, .inl (fun j9 => nI (z.2.2.1 j9)))), (oa, .inl (cI, 400, .inl z.2.2.2.1)), (ma, .inl (cI, 20, .inl rm)), (oj, .inl (cJ, 1, .inr (.inl ou)))]) := by
  unfold h_aro at hR
  by_cases h1 : r_far px py = true
  · rw [if_pos h1] at hR
    subst hR
    exact l1_L_around l hst9 dC dI c0 m0 s0 g0 ra sa oa ma xa ya cI oj cJ ou x y st z rm rc n px py h1
  · rw [if_neg h1] at hR
    subst hR
    exact lR_L_around l hst9 dC dI c0 m0 s0 g0 ra sa oa ma xa ya cI oj cJ ou x y st z rm rc n px py ln lr ls0 hst (v_bt h1) _ rfl
set_option maxHeartbeats 4000000 in
set_option maxRecDepth 100000 in
theorem l_L_centre (l : Launch) (hst9 : l.stackTraces = false) (dC : Nat → ClassId) (dI : Nat → Nat → Nat) (c0 m0 s0 g0 ra sa oa ma xa ya : Nat) (cI : ClassId) (oj : Nat) (cJ : ClassId) (ou : Nat → Int64) (x y : Nat → Int32) (st : Int32) (z : (Int32 × Int32 × Int64 × Int64 × Int64) × (Nat → Nat) × (Nat → Nat) × (Nat → Int32) × Nat) (rm : Nat → Int32) (rc n : Nat) (w t : Int32) (ln : n ≤ 20) (lr : ∀ j, z.2.1 j < 20) (ls0 : z.2.2.1 0 = 0) (hst : j_st (j_refr x y n st z rm rc)) (hI : v_I x y n) (hg : ∀ k, k < (j_refr x y n st z rm rc).1.2.2.2.2 → 0 < g_t (w_X x) (w_X y) ((j_refr x y n st z rm rc).1.2.1 ((j_refr x y n st z rm rc).1.2.2.1 k + 0)) ((j_refr x y n st z rm rc).1.2.1 ((j_refr x y n st z rm rc).1.2.2.1 k + 1)) ((j_refr x y n st z rm rc).1.2.1 ((j_refr x y n st z rm rc).1.2.2.1 k + 2))) (R : Int32 × (Nat → Int64) × Int32 × h_Z) (hR : h_cen ou x y st w t (z, rm, rc) (j_refr x y n st z rm rc) = R) : Met l yL_centre wsL_centre ({ frames := 8, cells := 1, slots := 6, locals := 159 }) (q_Py (dC, dI) [.ref c0, .int w, .int t, .ref oj] [(c0, .inr (3, [.ref s0, .ref m0, .int st])), (m0, .inr (1, [.ref s0, .ref g0, .ref ra, .ref sa, .ref oa, .int (nI z.2.2.2.2), .ref ma, .int (nI rc)])), (g0, .inr (0, [.int z.1.1, .int z.1.2.1, .long z.1.2.2.1, .long z.1.2.2.2.1, .long z.1.2.2.2.2])), (s0, .inr (2, [.ref xa, .ref ya, .int (nI n)])), (xa, .inl (cI, 20, .inl x)), (ya, .inl (cI, 20, .inl y)), (ra, .inl (cI, 105, .inl (fun j9 => nI (z.2.1 j9)))), (sa, .inl (cI, 36, .inl (fun j9 => nI (z.2.2.1 j9)))), (oa, .inl (cI, 400, .inl z.2.2.2.1)), (ma, .inl (cI, 20, .inl rm)), (oj, .inl (cJ, 1, .inr (.inl ou)))] [(cI, .int), (cJ, .long)]) (q_Qm (dC, dI) (q_in [(c0, .inr (3, [.ref s0, .ref m0, .int st])), (m0, .inr (1, [.ref s0, .ref g0, .ref ra, .ref sa, .ref oa, .int (nI z.2.2.2.2), .ref ma, .int (nI rc)])), (g0, .inr (0, [.int z.1.1, .int z.1.2.1, .long z.1.2.2.1, .long z.1.2.2.2.1, .long z.1.2.2.2.2])), (s0, .inr (2, [.ref xa, .ref ya, .int (nI n)])), (xa, .inl (cI, 20, .inl x)), (ya, .inl (cI, 20, .inl y)), (ra, .inl (cI, 105, .inl (fun j9 => nI (z.2.1 j9)))), (sa, .inl (cI, 36, .inl (fun j9 => nI (z.2.2.1 j9)))), (oa, .inl (cI, 400, .inl z.2.2.2.1)), (ma, .inl (cI, 20, .inl rm)), (oj, .inl (cJ, 1, .inr (.inl ou)))]) (some (.int R.1)) [(c0, .inr (3, [.ref s0, .ref m0, .int R.2.2.1])), (m0, .inr (1, [.ref s0, .ref g0, .ref ra, .ref sa, .ref oa, .int (nI R.2.2.2.1.2.2.2.2), .ref ma, .int (nI R.2.2.2.2.2)])), (g0, .inr (0, [.int R.2.2.2.1.1.1, .int R.2.2.2.1.1.2.1, .long R.2.2.2.1.1.2.2.1, .long R.2.2.2.1.1.2.2.2.1, .long R.2.2.2.1.1.2.2.2.2])), (s0, .inr (2, [.ref xa, .ref ya, .int (nI n)])), (xa, .inl (cI, 20, .inl x)), (ya, .inl (cI, 20, .inl y)), (ra, .inl (cI, 105, .inl (fun j9 => nI (R.2.2.2.1.2.1 j9)))), (sa, .inl (cI, 36, .inl (fun j9 => nI (R.2.2.2.1.2.2.1 j9)))), (oa, .inl (cI, 400, .inl R.2.2.2.1.2.2.2.1)), (ma, .inl (cI, 20, .inl R.2.2.2.2.1)), (oj, .inl (cJ, 1, .inr (.inl R.2.1)))]) 1 6 (q_in [(c0, .inr (3, [.ref s0, .ref m0, .int st])), (m0, .inr (1, [.ref s0, .ref g0, .ref ra, .ref sa, .ref oa, .int (nI z.2.2.2.2), .ref ma, .int (nI rc)])), (g0, .inr (0, [.int z.1.1, .int z.1.2.1, .long z.1.2.2.1, .long z.1.2.2.2.1, .long z.1.2.2.2.2])), (s0, .inr (2, [.ref xa, .ref ya, .int (nI n)])), (xa, .inl (cI, 20, .inl x)), (ya, .inl (cI, 20, .inl y)), (ra, .inl (cI, 105, .inl (fun j9 => nI (z.2.1 j9)))), (sa, .inl (cI, 36, .inl (fun j9 => nI (z.2.2.1 j9)))), (oa, .inl (cI, 400, .inl z.2.2.2.1)), (ma, .inl (cI, 20, .inl rm)), (oj, .inl (cJ, 1, .inr (.inl ou)))]) := by
  unfold h_cen at hR
  by_cases h1 : r_out t 3 = true
  · rw [if_pos h1] at hR
    subst hR
    exact l1_L_centre l hst9 dC dI c0 m0 s0 g0 ra sa oa ma xa ya cI oj cJ ou x y st z rm rc n w t h1
  · rw [if_neg h1] at hR
    by_cases h2 : r_out w (nI (j_refr x y n st z rm rc).1.2.2.2.2) = true
    · rw [if_pos h2] at hR
      subst hR
      exact l2_L_centre l hst9 dC dI c0 m0 s0 g0 ra sa oa ma xa ya cI oj cJ ou x y st z rm rc n w t ln lr ls0 (v_bt h1) h2 _ rfl
    · rw [if_neg h2] at hR
      have hq := hst.2.1
      obtain ⟨k, hk, rfl⟩ := r_out_f (by omega) (v_bt h2)
      rw [j_layW, nI_clamp (by omega)] at hR
      obtain ⟨sn, s1, s2, s3, s4, s5, s6⟩ := v_cen hI (hg k hk)
      rw [← s6 t] at hR
      subst hR
      exact lR_L_centre l hst9 dC dI c0 m0 s0 g0 ra sa oa ma xa ya cI oj cJ ou x y st z rm rc n k t sn ln lr ls0 hst hk (v_bt h1) s1 s2 s3 s4 _ rfl
