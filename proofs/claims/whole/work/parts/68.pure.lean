/-! A step of the law, as pure words: what class and reference answer, and what they keep. -/
def v_LI (x y : Nat → Int32) (n : Nat) (st : Int32) (z : (Int32 × Int32 × Int64 × Int64 × Int64) × (Nat → Nat) × (Nat → Nat) × (Nat → Int32) × Nat) (rm : Nat → Int32) (rc : Nat) (md : Int32) (sz rd : Nat → Nat) (q : Nat) (od hu : Nat → Nat) (hz : Nat) : Prop :=
  v_I x y n ∧ z.2.2.1 0 = 0 ∧ (∀ j, z.2.1 j < 20) ∧ (st = 0 → v_C x y n (z, rm, rc)) ∧ (∀ j, od j < 60) ∧ (∀ j, sz j ≤ 20) ∧ (∀ j, rd j < 20) ∧ (md = 0 ∨ v_M x y n (md, (sz, rd, q), od, hu, hz))
def h_site (ou : Nat → Int64) (x y : Nat → Int32) (n : Nat) (st px py : Int32) : Int32 × (Nat → Int64) × Nat × (Nat → Int32) × (Nat → Int32) × Int32 :=
  if r_far px py = true then (1, ou, n, x, y, st) else if j_num x y n px py 0 = -1 then (if n < 20 then (0, vp_updL ou 0 (nI n).toInt64, n + 1, upd x n px, upd y n py, 1) else (2, ou, n, x, y, st)) else (1, ou, n, x, y, st)
def h_rem (x y : Nat → Int32) (n : Nat) (st w : Int32) : Int32 × Nat × (Nat → Int32) × (Nat → Int32) × Int32 :=
  if r_out w (nI n) = true then (1, n, x, y, st) else (0, n - 1, (j_drop n x y (w.toNatClampNeg + 1)).1, (j_drop n x y (w.toNatClampNeg + 1)).2, 1)
def h_mov (x y : Nat → Int32) (n : Nat) (st w px py : Int32) : Int32 × (Nat → Int32) × (Nat → Int32) × Int32 :=
  if r_out w (nI n) = true then (1, x, y, st) else if r_far px py = true then (1, x, y, st) else if j_num x y n px py 0 = -1 ∨ j_num x y n px py 0 = w then (0, upd x w.toNatClampNeg px, upd y w.toNatClampNeg py, 1) else (1, x, y, st)
def h_whe (ou : Nat → Int64) (x y : Nat → Int32) (n : Nat) (w t : Int32) : Int32 × (Nat → Int64) :=
  if r_out w (nI n) = true then (1, ou) else if t = 0 ∨ t = 1 then (0, vp_updL ou 0 (if t = 0 then x w.toNatClampNeg else y w.toNatClampNeg).toInt64) else (1, ou)
def h_nea (ou : Nat → Int64) (x y : Nat → Int32) (n : Nat) (px py : Int32) : Int32 × (Nat → Int64) :=
  if r_far px py = true then (1, ou) else if n = 0 then (2, ou) else (0, vp_updL ou 0 (nI (j_near x y n px py 0 1)).toInt64)
abbrev h_Z : Type := ((Int32 × Int32 × Int64 × Int64 × Int64) × (Nat → Nat) × (Nat → Nat) × (Nat → Int32) × Nat) × (Nat → Int32) × Nat
def h_cel (ou : Nat → Int64) (w i : Int32) (Z : h_Z) : Int32 × (Nat → Int64) :=
  if r_out w (nI Z.1.2.2.2.2) = true then (1, ou) else if i = -1 then (0, vp_updL ou 0 (j_celV w i Z).toInt64) else if r_out i (nI (Z.1.2.2.1 (w.toNatClampNeg + 1) - Z.1.2.2.1 w.toNatClampNeg)) = true then (2, ou) else (0, vp_updL ou 0 (j_celV w i Z).toInt64)
def h_bes (ou : Nat → Int64) (w i : Int32) (Z : h_Z) : Int32 × (Nat → Int64) :=
  if r_out w (nI Z.1.2.2.2.2) = true then (1, ou) else if r_out i (nI (Z.1.2.2.1 (w.toNatClampNeg + 1) - Z.1.2.2.1 w.toNatClampNeg)) = true then (2, ou) else (0, vp_updL ou 0 (j_besV w i Z).toInt64)
def h_hul (ou : Nat → Int64) (i : Int32) (Z : h_Z) : Int32 × (Nat → Int64) :=
  if i = -1 then (0, vp_updL ou 0 (j_hulV i Z).toInt64) else if r_out i (nI Z.2.2) = true then (1, ou) else (0, vp_updL ou 0 (j_hulV i Z).toInt64)
def h_aro (ou : Nat → Int64) (x y : Nat → Int32) (st px py : Int32) (Z0 Z : h_Z) : Int32 × (Nat → Int64) × Int32 × h_Z :=
  if r_far px py = true then (1, ou, st, Z0) else (0, vp_updL ou 0 (j_first x y Z.1.2.1 Z.1.2.2.1 Z.1.2.2.2.2 px py 0).toInt64, 0, Z)
def h_cen (ou : Nat → Int64) (x y : Nat → Int32) (st w t : Int32) (Z0 Z : h_Z) : Int32 × (Nat → Int64) × Int32 × h_Z :=
  if r_out t 3 = true then (2, ou, st, Z0) else if r_out w (nI Z.1.2.2.2.2) = true then (1, ou, 0, Z) else (0, vp_updL ou 0 (r_cval x y (Z.1.2.1 (Z.1.2.2.1 w.toNatClampNeg + 0)) (Z.1.2.1 (Z.1.2.2.1 w.toNatClampNeg + 1)) (Z.1.2.1 (Z.1.2.2.1 w.toNatClampNeg + 2)) t), 0, ((j_layW x y w Z, Z.1.2), Z.2))
theorem h_upd (ou : Nat → Int64) (v : Int64) : vp_updL ou 0 v 0 = v := if_pos rfl
theorem h_10 : ¬ (1 : Int32) = 0 := by decide
theorem h_20 : ¬ (2 : Int32) = 0 := by decide
section HA
variable {x y : Nat → Int32} {n : Nat} {st : Int32} {z : (Int32 × Int32 × Int64 × Int64 × Int64) × (Nat → Nat) × (Nat → Nat) × (Nat → Int32) × Nat} {rm : Nat → Int32} {rc : Nat} {md : Int32} {sz rd : Nat → Nat} {q : Nat} {od hu : Nat → Nat} {hz : Nat}
theorem h_chg {x' y' : Nat → Int32} {n' : Nat} (h : v_LI x y n st z rm rc md sz rd q od hu hz) (hI : v_I x' y' n') : v_LI x' y' n' 1 z rm rc 0 sz rd q od hu hz := by
  obtain ⟨_, h2, h3, _, h5, h6, h7, _⟩ := h
  exact ⟨hI, h2, h3, fun h9 => absurd h9 h_10, h5, h6, h7, Or.inl rfl⟩
theorem a_site (h : v_LI x y n st z rm rc md sz rd q od hu hz) (ou : Nat → Int64) (px py : Int32) : ∃ k ou' n' x' y' st' v md', h_site ou x y n st px py = (k, ou', n', x', y', st') ∧ r_siteR x y n px py md = (v, k, n', x', y', md') ∧ (k = 0 → ou' 0 = v.toInt64) ∧ v_LI x' y' n' st' z rm rc md' sz rd q od hu hz := by
  have hI := h.1
  unfold h_site r_siteR
  by_cases h1 : r_far px py = true
  · rw [if_pos h1, if_pos h1]
    exact ⟨_, _, _, _, _, _, _, _, rfl, rfl, fun h9 => absurd h9 h_10, h⟩
  · rw [if_neg h1, if_neg h1]
    by_cases h2 : j_num x y n px py 0 = -1
    · rw [if_pos h2, if_neg (fun h9 => (v_tak hI.1 px py).mp h9 h2)]
      by_cases h3 : n < 20
      · rw [if_pos h3, if_neg (by omega)]
        exact ⟨_, _, _, _, _, _, _, _, rfl, rfl, fun _ => h_upd _ _, h_chg h (v_I_site hI h3 (v_bt h1) h2)⟩
      · rw [if_neg h3, if_pos (by have := hI.1; omega)]
        exact ⟨_, _, _, _, _, _, _, _, rfl, rfl, fun h9 => absurd h9 h_20, h⟩
    · rw [if_neg h2, if_pos ((v_tak hI.1 px py).mpr h2)]
      exact ⟨_, _, _, _, _, _, _, _, rfl, rfl, fun h9 => absurd h9 h_10, h⟩
theorem a_rem (h : v_LI x y n st z rm rc md sz rd q od hu hz) (w : Int32) : ∃ k n' x' y' st' md', h_rem x y n st w = (k, n', x', y', st') ∧ r_remR x y n w md = (k, n', x', y', md') ∧ v_LI x' y' n' st' z rm rc md' sz rd q od hu hz := by
  have hI := h.1
  unfold h_rem r_remR
  by_cases h1 : r_out w (nI n) = true
  · rw [if_pos h1, if_pos h1]
    exact ⟨_, _, _, _, _, _, rfl, rfl, h⟩
  · rw [if_neg h1, if_neg h1]
    have hn := hI.1
    obtain ⟨k, hk, rfl⟩ := r_out_f (by omega) (v_bt h1)
    rw [nI_clamp (by omega), v_drop n n k x y (by omega)]
    exact ⟨_, _, _, _, _, _, rfl, rfl, h_chg h (v_I_rem hI hk)⟩
theorem a_mov (h : v_LI x y n st z rm rc md sz rd q od hu hz) (w px py : Int32) : ∃ k x' y' st' md', h_mov x y n st w px py = (k, x', y', st') ∧ r_movR x y n w px py md = (k, x', y', md') ∧ v_LI x' y' n st' z rm rc md' sz rd q od hu hz := by
  have hI := h.1
  unfold h_mov r_movR
  by_cases h1 : r_out w (nI n) = true
  · rw [if_pos h1, if_pos h1]
    exact ⟨_, _, _, _, _, rfl, rfl, h⟩
  · rw [if_neg h1, if_neg h1]
    have hn := hI.1
    obtain ⟨k, hk, rfl⟩ := r_out_f (by omega) (v_bt h1)
    by_cases h2 : r_far px py = true
    · rw [if_pos h2, if_pos h2]
      exact ⟨_, _, _, _, _, rfl, rfl, h⟩
    · rw [if_neg h2, if_neg h2, nI_clamp (by omega)]
      by_cases h3 : j_num x y n px py 0 = -1 ∨ j_num x y n px py 0 = nI k
      · rw [if_pos h3, if_neg (fun h9 => by
          have := (v_tak2 hI px py hk).mp h9
          exact h3.elim this.1 this.2)]
        exact ⟨_, _, _, _, _, rfl, rfl, h_chg h (v_I_move hI hk (v_bt h2) h3)⟩
      · rw [if_neg h3, if_pos ((v_tak2 hI px py hk).mpr ⟨fun h9 => h3 (Or.inl h9), fun h9 => h3 (Or.inr h9)⟩)]
        exact ⟨_, _, _, _, _, rfl, rfl, h⟩
theorem v_t2 (t : Int32) : r_out t 2 = false ↔ t = 0 ∨ t = 1 := by
  constructor
  · intro h
    obtain ⟨k, hk, rfl⟩ := r_out_f (n := 2) (by omega) h
    rcases (show k = 0 ∨ k = 1 by omega) with rfl | rfl
    · exact Or.inl rfl
    · exact Or.inr rfl
  · rintro (rfl | rfl)
    · rfl
    · rfl
theorem a_whe (h : v_LI x y n st z rm rc md sz rd q od hu hz) (ou : Nat → Int64) (w t : Int32) : ∃ k ou' v, h_whe ou x y n w t = (k, ou') ∧ r_wheR x y n w t = (v, k) ∧ (k = 0 → ou' 0 = v.toInt64) := by
  unfold h_whe r_wheR
  by_cases h1 : r_out w (nI n) = true
  · rw [if_pos h1, if_pos h1]
    exact ⟨_, _, _, rfl, rfl, fun h9 => absurd h9 h_10⟩
  · rw [if_neg h1, if_neg h1]
    by_cases h2 : t = 0 ∨ t = 1
    · have h2' : ¬ r_out t 2 = true := by rw [(v_t2 t).mpr h2]; exact fun h9 => Bool.noConfusion h9
      rw [if_pos h2, if_neg h2']
      by_cases h3 : t = 0
      · rw [if_pos h3, if_pos h3]
        exact ⟨_, _, _, rfl, rfl, fun _ => h_upd _ _⟩
      · rw [if_neg h3, if_neg h3]
        exact ⟨_, _, _, rfl, rfl, fun _ => h_upd _ _⟩
    · rw [if_neg h2, if_pos (v_bf (fun h9 => h2 ((v_t2 t).mp h9)))]
      exact ⟨_, _, _, rfl, rfl, fun h9 => absurd h9 h_10⟩
theorem a_nea (h : v_LI x y n st z rm rc md sz rd q od hu hz) (ou : Nat → Int64) (px py : Int32) : ∃ k ou' v, h_nea ou x y n px py = (k, ou') ∧ r_neaR x y n px py = (v, k) ∧ (k = 0 → ou' 0 = v.toInt64) := by
  unfold h_nea r_neaR
  by_cases h1 : r_far px py = true
  · rw [if_pos h1, if_pos h1]
    exact ⟨_, _, _, rfl, rfl, fun h9 => absurd h9 h_10⟩
  · rw [if_neg h1, if_neg h1]
    by_cases h2 : n = 0
    · rw [if_pos h2, if_pos h2]
      exact ⟨_, _, _, rfl, rfl, fun h9 => absurd h9 h_20⟩
    · rw [if_neg h2, if_neg h2, v_near h.1 (v_bt h1) n 0 1 (by omega)]
      exact ⟨_, _, _, rfl, rfl, fun _ => h_upd _ _⟩
/-- both made anew -/
theorem v_new (h : v_LI x y n st z rm rc md sz rd q od hu hz) : ∃ N, (md = 0 → r_good x y n sz rd od N) ∧ r_st (r_mkR x y n md sz rd q od hu hz N) ∧ v_M x y n (r_mkR x y n md sz rd q od hu hz N) ∧ v_C x y n (j_refr x y n st z rm rc) ∧ j_st (j_refr x y n st z rm rc) := by
  obtain ⟨hI, h2, h3, h4, h5, h6, h7, h8⟩ := h
  obtain ⟨N, c1, c2, c3, _⟩ := v_M_fresh (v_I_box hI) hI.2.2 hI.1 h5 h6 h7 h8
  have hC := v_C_fresh (v_I_box hI) hI.2.2 hI.1 h2 h3 h4
  exact ⟨N, c1, c3, c2, hC, v_C_st (v_I_box hI) hI.2.2 hI.1 hC⟩
theorem v_LIn {Z : h_Z} {M : Int32 × ((Nat → Nat) × (Nat → Nat) × Nat) × (Nat → Nat) × (Nat → Nat) × Nat} {st' : Int32} (hI : v_I x y n) (hC : v_C x y n Z) (hst : j_st Z) (hM : v_M x y n M) (hr : r_st M) : v_LI x y n st' Z.1 Z.2.1 Z.2.2 M.1 M.2.1.1 M.2.1.2.1 M.2.1.2.2 M.2.2.1 M.2.2.2.1 M.2.2.2.2 :=
  ⟨hI, v_C_0 hC, hst.1, fun _ => hC, hr.2.2.2.1, hr.1, hr.2.1, Or.inr hM⟩
theorem v_lt1 {i : Int32} (h : ¬ i < -1) (h2 : i < 0) : i = -1 := by
  have c1 : (-1 : Int32).toInt = -1 := by decide
  have c0 : (0 : Int32).toInt = 0 := rfl
  rw [Int32.lt_iff_toInt_lt, c1] at h
  rw [Int32.lt_iff_toInt_lt, c0] at h2
  apply Int32.toInt_inj.mp
  rw [c1]
  omega
theorem v_m1n {N : Nat} (h : N < 2 ^ 31) : (-1 : Int32) < nI N := by
  have c1 : (-1 : Int32).toInt = -1 := by decide
  rw [Int32.lt_iff_toInt_lt, c1, nI_toInt h]
  omega
theorem v_nm1 {t : Nat} (h : t < 2 ^ 31) : ¬ nI t < -1 := by
  have c1 : (-1 : Int32).toInt = -1 := by decide
  rw [Int32.lt_iff_toInt_lt, c1, nI_toInt h]
  omega
/-- an index that may be -1: the reference's question against the class's -/
theorem v_idx {i : Int32} {S : Nat} (hS : S < 2 ^ 31) (hi : ¬ i = -1) (hr : r_out i (nI S) = true) : i < -1 ∨ ¬ i < nI S := by
  by_cases h1 : i < -1
  · exact Or.inl h1
  · refine Or.inr (fun h2 => ?_)
    unfold r_out at hr
    by_cases h3 : i < 0
    · exact hi (v_lt1 h1 h3)
    · rw [if_neg h3, if_pos h2] at hr
      exact Bool.noConfusion hr
theorem a_cel (h : v_LI x y n st z rm rc md sz rd q od hu hz) (ou : Nat → Int64) (w i : Int32) : ∃ N k ou' v, (md = 0 → r_good x y n sz rd od N) ∧ r_st (r_mkR x y n md sz rd q od hu hz N) ∧ j_st (j_refr x y n st z rm rc) ∧ h_cel ou w i (j_refr x y n st z rm rc) = (k, ou') ∧ r_celR w i (r_mkR x y n md sz rd q od hu hz N) = (v, k, r_mkR x y n md sz rd q od hu hz N) ∧ (k = 0 → ou' 0 = v.toInt64) ∧ v_LI x y n 0 (j_refr x y n st z rm rc).1 (j_refr x y n st z rm rc).2.1 (j_refr x y n st z rm rc).2.2 (r_mkR x y n md sz rd q od hu hz N).1 (r_mkR x y n md sz rd q od hu hz N).2.1.1 (r_mkR x y n md sz rd q od hu hz N).2.1.2.1 (r_mkR x y n md sz rd q od hu hz N).2.1.2.2 (r_mkR x y n md sz rd q od hu hz N).2.2.1 (r_mkR x y n md sz rd q od hu hz N).2.2.2.1 (r_mkR x y n md sz rd q od hu hz N).2.2.2.2 := by
  obtain ⟨N, hG, hr, hM, hC, hs⟩ := v_new h
  have hI := h.1
  have ag := v_agree (v_I_box hI) hI.2.2 hI.1 hC hM
  have hL := v_LIn (st' := 0) hI hC hs hM hr
  refine ⟨N, ?_⟩
  generalize j_refr x y n st z rm rc = Z at hC hs ag hL ⊢
  generalize r_mkR x y n md sz rd q od hu hz N = M at hr hM ag hL ⊢
  have hq := hs.2.1
  unfold h_cel r_celR
  rw [← ag.1] at hL ⊢
  by_cases h1 : r_out w (nI Z.1.2.2.2.2) = true
  · rw [if_pos h1, if_pos h1]
    exact ⟨_, _, _, hG, hr, hs, rfl, rfl, fun h9 => absurd h9 h_10, hL⟩
  · rw [if_neg h1, if_neg h1]
    obtain ⟨k, hk, rfl⟩ := r_out_f (by omega) (v_bt h1)
    obtain ⟨e1, e2, e3, _⟩ := ag.2.1 k hk
    have hS20 := hr.1 (M.2.2.1 k)
    rw [nI_clamp (by omega), e1]
    by_cases h2 : i = -1
    · subst h2
      rw [if_pos rfl, if_neg (by decide), if_pos (v_m1n (by omega)), if_neg (by decide)]
      refine ⟨_, _, _, hG, hr, hs, rfl, rfl, fun _ => ?_, hL⟩
      rw [h_upd, j_celV, if_pos rfl, nI_clamp (by omega), e1]
    · rw [if_neg h2]
      by_cases h3 : r_out i (nI (M.2.1.1 (M.2.2.1 k))) = true
      · rw [if_pos h3]
        rcases v_idx (by omega) h2 h3 with h4 | h4
        · rw [if_pos h4]
          exact ⟨_, _, _, hG, hr, hs, rfl, rfl, fun h9 => absurd h9 h_20, hL⟩
        · by_cases h5 : i < -1
          · rw [if_pos h5]
            exact ⟨_, _, _, hG, hr, hs, rfl, rfl, fun h9 => absurd h9 h_20, hL⟩
          · rw [if_neg h5, if_neg h4]
            exact ⟨_, _, _, hG, hr, hs, rfl, rfl, fun h9 => absurd h9 h_20, hL⟩
      · rw [if_neg h3]
        obtain ⟨t, ht, rfl⟩ := r_out_f (by omega) (v_bt h3)
        rw [if_neg (v_nm1 (by omega)), if_pos ((nI_ltI (by omega) (by omega)).mpr ht), if_pos (nI_pos' (by omega)), nI_clamp (by omega)]
        refine ⟨_, _, _, hG, hr, hs, rfl, rfl, fun _ => ?_, hL⟩
        rw [h_upd, j_celV, if_neg h2, nI_clamp (by omega), nI_clamp (by omega), (e3 t ht).1]
theorem a_bes (h : v_LI x y n st z rm rc md sz rd q od hu hz) (ou : Nat → Int64) (w i : Int32) : ∃ N k ou' v, (md = 0 → r_good x y n sz rd od N) ∧ r_st (r_mkR x y n md sz rd q od hu hz N) ∧ j_st (j_refr x y n st z rm rc) ∧ h_bes ou w i (j_refr x y n st z rm rc) = (k, ou') ∧ r_besR w i (r_mkR x y n md sz rd q od hu hz N) = (v, k, r_mkR x y n md sz rd q od hu hz N) ∧ (k = 0 → ou' 0 = v.toInt64) ∧ v_LI x y n 0 (j_refr x y n st z rm rc).1 (j_refr x y n st z rm rc).2.1 (j_refr x y n st z rm rc).2.2 (r_mkR x y n md sz rd q od hu hz N).1 (r_mkR x y n md sz rd q od hu hz N).2.1.1 (r_mkR x y n md sz rd q od hu hz N).2.1.2.1 (r_mkR x y n md sz rd q od hu hz N).2.1.2.2 (r_mkR x y n md sz rd q od hu hz N).2.2.1 (r_mkR x y n md sz rd q od hu hz N).2.2.2.1 (r_mkR x y n md sz rd q od hu hz N).2.2.2.2 := by
  obtain ⟨N, hG, hr, hM, hC, hs⟩ := v_new h
  have hI := h.1
  have ag := v_agree (v_I_box hI) hI.2.2 hI.1 hC hM
  have hL := v_LIn (st' := 0) hI hC hs hM hr
  refine ⟨N, ?_⟩
  generalize j_refr x y n st z rm rc = Z at hC hs ag hL ⊢
  generalize r_mkR x y n md sz rd q od hu hz N = M at hr hM ag hL ⊢
  have hq := hs.2.1
  unfold h_bes r_besR
  rw [← ag.1] at hL ⊢
  by_cases h1 : r_out w (nI Z.1.2.2.2.2) = true
  · rw [if_pos h1, if_pos h1]
    exact ⟨_, _, _, hG, hr, hs, rfl, rfl, fun h9 => absurd h9 h_10, hL⟩
  · rw [if_neg h1, if_neg h1]
    obtain ⟨k, hk, rfl⟩ := r_out_f (by omega) (v_bt h1)
    obtain ⟨e1, e2, e3, _⟩ := ag.2.1 k hk
    have hS20 := hr.1 (M.2.2.1 k)
    rw [nI_clamp (by omega), e1]
    by_cases h3 : r_out i (nI (M.2.1.1 (M.2.2.1 k))) = true
    · rw [if_pos h3, if_pos h3]
      exact ⟨_, _, _, hG, hr, hs, rfl, rfl, fun h9 => absurd h9 h_20, hL⟩
    · rw [if_neg h3, if_neg h3]
      obtain ⟨t, ht, rfl⟩ := r_out_f (by omega) (v_bt h3)
      rw [nI_clamp (by omega)]
      refine ⟨_, _, _, hG, hr, hs, rfl, rfl, fun _ => ?_, hL⟩
      rw [h_upd, j_besV, nI_clamp (by omega), nI_clamp (by omega), (e3 t ht).2.2.2.2, ag.1]
theorem a_hul (h : v_LI x y n st z rm rc md sz rd q od hu hz) (ou : Nat → Int64) (i : Int32) : ∃ N k ou' v, (md = 0 → r_good x y n sz rd od N) ∧ r_st (r_mkR x y n md sz rd q od hu hz N) ∧ j_st (j_refr x y n st z rm rc) ∧ h_hul ou i (j_refr x y n st z rm rc) = (k, ou') ∧ r_hulR i (r_mkR x y n md sz rd q od hu hz N) = (v, k, r_mkR x y n md sz rd q od hu hz N) ∧ (k = 0 → ou' 0 = v.toInt64) ∧ v_LI x y n 0 (j_refr x y n st z rm rc).1 (j_refr x y n st z rm rc).2.1 (j_refr x y n st z rm rc).2.2 (r_mkR x y n md sz rd q od hu hz N).1 (r_mkR x y n md sz rd q od hu hz N).2.1.1 (r_mkR x y n md sz rd q od hu hz N).2.1.2.1 (r_mkR x y n md sz rd q od hu hz N).2.1.2.2 (r_mkR x y n md sz rd q od hu hz N).2.2.1 (r_mkR x y n md sz rd q od hu hz N).2.2.2.1 (r_mkR x y n md sz rd q od hu hz N).2.2.2.2 := by
  obtain ⟨N, hG, hr, hM, hC, hs⟩ := v_new h
  have hI := h.1
  have ag := v_agree (v_I_box hI) hI.2.2 hI.1 hC hM
  have hL := v_LIn (st' := 0) hI hC hs hM hr
  refine ⟨N, ?_⟩
  generalize j_refr x y n st z rm rc = Z at hC hs ag hL ⊢
  generalize r_mkR x y n md sz rd q od hu hz N = M at hr hM ag hL ⊢
  have hq := hs.2.2.2
  unfold h_hul r_hulR
  rw [← ag.2.2.1] at hL ⊢
  by_cases h2 : i = -1
  · subst h2
    rw [if_pos rfl, if_neg (by decide), if_pos (v_m1n (by omega)), if_neg (by decide)]
    refine ⟨_, _, _, hG, hr, hs, rfl, rfl, fun _ => ?_, hL⟩
    rw [h_upd, j_hulV, if_pos rfl]
  · rw [if_neg h2]
    by_cases h3 : r_out i (nI Z.2.2) = true
    · rw [if_pos h3]
      rcases v_idx (by omega) h2 h3 with h4 | h4
      · rw [if_pos h4]
        exact ⟨_, _, _, hG, hr, hs, rfl, rfl, fun h9 => absurd h9 h_10, hL⟩
      · by_cases h5 : i < -1
        · rw [if_pos h5]
          exact ⟨_, _, _, hG, hr, hs, rfl, rfl, fun h9 => absurd h9 h_10, hL⟩
        · rw [if_neg h5, if_neg h4]
          exact ⟨_, _, _, hG, hr, hs, rfl, rfl, fun h9 => absurd h9 h_10, hL⟩
    · rw [if_neg h3]
      obtain ⟨t, ht, rfl⟩ := r_out_f (by omega) (v_bt h3)
      rw [if_neg (v_nm1 (by omega)), if_pos ((nI_ltI (by omega) (by omega)).mpr ht), if_pos (nI_pos' (by omega)), nI_clamp (by omega)]
      refine ⟨_, _, _, hG, hr, hs, rfl, rfl, fun _ => ?_, hL⟩
      rw [h_upd, j_hulV, if_neg h2, nI_clamp (by omega), ag.2.2.2 t ht]
theorem a_aro (h : v_LI x y n st z rm rc md sz rd q od hu hz) (ou : Nat → Int64) (px py : Int32) : ∃ N k ou' v st' z' rm' rc' md' sz' rd' q' od' hu' hz', (md = 0 → r_good x y n sz rd od N) ∧ r_st (r_mkR x y n md sz rd q od hu hz N) ∧ j_st (j_refr x y n st z rm rc) ∧ h_aro ou x y st px py (z, rm, rc) (j_refr x y n st z rm rc) = (k, ou', st', z', rm', rc') ∧ r_aroR x y px py (md, (sz, rd, q), od, hu, hz) (r_mkR x y n md sz rd q od hu hz N) = (v, k, md', (sz', rd', q'), od', hu', hz') ∧ (k = 0 → ou' 0 = v.toInt64) ∧ v_LI x y n st' z' rm' rc' md' sz' rd' q' od' hu' hz' := by
  obtain ⟨N, hG, hr, hM, hC, hs⟩ := v_new h
  have hI := h.1
  have ag := v_agree (v_I_box hI) hI.2.2 hI.1 hC hM
  have hL := v_LIn (st' := 0) hI hC hs hM hr
  refine ⟨N, ?_⟩
  generalize j_refr x y n st z rm rc = Z at hC hs ag hL ⊢
  generalize r_mkR x y n md sz rd q od hu hz N = M at hr hM ag hL ⊢
  unfold h_aro r_aroR
  by_cases h1 : r_far px py = true
  · rw [if_pos h1, if_pos h1]
    exact ⟨_, _, _, _, _, _, _, _, _, _, _, _, _, _, hG, hr, hs, rfl, rfl, fun h9 => absurd h9 h_10, h⟩
  · rw [if_neg h1, if_neg h1]
    refine ⟨_, _, _, _, _, _, _, _, _, _, _, _, _, _, hG, hr, hs, rfl, rfl, fun _ => ?_, hL⟩
    rw [h_upd, ← ag.1, v_first hI (v_bt h1) (fun k hk => ⟨(ag.2.1 k hk).1, fun i hi => ⟨((ag.2.1 k hk).2.2.1 i hi).1, ((ag.2.1 k hk).2.2.1 i hi).2.2.1⟩⟩) Z.1.2.2.2.2 0 (by omega)]
theorem a_cen (h : v_LI x y n st z rm rc md sz rd q od hu hz) (ou : Nat → Int64) (w t : Int32) : ∃ N k ou' v st' z' rm' rc', (md = 0 → r_good x y n sz rd od N) ∧ r_st (r_mkR x y n md sz rd q od hu hz N) ∧ j_st (j_refr x y n st z rm rc) ∧ (∀ k, k < (r_mkR x y n md sz rd q od hu hz N).2.1.2.2 → 0 < (r_dd x y ((r_mkR x y n md sz rd q od hu hz N).2.1.2.1 (20 * (r_mkR x y n md sz rd q od hu hz N).2.2.1 k)) ((r_mkR x y n md sz rd q od hu hz N).2.1.2.1 (20 * (r_mkR x y n md sz rd q od hu hz N).2.2.1 k + 1)) ((r_mkR x y n md sz rd q od hu hz N).2.1.2.1 (20 * (r_mkR x y n md sz rd q od hu hz N).2.2.1 k + 2))).toInt.natAbs) ∧ (∀ k, k < (j_refr x y n st z rm rc).1.2.2.2.2 → 0 < g_t (w_X x) (w_X y) ((j_refr x y n st z rm rc).1.2.1 ((j_refr x y n st z rm rc).1.2.2.1 k + 0)) ((j_refr x y n st z rm rc).1.2.1 ((j_refr x y n st z rm rc).1.2.2.1 k + 1)) ((j_refr x y n st z rm rc).1.2.1 ((j_refr x y n st z rm rc).1.2.2.1 k + 2))) ∧ h_cen ou x y st w t (z, rm, rc) (j_refr x y n st z rm rc) = (k, ou', st', z', rm', rc') ∧ r_cenR x y w t (r_mkR x y n md sz rd q od hu hz N) = (v, k, r_mkR x y n md sz rd q od hu hz N) ∧ (k = 0 → ou' 0 = v) ∧ v_LI x y n st' z' rm' rc' (r_mkR x y n md sz rd q od hu hz N).1 (r_mkR x y n md sz rd q od hu hz N).2.1.1 (r_mkR x y n md sz rd q od hu hz N).2.1.2.1 (r_mkR x y n md sz rd q od hu hz N).2.1.2.2 (r_mkR x y n md sz rd q od hu hz N).2.2.1 (r_mkR x y n md sz rd q od hu hz N).2.2.2.1 (r_mkR x y n md sz rd q od hu hz N).2.2.2.2 := by
  obtain ⟨N, hG, hr, hM, hC, hs⟩ := v_new h
  have hI := h.1
  have ag := v_agree (v_I_box hI) hI.2.2 hI.1 hC hM
  have hL := v_LIn (st' := 0) hI hC hs hM hr
  refine ⟨N, ?_⟩
  generalize j_refr x y n st z rm rc = Z at hC hs ag hL ⊢
  generalize r_mkR x y n md sz rd q od hu hz N = M at hr hM ag hL ⊢
  have hq := hs.2.1
  have hg : ∀ k, k < Z.1.2.2.2.2 → 0 < g_t (w_X x) (w_X y) (Z.1.2.1 (Z.1.2.2.1 k + 0)) (Z.1.2.1 (Z.1.2.2.1 k + 1)) (Z.1.2.1 (Z.1.2.2.1 k + 2)) := fun k hk => (ag.2.1 k hk).2.2.2
  have en : ∀ k, k < Z.1.2.2.2.2 → Z.1.2.1 (Z.1.2.2.1 k + 0) = M.2.1.2.1 (20 * M.2.2.1 k) ∧ Z.1.2.1 (Z.1.2.2.1 k + 1) = M.2.1.2.1 (20 * M.2.2.1 k + 1) ∧ Z.1.2.1 (Z.1.2.2.1 k + 2) = M.2.1.2.1 (20 * M.2.2.1 k + 2) := fun k hk => by
    have e2 := (ag.2.1 k hk).2.1
    exact ⟨((ag.2.1 k hk).2.2.1 0 (by omega)).1, ((ag.2.1 k hk).2.2.1 1 (by omega)).1, ((ag.2.1 k hk).2.2.1 2 (by omega)).1⟩
  have hdd : ∀ k, k < M.2.1.2.2 → 0 < (r_dd x y (M.2.1.2.1 (20 * M.2.2.1 k)) (M.2.1.2.1 (20 * M.2.2.1 k + 1)) (M.2.1.2.1 (20 * M.2.2.1 k + 2))).toInt.natAbs := fun k hk => by
    rw [← ag.1] at hk
    have e := en k hk
    rw [← e.1, ← e.2.1, ← e.2.2]
    obtain ⟨_, _, _, _, _, h5, _⟩ := v_cen hI (hg k hk)
    exact h5
  unfold h_cen r_cenR
  by_cases h1 : r_out t 3 = true
  · rw [if_pos h1, if_pos h1]
    refine ⟨_, _, _, _, _, _, _, hG, hr, hs, hdd, hg, rfl, rfl, fun h9 => absurd h9 h_20, ?_⟩
    obtain ⟨_, h2, h3, h4, _⟩ := h
    exact ⟨hI, h2, h3, h4, hL.2.2.2.2⟩
  · rw [if_neg h1, if_neg h1, ← ag.1]
    by_cases h2 : r_out w (nI Z.1.2.2.2.2) = true
    · rw [if_pos h2, if_pos h2]
      exact ⟨_, _, _, _, _, _, _, hG, hr, hs, by rw [ag.1]; exact hdd, hg, rfl, rfl, fun h9 => absurd h9 h_10, by rw [ag.1]; exact hL⟩
    · rw [if_neg h2, if_neg h2]
      obtain ⟨k, hk, rfl⟩ := r_out_f (by omega) (v_bt h2)
      rw [nI_clamp (by omega)]
      have e := en k hk
      refine ⟨_, _, _, _, _, _, _, hG, hr, hs, by rw [ag.1]; exact hdd, hg, rfl, rfl, fun _ => ?_, ?_⟩
      · rw [h_upd, e.1, e.2.1, e.2.2]
      · rw [ag.1]
        obtain ⟨_, l2, l3, l4, l5⟩ := hL
        exact ⟨hI, l2, l3, l4, l5⟩
theorem a_cls (h : v_LI x y n st z rm rc md sz rd q od hu hz) : ∃ N, (md = 0 → r_good x y n sz rd od N) ∧ r_st (r_mkR x y n md sz rd q od hu hz N) ∧ (j_refr x y n st z rm rc).1.2.2.2.2 = (r_mkR x y n md sz rd q od hu hz N).2.1.2.2 ∧ v_LI x y n 0 (j_refr x y n st z rm rc).1 (j_refr x y n st z rm rc).2.1 (j_refr x y n st z rm rc).2.2 (r_mkR x y n md sz rd q od hu hz N).1 (r_mkR x y n md sz rd q od hu hz N).2.1.1 (r_mkR x y n md sz rd q od hu hz N).2.1.2.1 (r_mkR x y n md sz rd q od hu hz N).2.1.2.2 (r_mkR x y n md sz rd q od hu hz N).2.2.1 (r_mkR x y n md sz rd q od hu hz N).2.2.2.1 (r_mkR x y n md sz rd q od hu hz N).2.2.2.2 := by
  obtain ⟨N, hG, hr, hM, hC, hs⟩ := v_new h
  have hI := h.1
  have ag := v_agree (v_I_box hI) hI.2.2 hI.1 hC hM
  exact ⟨N, hG, hr, ag.1, v_LIn (st' := 0) hI hC hs hM hr⟩
end HA
