/-! The answers, one by one. -/
def v_I (x y : Nat → Int32) (n : Nat) : Prop := n ≤ 20 ∧ (∀ s, -400 ≤ (x s).toInt ∧ (x s).toInt ≤ 400 ∧ -400 ≤ (y s).toInt ∧ (y s).toInt ≤ 400) ∧ g_dis (w_X x) (w_X y) n
theorem v_I_box {x y : Nat → Int32} {n : Nat} (h : v_I x y n) : g_box (w_X x) (w_X y) n := fun s _ => h.2.1 s
theorem v_far {px py : Int32} (h : r_far px py = false) : -400 ≤ px.toInt ∧ px.toInt ≤ 400 ∧ -400 ≤ py.toInt ∧ py.toInt ≤ 400 := by
  have c1 : (-400 : Int32).toInt = -400 := by decide
  have c2 : (400 : Int32).toInt = 400 := by decide
  unfold r_far at h
  split at h
  · exact Bool.noConfusion h
  · rename_i h1
    split at h
    · exact Bool.noConfusion h
    · rename_i h2
      split at h
      · exact Bool.noConfusion h
      · rename_i h3
        split at h
        · rename_i h4
          rw [Int32.lt_iff_toInt_lt, c1] at h1 h3
          rw [Int32.lt_iff_toInt_lt, c2] at h2
          rw [Int32.le_iff_toInt_le, c2] at h4
          omega
        · exact Bool.noConfusion h
theorem v_num (x y : Nat → Int32) (n : Nat) (px py : Int32) : ∀ f k, n ≤ k + f → (∃ j, k ≤ j ∧ j < n ∧ x j = px ∧ y j = py ∧ j_num x y n px py k = nI j) ∨ ((∀ j, k ≤ j → j < n → ¬ (x j = px ∧ y j = py)) ∧ j_num x y n px py k = -1) := by
  intro f
  induction f with
  | zero => intro k h; rw [j_num, if_neg (by omega)]; exact Or.inr ⟨fun j h1 h2 => absurd h2 (by omega), rfl⟩
  | succ f ih =>
    intro k h
    by_cases hk : k < n
    · have skip : ¬ (x k = px ∧ y k = py) → j_num x y n px py k = j_num x y n px py (k + 1) → (∃ j, k ≤ j ∧ j < n ∧ x j = px ∧ y j = py ∧ j_num x y n px py k = nI j) ∨ ((∀ j, k ≤ j → j < n → ¬ (x j = px ∧ y j = py)) ∧ j_num x y n px py k = -1) := fun h1 h2 => by
        rw [h2]
        rcases ih (k + 1) (by omega) with ⟨j, j1, j2⟩ | ⟨j1, j2⟩
        · exact Or.inl ⟨j, by omega, j2⟩
        · refine Or.inr ⟨fun j c1 c2 c3 => ?_, j2⟩
          by_cases h3 : j = k
          · subst h3; exact h1 c3
          · exact j1 j (by omega) c2 c3
      by_cases h1 : x k = px
      · by_cases h2 : y k = py
        · exact Or.inl ⟨k, Nat.le_refl _, hk, h1, h2, by rw [j_num, if_pos hk, if_pos h1, if_pos h2]⟩
        · exact skip (fun h9 => h2 h9.2) (by rw [j_num, if_pos hk, if_pos h1, if_neg h2])
      · exact skip (fun h9 => h1 h9.1) (by rw [j_num, if_pos hk, if_neg h1])
    · rw [j_num, if_neg hk]
      exact Or.inr ⟨fun j h1 h2 => absurd h2 (by omega), rfl⟩
theorem v_taken (x y : Nat → Int32) (n : Nat) (px py b : Int32) : ∀ f k t, n ≤ k + f → (r_taken x y n px py b t k = true ↔ t = true ∨ ∃ j, k ≤ j ∧ j < n ∧ ¬ nI j = b ∧ x j = px ∧ y j = py) := by
  intro f
  induction f with
  | zero =>
    intro k t h
    rw [r_taken, if_neg (by omega)]
    exact ⟨fun h1 => Or.inl h1, fun h1 => h1.elim id (fun ⟨j, j1, j2, _⟩ => by omega)⟩
  | succ f ih =>
    intro k t h
    by_cases hk : k < n
    · rw [r_taken, if_pos hk]
      have skip : ¬ (¬ nI k = b ∧ x k = px ∧ y k = py) → ((t = true ∨ ∃ j, k + 1 ≤ j ∧ j < n ∧ ¬ nI j = b ∧ x j = px ∧ y j = py) ↔ (t = true ∨ ∃ j, k ≤ j ∧ j < n ∧ ¬ nI j = b ∧ x j = px ∧ y j = py)) := fun h1 => by
        constructor
        · rintro (h2 | ⟨j, j1, j2⟩)
          · exact Or.inl h2
          · exact Or.inr ⟨j, by omega, j2⟩
        · rintro (h2 | ⟨j, j1, j2, j3⟩)
          · exact Or.inl h2
          · by_cases h3 : j = k
            · subst h3; exact absurd j3 h1
            · exact Or.inr ⟨j, by omega, j2, j3⟩
      by_cases ht : t = true
      · rw [if_pos ht, ih (k + 1) true (by omega)]
        exact ⟨fun _ => Or.inl ht, fun _ => Or.inl rfl⟩
      · rw [if_neg ht]
        have ht : t = false := by cases t with | false => rfl | true => exact absurd rfl ht
        subst ht
        by_cases h1 : nI k = b
        · rw [if_pos h1, ih (k + 1) false (by omega), skip (fun h9 => h9.1 h1)]
        · rw [if_neg h1]
          by_cases h2 : x k = px
          · rw [if_pos h2]
            by_cases h3 : y k = py
            · rw [if_pos h3, ih (k + 1) true (by omega)]
              exact ⟨fun _ => Or.inr ⟨k, Nat.le_refl _, hk, h1, h2, h3⟩, fun _ => Or.inl rfl⟩
            · rw [if_neg h3, ih (k + 1) false (by omega), skip (fun h9 => h3 h9.2.2)]
          · rw [if_neg h2, ih (k + 1) false (by omega), skip (fun h9 => h2 h9.2.1)]
    · rw [r_taken, if_neg hk]
      exact ⟨fun h1 => Or.inl h1, fun h1 => h1.elim id (fun ⟨j, j1, j2, _⟩ => by omega)⟩
section VA
variable {x y : Nat → Int32} {n : Nat}
theorem v_bt {b : Bool} (h : ¬ b = true) : b = false := by cases b with | false => rfl | true => exact absurd rfl h
theorem v_bf {b : Bool} (h : ¬ b = false) : b = true := by cases b with | true => rfl | false => exact absurd rfl h
/-- a place is taken for the one as for the other -/
theorem v_tak (hn : n ≤ 20) (px py : Int32) : r_taken x y n px py (-1) false 0 = true ↔ ¬ j_num x y n px py 0 = -1 := by
  rw [v_taken x y n px py (-1) n 0 false (by omega)]
  rcases v_num x y n px py n 0 (by omega) with ⟨j, _, j2, j3, j4, j5⟩ | ⟨j1, j2⟩
  · rw [j5]
    exact ⟨fun _ => nI_m1 (by omega), fun _ => Or.inr ⟨j, by omega, j2, nI_m1 (by omega), j3, j4⟩⟩
  · rw [j2]
    refine ⟨fun h => ?_, fun h => absurd rfl h⟩
    rcases h with h | ⟨j, _, c2, _, c3⟩
    · exact Bool.noConfusion h
    · exact absurd c3 (j1 j (by omega) c2)
theorem v_tak2 (hI : v_I x y n) (px py : Int32) {k : Nat} (hk : k < n) : r_taken x y n px py (nI k) false 0 = true ↔ ¬ j_num x y n px py 0 = -1 ∧ ¬ j_num x y n px py 0 = nI k := by
  have hn := hI.1
  rw [v_taken x y n px py (nI k) n 0 false (by omega)]
  rcases v_num x y n px py n 0 (by omega) with ⟨j, _, j2, j3, j4, j5⟩ | ⟨j1, j2⟩
  · rw [j5]
    constructor
    · rintro (h | ⟨i, _, i2, i3, i4, i5⟩)
      · exact Bool.noConfusion h
      · refine ⟨nI_m1 (by omega), fun h9 => ?_⟩
        have e := hI.2.2 i j i2 j2 ⟨by show (x i).toInt = (x j).toInt; rw [i4, j3], by show (y i).toInt = (y j).toInt; rw [i5, j4]⟩
        subst e
        exact i3 h9
    · rintro ⟨_, h2⟩
      exact Or.inr ⟨j, by omega, j2, h2, j3, j4⟩
  · rw [j2]
    constructor
    · rintro (h | ⟨i, _, i2, _, i4⟩)
      · exact Bool.noConfusion h
      · exact absurd i4 (j1 i (by omega) i2)
    · rintro ⟨h, _⟩
      exact absurd rfl h
theorem v_I_0 {n : Nat} (h : v_I x y n) : v_I x y 0 := ⟨by omega, h.2.1, fun i j hi => absurd hi (Nat.not_lt_zero _)⟩
theorem v_ub {g : Nat → Int32} {k : Nat} {v : Int32} (h : ∀ s, -400 ≤ (g s).toInt ∧ (g s).toInt ≤ 400) (hv : -400 ≤ v.toInt ∧ v.toInt ≤ 400) : ∀ s, -400 ≤ (upd g k v s).toInt ∧ (upd g k v s).toInt ≤ 400 := fun s => by
  by_cases h9 : s = k
  · subst h9
    rw [show upd g s v s = v from if_pos rfl]
    exact hv
  · rw [show upd g k v s = g s from if_neg h9]
    exact h s
theorem v_I_site (h : v_I x y n) (hn : n < 20) {px py : Int32} (hf : r_far px py = false) (hj : j_num x y n px py 0 = -1) : v_I (upd x n px) (upd y n py) (n + 1) := by
  have hb := v_far hf
  have hno : ∀ j, j < n → ¬ (x j = px ∧ y j = py) := by
    rcases v_num x y n px py n 0 (by omega) with ⟨j, _, j2, _, _, j5⟩ | ⟨j1, _⟩
    · rw [j5] at hj
      exact absurd hj (nI_m1 (by omega))
    · exact fun j hj => j1 j (by omega) hj
  refine ⟨by omega, fun s => ?_, fun i j hi hj9 he => ?_⟩
  · have a1 := v_ub (g := x) (k := n) (v := px) (fun s => ⟨(h.2.1 s).1, (h.2.1 s).2.1⟩) ⟨hb.1, hb.2.1⟩ s
    have a2 := v_ub (g := y) (k := n) (v := py) (fun s => ⟨(h.2.1 s).2.2.1, (h.2.1 s).2.2.2⟩) ⟨hb.2.2.1, hb.2.2.2⟩ s
    exact ⟨a1.1, a1.2, a2.1, a2.2⟩
  · have ex : (upd x n px i).toInt = (upd x n px j).toInt := he.1
    have ey : (upd y n py i).toInt = (upd y n py j).toInt := he.2
    have ex := Int32.toInt_inj.mp ex
    have ey := Int32.toInt_inj.mp ey
    by_cases h1 : i = n
    · by_cases h2 : j = n
      · rw [h1, h2]
      · rw [show upd x n px j = x j from if_neg h2, show upd x n px i = px from if_pos h1] at ex
        rw [show upd y n py j = y j from if_neg h2, show upd y n py i = py from if_pos h1] at ey
        exact absurd ⟨ex.symm, ey.symm⟩ (hno j (by omega))
    · by_cases h2 : j = n
      · rw [show upd x n px i = x i from if_neg h1, show upd x n px j = px from if_pos h2] at ex
        rw [show upd y n py i = y i from if_neg h1, show upd y n py j = py from if_pos h2] at ey
        exact absurd ⟨ex, ey⟩ (hno i (by omega))
      · rw [show upd x n px i = x i from if_neg h1, show upd x n px j = x j from if_neg h2] at ex
        rw [show upd y n py i = y i from if_neg h1, show upd y n py j = y j from if_neg h2] at ey
        exact h.2.2 i j (by omega) (by omega) ⟨by show (x i).toInt = (x j).toInt; rw [ex], by show (y i).toInt = (y j).toInt; rw [ey]⟩
theorem v_I_move (h : v_I x y n) {k : Nat} (hk : k < n) {px py : Int32} (hf : r_far px py = false) (hj : j_num x y n px py 0 = -1 ∨ j_num x y n px py 0 = nI k) : v_I (upd x k px) (upd y k py) n := by
  have hb := v_far hf
  have hn := h.1
  have hno : ∀ j, j < n → ¬ j = k → ¬ (x j = px ∧ y j = py) := by
    rcases v_num x y n px py n 0 (by omega) with ⟨j, _, j2, j3, j4, j5⟩ | ⟨j1, _⟩
    · rw [j5] at hj
      rcases hj with hj | hj
      · exact absurd hj (nI_m1 (by omega))
      · have := (nI_eq (by omega) (by omega)).mp hj
        subst this
        intro i hi hne hx
        exact hne (h.2.2 i j hi j2 ⟨by show (x i).toInt = (x j).toInt; rw [hx.1, j3], by show (y i).toInt = (y j).toInt; rw [hx.2, j4]⟩)
    · exact fun j hj _ => j1 j (by omega) hj
  refine ⟨hn, fun s => ?_, fun i j hi hj9 he => ?_⟩
  · have a1 := v_ub (g := x) (k := k) (v := px) (fun s => ⟨(h.2.1 s).1, (h.2.1 s).2.1⟩) ⟨hb.1, hb.2.1⟩ s
    have a2 := v_ub (g := y) (k := k) (v := py) (fun s => ⟨(h.2.1 s).2.2.1, (h.2.1 s).2.2.2⟩) ⟨hb.2.2.1, hb.2.2.2⟩ s
    exact ⟨a1.1, a1.2, a2.1, a2.2⟩
  · have ex : (upd x k px i).toInt = (upd x k px j).toInt := he.1
    have ey : (upd y k py i).toInt = (upd y k py j).toInt := he.2
    have ex := Int32.toInt_inj.mp ex
    have ey := Int32.toInt_inj.mp ey
    by_cases h1 : i = k
    · by_cases h2 : j = k
      · rw [h1, h2]
      · rw [show upd x k px j = x j from if_neg h2, show upd x k px i = px from if_pos h1] at ex
        rw [show upd y k py j = y j from if_neg h2, show upd y k py i = py from if_pos h1] at ey
        exact absurd ⟨ex.symm, ey.symm⟩ (hno j hj9 h2)
    · by_cases h2 : j = k
      · rw [show upd x k px i = x i from if_neg h1, show upd x k px j = px from if_pos h2] at ex
        rw [show upd y k py i = y i from if_neg h1, show upd y k py j = py from if_pos h2] at ey
        exact absurd ⟨ex, ey⟩ (hno i hi h1)
      · rw [show upd x k px i = x i from if_neg h1, show upd x k px j = x j from if_neg h2] at ex
        rw [show upd y k py i = y i from if_neg h1, show upd y k py j = y j from if_neg h2] at ey
        exact h.2.2 i j hi hj9 ⟨by show (x i).toInt = (x j).toInt; rw [ex], by show (y i).toInt = (y j).toInt; rw [ey]⟩
theorem v_drop (n : Nat) : ∀ f t (x y : Nat → Int32), n ≤ t + f → j_drop n x y (t + 1) = r_rem n x y t := by
  intro f
  induction f with
  | zero => intro t x y h; rw [j_drop, r_rem, if_neg (by omega), if_neg (by omega)]
  | succ f ih =>
    intro t x y h
    rw [j_drop, r_rem]
    by_cases h1 : t + 1 < n
    · rw [if_pos h1, if_pos h1]
      show j_drop n (upd x t (x (t + 1))) (upd y t (y (t + 1))) (t + 1 + 1) = _
      exact ih (t + 1) _ _ (by omega)
    · rw [if_neg h1, if_neg h1]
theorem v_rem (n : Nat) : ∀ f t (x y : Nat → Int32), n ≤ t + f → ∀ i, (r_rem n x y t).1 i = (if t ≤ i ∧ i + 1 < n then x (i + 1) else x i) ∧ (r_rem n x y t).2 i = (if t ≤ i ∧ i + 1 < n then y (i + 1) else y i) := by
  intro f
  induction f with
  | zero => intro t x y h i; rw [r_rem, if_neg (by omega), if_neg (by omega), if_neg (by omega)]; exact ⟨rfl, rfl⟩
  | succ f ih =>
    intro t x y h i
    rw [r_rem]
    by_cases h1 : t + 1 < n
    · rw [if_pos h1]
      have := ih (t + 1) (upd x t (x (t + 1))) (upd y t (y (t + 1))) (by omega) i
      rw [this.1, this.2]
      by_cases h2 : i = t
      · subst h2
        rw [if_neg (show ¬ (i + 1 ≤ i ∧ i + 1 < n) by omega), if_neg (show ¬ (i + 1 ≤ i ∧ i + 1 < n) by omega), if_pos (show i ≤ i ∧ i + 1 < n by omega), if_pos (show i ≤ i ∧ i + 1 < n by omega)]
        exact ⟨if_pos rfl, if_pos rfl⟩
      · by_cases h3 : t ≤ i ∧ i + 1 < n
        · rw [if_pos (show t + 1 ≤ i ∧ i + 1 < n by omega), if_pos (show t + 1 ≤ i ∧ i + 1 < n by omega), if_pos h3, if_pos h3]
          exact ⟨if_neg (by omega), if_neg (by omega)⟩
        · rw [if_neg (show ¬ (t + 1 ≤ i ∧ i + 1 < n) by omega), if_neg (show ¬ (t + 1 ≤ i ∧ i + 1 < n) by omega), if_neg h3, if_neg h3]
          exact ⟨if_neg h2, if_neg h2⟩
    · rw [if_neg h1, if_neg (by omega), if_neg (by omega)]
      exact ⟨rfl, rfl⟩
theorem v_I_rem (h : v_I x y n) {k : Nat} (hk : k < n) : v_I (r_rem n x y k).1 (r_rem n x y k).2 (n - 1) := by
  have hr := v_rem n n k x y (by omega)
  refine ⟨by have := h.1; omega, fun s => ?_, fun i j hi hj he => ?_⟩
  · rw [(hr s).1, (hr s).2]
    split
    · exact h.2.1 (s + 1)
    · exact h.2.1 s
  · have ex : ((r_rem n x y k).1 i).toInt = ((r_rem n x y k).1 j).toInt := he.1
    have ey : ((r_rem n x y k).2 i).toInt = ((r_rem n x y k).2 j).toInt := he.2
    rw [(hr i).1, (hr j).1] at ex
    rw [(hr i).2, (hr j).2] at ey
    by_cases h1 : k ≤ i ∧ i + 1 < n
    · rw [if_pos h1] at ex ey
      by_cases h2 : k ≤ j ∧ j + 1 < n
      · rw [if_pos h2] at ex ey
        have := h.2.2 (i + 1) (j + 1) (by omega) (by omega) ⟨ex, ey⟩
        omega
      · rw [if_neg h2] at ex ey
        have := h.2.2 (i + 1) j (by omega) (by omega) ⟨ex, ey⟩
        omega
    · rw [if_neg h1] at ex ey
      by_cases h2 : k ≤ j ∧ j + 1 < n
      · rw [if_pos h2] at ex ey
        have := h.2.2 i (j + 1) (by omega) (by omega) ⟨ex, ey⟩
        omega
      · rw [if_neg h2] at ex ey
        exact h.2.2 i j (by omega) (by omega) ⟨ex, ey⟩
theorem v_near (h : v_I x y n) {px py : Int32} (hf : r_far px py = false) : ∀ f b k, n ≤ k + f → j_near x y n px py b k = r_near x y n px py b k := by
  have hb := v_far hf
  have dx : ∀ s, w_i (x s - px) ((x s).toInt - px.toInt) 800 := fun s => w_i_sub (B := 400) (C := 400) ⟨rfl, by have := h.2.1 s; omega⟩ ⟨rfl, by omega⟩ (by decide)
  have dy : ∀ s, w_i (y s - py) ((y s).toInt - py.toInt) 800 := fun s => w_i_sub (B := 400) (C := 400) ⟨rfl, by have := h.2.1 s; omega⟩ ⟨rfl, by omega⟩ (by decide)
  have e1 : ∀ s, w_i (j_sq x y s px py) (((x s).toInt - px.toInt) * ((x s).toInt - px.toInt) + ((y s).toInt - py.toInt) * ((y s).toInt - py.toInt)) 1280000 := fun s => w_i_add (w_i_mul (dx s) (dx s) (by decide)) (w_i_mul (dy s) (dy s) (by decide)) (by decide)
  have e2 : ∀ s, w_l (r_sqP x y s px py) (((x s).toInt - px.toInt) * ((x s).toInt - px.toInt) + ((y s).toInt - py.toInt) * ((y s).toInt - py.toInt)) 1280000 := fun s => w_l_add (w_l_mul (w_il (dx s)) (w_il (dx s)) (by decide)) (w_l_mul (w_il (dy s)) (w_il (dy s)) (by decide)) (by decide)
  have e3 : ∀ b k, j_sq x y b px py ≤ j_sq x y k px py ↔ r_sqP x y b px py ≤ r_sqP x y k px py := fun b k => by
    rw [Int32.le_iff_toInt_le, Int64.le_iff_toInt_le, (e1 b).1, (e1 k).1, (e2 b).1, (e2 k).1]
  intro f
  induction f with
  | zero => intro b k h1; rw [j_near, r_near, if_neg (by omega), if_neg (by omega)]
  | succ f ih =>
    intro b k h1
    rw [j_near, r_near]
    by_cases h2 : k < n
    · rw [if_pos h2, if_pos h2]
      by_cases h3 : j_sq x y b px py ≤ j_sq x y k px py
      · rw [if_pos h3, if_pos ((e3 b k).mp h3)]
        exact ih b (k + 1) (by omega)
      · rw [if_neg h3, if_neg (fun h9 => h3 ((e3 b k).mpr h9))]
        exact ih k (k + 1) (by omega)
    · rw [if_neg h2, if_neg h2]
theorem v_pt (h : v_I x y n) {px py : Int32} (hf : r_far px py = false) (a b : Nat) : 0 ≤ j_turn x y a b px py ↔ ¬ r_turn x y a b px py < 0 := by
  have hb := v_far hf
  have X : ∀ s, w_i (x s) (x s).toInt 400 := fun s => ⟨rfl, by have := h.2.1 s; omega⟩
  have Y : ∀ s, w_i (y s) (y s).toInt 400 := fun s => ⟨rfl, by have := h.2.1 s; omega⟩
  have PX : w_i px px.toInt 400 := ⟨rfl, by omega⟩
  have PY : w_i py py.toInt 400 := ⟨rfl, by omega⟩
  have bx := w_i_sub (X b) (X a) (by decide)
  have bY := w_i_sub (Y b) (Y a) (by decide)
  have qx := w_i_sub PX (X a) (by decide)
  have qy := w_i_sub PY (Y a) (by decide)
  have e1 : w_i (j_turn x y a b px py) _ _ := w_i_sub (w_i_mul bx qy (by decide)) (w_i_mul bY qx (by decide)) (by decide)
  have e2 : w_l (r_turn x y a b px py) _ _ := w_l_sub (w_l_mul (w_il bx) (w_il qy) (by decide)) (w_l_mul (w_il bY) (w_il qx) (by decide)) (by decide)
  rw [w_i_ge e1, w_l_lt e2]
  omega
theorem v_ai_f {sz rd : Nat → Nat} {d : Nat} {px py : Int32} : ∀ f i, sz d ≤ i + f → r_ai x y sz rd d px py false i = false := by
  intro f
  induction f with
  | zero => intro i h; rw [r_ai, if_neg (by omega)]
  | succ f ih =>
    intro i h
    rw [r_ai]
    split
    · rw [if_pos rfl]
      exact ih (i + 1) (by omega)
    · rfl
theorem v_holds (h : v_I x y n) {px py : Int32} (hf : r_far px py = false) {rg sr sz rd : Nat → Nat} {k d : Nat} (hm : sr (k + 1) - sr k = sz d) (he : ∀ i, i < sz d → rg (sr k + i) = rd (20 * d + i) ∧ j_after rg sr k i = r_after sz rd d i) : ∀ f i, sz d ≤ i + f → j_holds x y rg sr k px py i = r_ai x y sz rd d px py true i := by
  intro f
  induction f with
  | zero => intro i h1; rw [j_holds, r_ai, if_neg (by omega), if_neg (by omega)]
  | succ f ih =>
    intro i h1
    rw [j_holds, r_ai]
    by_cases h2 : i < sz d
    · rw [if_pos (by omega), if_pos h2, if_neg (fun h9 => Bool.noConfusion h9), (he i h2).1, (he i h2).2]
      by_cases h3 : 0 ≤ j_turn x y (rd (20 * d + i)) (r_after sz rd d i) px py
      · rw [if_pos h3, if_neg ((v_pt h hf _ _).mp h3)]
        exact ih (i + 1) (by omega)
      · rw [if_neg h3, if_pos (by
          by_cases h9 : r_turn x y (rd (20 * d + i)) (r_after sz rd d i) px py < 0
          · exact h9
          · exact absurd ((v_pt h hf _ _).mpr h9) h3), v_ai_f (sz d) (i + 1) (by omega)]
    · rw [if_neg (by omega), if_neg h2]
theorem v_first (h : v_I x y n) {px py : Int32} (hf : r_far px py = false) {rg sr sz rd od : Nat → Nat} {q : Nat} (ha : ∀ k, k < q → sr (k + 1) - sr k = sz (od k) ∧ ∀ i, i < sz (od k) → rg (sr k + i) = rd (20 * od k + i) ∧ j_after rg sr k i = r_after sz rd (od k) i) : ∀ f k, q ≤ k + f → j_first x y rg sr q px py k = r_ao x y od sz rd q px py k := by
  intro f
  induction f with
  | zero => intro k h1; rw [j_first, r_ao, if_neg (by omega), if_neg (by omega)]
  | succ f ih =>
    intro k h1
    rw [j_first, r_ao]
    by_cases h2 : k < q
    · rw [if_pos h2, if_pos h2, v_holds h hf (ha k h2).1 (ha k h2).2 (sz (od k)) 0 (by omega), ih (k + 1) (by omega)]
    · rw [if_neg h2, if_neg h2]
theorem v_cd : ∀ r f a b, b < 2 ^ r → 2 * r + 1 ≤ f → j_cd f a b = Nat.gcd a b := by
  intro r
  induction r with
  | zero =>
    intro f a b h1 h2
    have hb : b = 0 := by omega
    subst hb
    cases f with
    | zero => omega
    | succ f => rw [j_cd, if_pos rfl, Nat.gcd_zero_right]
  | succ r ih =>
    intro f a b h1 h2
    cases f with
    | zero => omega
    | succ f =>
      rw [j_cd]
      split
      · rename_i h3
        subst h3
        rw [Nat.gcd_zero_right]
      · rename_i h3
        cases f with
        | zero => omega
        | succ f =>
          rw [j_cd]
          have hg : Nat.gcd a b = Nat.gcd b (a % b) := by rw [Nat.gcd_comm a b, Nat.gcd_rec b a, Nat.gcd_comm]
          split
          · rename_i h4
            rw [hg, h4, Nat.gcd_zero_right]
          · rename_i h4
            have hc : a % b < b := Nat.mod_lt _ (by omega)
            have hlt : b % (a % b) < 2 ^ r := by
              have e1 := Nat.mod_lt b (show 0 < a % b by omega)
              have e2 := Nat.div_add_mod b (a % b)
              have e3 : 1 ≤ b / (a % b) := Nat.div_pos (by omega) (by omega)
              have e4 : a % b * 1 ≤ a % b * (b / (a % b)) := Nat.mul_le_mul_left _ e3
              rw [Nat.pow_succ] at h1
              omega
            rw [ih f (a % b) (b % (a % b)) hlt (by omega), hg, Nat.gcd_comm b (a % b), Nat.gcd_rec (a % b) b, Nat.gcd_comm]
end VA
