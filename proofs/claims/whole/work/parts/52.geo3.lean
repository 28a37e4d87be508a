/-! Sides of cells and the hull. -/
theorem g_min (P : Nat → Prop) (R : Nat → Nat → Prop) (irr : ∀ s, ¬ R s s) : ∀ n, (∃ s, s < n ∧ P s) → (∀ p q r, p < n → q < n → r < n → P p → P q → P r → R p q → R q r → R p r) → ∃ m, m < n ∧ P m ∧ ∀ s, s < n → P s → ¬ R s m := by
  intro n
  induction n with
  | zero => intro h _; obtain ⟨s, h1, _⟩ := h; exact absurd h1 (Nat.not_lt_zero _)
  | succ n ih =>
    intro h tr
    by_cases h1 : ∃ s, s < n ∧ P s
    · obtain ⟨m, m1, m2, m3⟩ := ih h1 (fun p q r hp hq hr => tr p q r (by omega) (by omega) (by omega))
      by_cases h2 : P n ∧ R n m
      · refine ⟨n, Nat.lt_succ_self n, h2.1, fun s s1 s2 s3 => ?_⟩
        by_cases h3 : s = n
        · subst h3; exact irr _ s3
        · exact m3 s (by omega) s2 (tr s n m s1 (by omega) (by omega) s2 h2.1 m2 s3 h2.2)
      · refine ⟨m, by omega, m2, fun s s1 s2 s3 => ?_⟩
        by_cases h3 : s = n
        · subst h3; exact h2 ⟨s2, s3⟩
        · exact m3 s (by omega) s2 s3
    · obtain ⟨s, s1, s2⟩ := h
      have h3 : s = n := by
        by_cases h3 : s = n
        · exact h3
        · exact absurd ⟨s, by omega, s2⟩ h1
      subst h3
      refine ⟨s, s1, s2, fun z z1 z2 z3 => ?_⟩
      by_cases h4 : z = s
      · subst h4; exact irr _ z3
      · exact h1 ⟨z, by omega, z2⟩
section GEO
variable (X Y : Nat → Int) (n : Nat)
def g_emp (a b c : Nat) : Prop := a < n ∧ b < n ∧ c < n ∧ 0 < g_t X Y a b c ∧ ∀ s, s < n → 0 ≤ g_i X Y a b c s
def g_side (u v : Nat) : Prop := ∃ c, g_emp X Y n u v c ∧ ∀ s, s < n → g_i X Y u v c s = 0 → 0 ≤ g_t X Y u v s
def g_bd (u v : Nat) : Prop := g_side X Y n u v ∧ ¬ g_side X Y n v u
def g_dis : Prop := ∀ i j, i < n → j < n → g_eq X Y i j → i = j
variable {X Y n}
theorem g_emp_tr {a b c p q r : Nat} (h : g_emp X Y n a b c) (hp : p < n) (hq : q < n) (hr : r < n) (h0 : 0 < g_t X Y p q r) (h1 : g_i X Y a b c p = 0) (h2 : g_i X Y a b c q = 0) (h3 : g_i X Y a b c r = 0) : g_emp X Y n p q r ∧ ∀ s, g_i X Y p q r s = 0 ↔ g_i X Y a b c s = 0 := by
  have h4 := g_same X Y (show ¬ g_t X Y p q r = 0 by omega) h1 h2 h3
  obtain ⟨_, _, _, k1, k2⟩ := h
  refine ⟨⟨hp, hq, hr, h0, fun s hs => ?_⟩, fun s => ⟨fun h5 => ?_, fun h5 => ?_⟩⟩
  · have := Int.mul_nonneg (show 0 ≤ g_t X Y p q r by omega) (k2 s hs)
    rw [← h4 s] at this
    exact g_nn k1 this
  · have h6 := h4 s
    rw [h5, Int.mul_zero] at h6
    exact g_zz (by omega) h6.symm
  · have h6 := h4 s
    rw [h5, Int.mul_zero] at h6
    exact g_zz (by omega) h6
theorem g_uniq {u v c d : Nat} (h : g_emp X Y n u v c) (h' : g_emp X Y n u v d) (s : Nat) : g_i X Y u v c s = 0 ↔ g_i X Y u v d s = 0 := by
  have h1 := h.2.2.2.2 d h'.2.2.1
  have h2 := h'.2.2.2.2 c h.2.2.1
  have h3 : g_i X Y u v d c = - g_i X Y u v c d := by unfold g_i; grind
  have h4 : g_i X Y u v c d = 0 := by omega
  exact ((g_emp_tr h h'.1 h'.2.1 h'.2.2.1 h'.2.2.2.1 (g_i_a X Y u v c) (g_i_b X Y u v c) h4).2 s).symm
theorem g_emp_ne {a b c : Nat} (h : g_emp X Y n a b c) : ¬ g_eq X Y a b := fun h9 => by
  have : g_t X Y a b c = 0 := by unfold g_t; rw [h9.1, h9.2]; grind
  have := h.2.2.2.1
  omega
theorem g_side_ne {u v : Nat} (h : g_side X Y n u v) : ¬ u = v := by
  obtain ⟨c, h1, _⟩ := h
  exact fun h9 => g_emp_ne h1 (by subst h9; exact ⟨rfl, rfl⟩)
/-- in a row with a side, none lies between its ends -/
theorem g_emp_u {u v c s : Nat} (h : g_emp X Y n u v c) (hs : s < n) (ht : g_t X Y u v s = 0) : 0 ≤ g_u X Y u v s := by
  have h1 := h.2.2.2.2 s hs
  unfold g_i at h1
  rw [ht, Int.mul_zero, Int.sub_zero] at h1
  exact g_nn h.2.2.2.1 h1
theorem g_bd_left {u v : Nat} (h : g_bd X Y n u v) (s : Nat) (hs : s < n) : 0 ≤ g_t X Y u v s := by
  obtain ⟨⟨c, hc, hc2⟩, hn⟩ := h
  by_cases h0 : 0 ≤ g_t X Y u v s
  · exact h0
  · exfalso
    have fl : ∀ d e, g_i X Y v u d e = - g_i X Y u v d e := by
      intro d e
      unfold g_i
      rw [g_t_flip X Y u v, g_t_flip X Y u v, g_u_f X Y u v, g_u_f X Y u v]
      grind
    obtain ⟨d, d1, d2, d3⟩ := g_min (fun d => 0 < g_t X Y v u d) (fun p q => g_i X Y v u q p < 0) (fun s hs => by rw [g_i_c] at hs; omega) n ⟨s, hs, by rw [g_t_flip]; omega⟩ (by
      intro p q r _ _ _ hp hq hr h1 h2
      have h3 := g_pl X Y v u q r p
      have h4 : g_i X Y v u q r = - g_i X Y v u r q := by unfold g_i; grind
      have h5 := Int.mul_neg_of_pos_of_neg hr h1
      have h6 := Int.mul_neg_of_pos_of_neg hp h2
      rw [h4, Int.mul_neg] at h3
      show g_i X Y v u r p < 0
      by_cases h7 : g_i X Y v u r p < 0
      · exact h7
      · have h8 := Int.mul_nonneg (show 0 ≤ g_t X Y v u q by omega) (show 0 ≤ g_i X Y v u r p by omega)
        omega)
    have hT : 0 < g_t X Y u v c := hc.2.2.2.1
    have hd2 : g_t X Y u v d < 0 := by
      have : 0 < g_t X Y v u d := d2
      rw [g_t_flip] at this
      omega
    have hcd := hc.2.2.2.2 d d1
    have he : g_emp X Y n v u d := by
      refine ⟨hc.2.1, hc.1, d1, d2, fun z hz => ?_⟩
      by_cases h1 : 0 < g_t X Y v u z
      · have := d3 z hz h1
        omega
      · have h2 : 0 ≤ g_t X Y u v z := by rw [g_t_flip] at h1; omega
        have h3 := g_pl X Y u v c d z
        have h4 := Int.mul_nonneg (show 0 ≤ -g_t X Y u v d by omega) (hc.2.2.2.2 z hz)
        have h5 := Int.mul_nonneg h2 hcd
        rw [Int.neg_mul] at h4
        rw [fl]
        apply g_nn hT
        rw [Int.mul_neg]
        omega
    refine hn ⟨d, he, fun z hz hz0 => ?_⟩
    by_cases h1 : 0 ≤ g_t X Y v u z
    · exact h1
    · exfalso
      have h2 : 0 < g_t X Y u v z := by rw [g_t_flip] at h1; omega
      have h3 := g_pl X Y u v c d z
      have h4 := Int.mul_nonneg (show 0 ≤ -g_t X Y u v d by omega) (hc.2.2.2.2 z hz)
      rw [Int.neg_mul] at h4
      have h5 := Int.mul_nonneg (show 0 ≤ g_t X Y u v z by omega) hcd
      rw [fl] at hz0
      have h6 : g_i X Y u v d z = 0 := by omega
      rw [h6, Int.mul_zero] at h3
      have h7 : g_t X Y u v z * g_i X Y u v c d = 0 := by omega
      have h8 := g_zz (by omega) h7
      have := hc2 d d1 h8
      omega
/-- two places in a row with a third, seen from it -/
theorem g_row {v p q : Nat} (ht : g_t X Y v p q = 0) (s : Nat) : g_n X Y v p * g_t X Y v q s = g_d X Y v p q * g_t X Y v p s := by
  have h1 := g_rx X Y v p q
  have h2 := g_ry X Y v p q
  rw [ht, Int.zero_mul] at h1 h2
  have : g_n X Y v p * g_t X Y v q s = (g_n X Y v p * (X q - X v)) * (Y s - Y v) - (g_n X Y v p * (Y q - Y v)) * (X s - X v) := by
    show _ * ((X q - X v) * (Y s - Y v) - (Y q - Y v) * (X s - X v)) = _
    grind
  rw [this, h1, h2]
  show _ = _ * ((X p - X v) * (Y s - Y v) - (Y p - Y v) * (X s - X v))
  grind
theorem g_row_eq {v p q : Nat} (hn : ¬ g_eq X Y v p) (ht : g_t X Y v p q = 0) (hd : g_d X Y v p q = g_n X Y v p) : g_eq X Y q p := by
  have h0 := g_n_pos X Y hn
  have h1 := g_rx X Y v p q
  have h2 := g_ry X Y v p q
  rw [ht, Int.zero_mul, hd] at h1 h2
  have h3 := Int.eq_of_mul_eq_mul_left (show ¬ g_n X Y v p = 0 by omega) (show g_n X Y v p * (X q - X v) = g_n X Y v p * (X p - X v) by omega)
  have h4 := Int.eq_of_mul_eq_mul_left (show ¬ g_n X Y v p = 0 by omega) (show g_n X Y v p * (Y q - Y v) = g_n X Y v p * (Y p - Y v) by omega)
  exact ⟨by omega, by omega⟩
/-- in a row on the same hand, and neither between the other and the third: the same -/
theorem g_row_near {v p q : Nat} (hn : ¬ g_eq X Y v p) (ht : g_t X Y v p q = 0) (hp : 0 < g_d X Y v p q) (h1 : 0 ≤ g_u X Y v p q) (h2 : 0 ≤ g_u X Y v q p) : g_eq X Y q p := by
  have h0 := g_n_pos X Y hn
  have h3 := g_nu X Y v p q
  rw [ht, Int.mul_zero, Int.add_zero] at h3
  have h4 := Int.mul_nonneg (show 0 ≤ g_n X Y v p by omega) h1
  rw [h3] at h4
  have h5 := g_nn hp h4
  have h6 : g_u X Y v q p = g_n X Y v p - g_d X Y v p q := by unfold g_u g_n g_d; grind
  exact g_row_eq hn ht (by omega)
theorem g_bd_out (hd : g_dis X Y n) {u v w : Nat} (h1 : g_bd X Y n u v) (h2 : g_bd X Y n u w) : v = w := by
  have l1 := g_bd_left h1
  have l2 := g_bd_left h2
  obtain ⟨⟨c, hc, _⟩, _⟩ := h1
  obtain ⟨⟨d, hd1, _⟩, _⟩ := h2
  have ht : g_t X Y u v w = 0 := by
    have e1 := l1 w hd1.2.1
    have e2 := l2 v hc.2.1
    rw [g_t_swap] at e2
    omega
  have ht2 : g_t X Y u w v = 0 := by rw [g_t_swap]; omega
  have hn := g_emp_ne hc
  have h3 := g_row ht c
  have h4 := l2 c hc.2.2.1
  have h5 := Int.mul_nonneg (Int.le_of_lt (g_n_pos X Y hn)) h4
  rw [h3, Int.mul_comm] at h5
  have h6 := g_nn hc.2.2.2.1 h5
  have h7 : ¬ g_d X Y u v w = 0 := fun h0 => by
    have e1 := g_rx X Y u v w
    have e2 := g_ry X Y u v w
    rw [ht, h0, Int.zero_mul, Int.zero_mul] at e1 e2
    have h0 := g_n_pos X Y hn
    have e3 := g_zz (show ¬ g_n X Y u v = 0 by omega) (show g_n X Y u v * (X w - X u) = 0 by omega)
    have e4 := g_zz (show ¬ g_n X Y u v = 0 by omega) (show g_n X Y u v * (Y w - Y u) = 0 by omega)
    exact g_emp_ne hd1 ⟨by omega, by omega⟩
  have h8 := g_row_near hn ht (by omega) (g_emp_u hc hd1.2.1 ht) (g_emp_u hd1 hc.2.1 ht2)
  exact hd v w hc.2.1 hd1.2.1 ⟨h8.1.symm, h8.2.symm⟩
theorem g_bd_in (hd : g_dis X Y n) {u v w : Nat} (h1 : g_bd X Y n u v) (h2 : g_bd X Y n w v) : u = w := by
  have l1 := g_bd_left h1
  have l2 := g_bd_left h2
  obtain ⟨⟨c, hc, _⟩, _⟩ := h1
  obtain ⟨⟨d, hd1, _⟩, _⟩ := h2
  have ht0 : g_t X Y u v w = 0 := by
    have e1 := l1 w hd1.1
    have e2 := l2 u hc.1
    have e3 : g_t X Y w v u = - g_t X Y u v w := by unfold g_t; grind
    omega
  have ht : g_t X Y v u w = 0 := by rw [g_t_flip]; omega
  have ht2 : g_t X Y w v u = 0 := by
    have e3 : g_t X Y w v u = - g_t X Y u v w := by unfold g_t; grind
    omega
  have hn : ¬ g_eq X Y v u := fun h => g_emp_ne hc ⟨h.1.symm, h.2.symm⟩
  have h3 := g_row ht c
  have h4 := l2 c hc.2.2.1
  have h5 := Int.mul_nonneg (Int.le_of_lt (g_n_pos X Y hn)) h4
  have e4 : g_t X Y w v c = - g_t X Y v w c := g_t_flip X Y v w c
  have e5 : g_t X Y v u c = - g_t X Y u v c := g_t_flip X Y u v c
  rw [e4, Int.mul_neg, h3, e5, Int.mul_neg, Int.neg_neg, Int.mul_comm] at h5
  have h6 := g_nn hc.2.2.2.1 h5
  have h7 : ¬ g_d X Y v u w = 0 := fun h0 => by
    have e1 := g_rx X Y v u w
    have e2 := g_ry X Y v u w
    rw [ht, h0, Int.zero_mul, Int.zero_mul] at e1 e2
    have h0 := g_n_pos X Y hn
    have e3 := g_zz (show ¬ g_n X Y v u = 0 by omega) (show g_n X Y v u * (X w - X v) = 0 by omega)
    have e4 := g_zz (show ¬ g_n X Y v u = 0 by omega) (show g_n X Y v u * (Y w - Y v) = 0 by omega)
    exact g_emp_ne hd1 ⟨by omega, by omega⟩
  have h8 := g_row_near hn ht (by omega) (by rw [g_u_f]; exact g_emp_u hc hd1.1 ht0) (by rw [g_u_f]; exact g_emp_u hd1 hc.1 ht2)
  exact hd u w hc.1 hd1.1 ⟨h8.1.symm, h8.2.symm⟩
/-- behind a side there is another one, of the same cell -/
theorem g_succ (hd : g_dis X Y n) {u v : Nat} (h : g_side X Y n u v) : ∃ w, g_side X Y n v w ∧ 0 < g_t X Y v w u := by
  obtain ⟨c, hc, hc2⟩ := h
  have hne := g_emp_ne hc
  obtain ⟨w, w1, ⟨w2, w3⟩, w4⟩ := g_min (fun s => g_i X Y u v c s = 0 ∧ ¬ s = v) (fun p q => 0 < g_t X Y v p q) (fun s hs => by rw [g_t_r] at hs; omega) n ⟨u, hc.1, g_i_a X Y u v c, fun h9 => hne (by subst h9; exact ⟨rfl, rfl⟩)⟩ (by
    intro p q r _ _ _ hp hq hr h1 h2
    exact g_trans X Y hc.2.2.2.1 (g_i_b X Y u v c) hp.1 hq.1 hr.1 h1 h2)
  have w5 : ∀ s, s < n → g_i X Y u v c s = 0 → 0 ≤ g_t X Y v w s := by
    intro s hs h1
    by_cases h2 : s = v
    · subst h2; rw [g_t_l]; exact Int.le_refl 0
    · have := w4 s hs ⟨h1, h2⟩
      rw [g_t_swap] at this
      omega
  have w6 : ¬ w = u := fun h9 => by
    subst h9
    have h1 := w5 c hc.2.2.1 (g_i_c X Y w v c)
    rw [g_t_flip] at h1
    have := hc.2.2.2.1
    omega
  have w7 : ¬ g_t X Y v w u = 0 := fun h9 => by
    have h1 := g_col X Y (show ¬ g_t X Y u v c = 0 by have := hc.2.2.2.1; omega) (fun h8 => w3 (hd v w hc.2.1 w1 h8).symm) (g_i_b X Y u v c) w2 (g_i_a X Y u v c) h9
    rcases h1 with h1 | h1
    · exact hne h1
    · exact w6 (hd w u w1 hc.1 ⟨h1.1.symm, h1.2.symm⟩)
  have w8 : 0 < g_t X Y v w u := by
    have := w5 u hc.1 (g_i_a X Y u v c)
    omega
  have h1 := g_emp_tr hc hc.2.1 w1 hc.1 w8 (g_i_b X Y u v c) w2 (g_i_a X Y u v c)
  exact ⟨w, ⟨u, h1.1, fun s hs h2 => w5 s hs ((h1.2 s).mp h2)⟩, w8⟩
theorem g_side_lt {u v : Nat} (h : g_side X Y n u v) : u < n ∧ v < n := by
  obtain ⟨c, hc, _⟩ := h
  exact ⟨hc.1, hc.2.1⟩
theorem g_edge (hd : g_dis X Y n) {v : Nat} (dx dy : Int) (hD : ∀ w, g_side X Y n v w → 0 < dx * (X w - X v) + dy * (Y w - Y v)) (h : ∃ w, g_side X Y n v w) : ∃ w, g_bd X Y n v w := by
  obtain ⟨w0, hw0⟩ := h
  obtain ⟨w, w1, w2, w3⟩ := g_min (fun w => g_side X Y n v w) (fun p q => 0 < g_t X Y v p q) (fun s hs => by rw [g_t_r] at hs; omega) n ⟨w0, (g_side_lt hw0).2, hw0⟩ (by
    intro p q r _ _ _ hp hq hr h1 h2
    have a1 := hD p hp
    have a2 := hD q hq
    have a3 := hD r hr
    have key : (dx * (X q - X v) + dy * (Y q - Y v)) * g_t X Y v p r = (dx * (X p - X v) + dy * (Y p - Y v)) * g_t X Y v q r + (dx * (X r - X v) + dy * (Y r - Y v)) * g_t X Y v p q := by
      unfold g_t; grind
    have b1 := Int.mul_pos a1 h2
    have b2 := Int.mul_pos a3 h1
    exact g_pp a2 (by omega))
  refine ⟨w, w2, fun h9 => ?_⟩
  obtain ⟨z, z1, z2⟩ := g_succ hd h9
  exact w3 z (g_side_lt z1).2 z1 z2
theorem g_bd_next (hd : g_dis X Y n) {u v : Nat} (h : g_bd X Y n u v) : ∃ w, g_bd X Y n v w := by
  have l1 := g_bd_left h
  by_cases hA : ∃ w, g_side X Y n v w ∧ g_t X Y u v w = 0
  · obtain ⟨w, hw, ht0⟩ := hA
    refine ⟨w, hw, fun h9 => ?_⟩
    obtain ⟨z, z1, z2⟩ := g_succ hd h9
    obtain ⟨⟨c, hc, _⟩, hn9⟩ := h
    obtain ⟨d, hd1, _⟩ := id hw
    have ht : g_t X Y v u w = 0 := by rw [g_t_flip]; omega
    have hn : ¬ g_eq X Y v u := fun h => g_emp_ne hc ⟨h.1.symm, h.2.symm⟩
    have h3 := g_row ht z
    have e1 : g_t X Y v w z = - g_t X Y v z w := g_t_swap X Y v z w
    have e2 : g_t X Y v u z = - g_t X Y u v z := g_t_flip X Y u v z
    have h4 := Int.mul_pos (g_n_pos X Y hn) z2
    rw [e1, e2, Int.mul_neg, Int.mul_neg] at h3
    have h5 := l1 z (g_side_lt z1).2
    have h6 : 0 < g_d X Y v u w := by
      by_cases h7 : 0 < g_d X Y v u w
      · exact h7
      · have := Int.mul_nonneg (show 0 ≤ - g_d X Y v u w by omega) h5
        rw [Int.neg_mul] at this
        omega
    have h8 := g_row_near hn ht h6 (by rw [g_u_f]; exact g_emp_u hc hd1.2.1 ht0) (g_emp_u hd1 hc.1 (by rw [g_t_swap]; omega))
    have := hd w u hd1.2.1 hc.1 h8
    subst this
    exact hn9 hw
  · obtain ⟨w0, hw0, _⟩ := g_succ hd h.1
    refine g_edge hd (-(Y v - Y u)) (X v - X u) (fun w hw => ?_) ⟨w0, hw0⟩
    have h1 := l1 w (g_side_lt hw).2
    have h2 : ¬ g_t X Y u v w = 0 := fun h3 => hA ⟨w, hw, h3⟩
    have h3 : -(Y v - Y u) * (X w - X v) + (X v - X u) * (Y w - Y v) = g_t X Y u v w := by unfold g_t; grind
    omega
def g_K (X Y : Nat → Int) (s : Nat) : Int := 1000 * X s + Y s
def g_box (X Y : Nat → Int) (n : Nat) : Prop := ∀ s, s < n → -400 ≤ X s ∧ X s ≤ 400 ∧ -400 ≤ Y s ∧ Y s ≤ 400
theorem g_K_inj (hb : g_box X Y n) (hd : g_dis X Y n) {p q : Nat} (hp : p < n) (hq : q < n) (h : g_K X Y p = g_K X Y q) : p = q := by
  have h1 := hb p hp
  have h2 := hb q hq
  unfold g_K at h
  exact hd p q hp hq ⟨by omega, by omega⟩
theorem g_bd_some (hb : g_box X Y n) (hd : g_dis X Y n) (h : ∃ u v, g_side X Y n u v) : ∃ u v, g_bd X Y n u v := by
  obtain ⟨u0, v0, h0⟩ := h
  obtain ⟨v, v1, v2, v3⟩ := g_min (fun v => ∃ w, g_side X Y n v w) (fun p q => g_K X Y q < g_K X Y p) (fun s hs => Int.lt_irrefl _ hs) n ⟨u0, (g_side_lt h0).1, v0, h0⟩ (by
    intro p q r _ _ _ _ _ _ h1 h2
    show g_K X Y r < g_K X Y p
    have h1 : g_K X Y q < g_K X Y p := h1
    have h2 : g_K X Y r < g_K X Y q := h2
    omega)
  obtain ⟨w, hw⟩ := g_edge hd (-1000) (-1) (v := v) (fun w hw => by
    obtain ⟨z, hz, _⟩ := g_succ hd hw
    have h1 := v3 w (g_side_lt hw).2 ⟨z, hz⟩
    have h2 : ¬ g_K X Y v = g_K X Y w := fun h3 => g_side_ne hw (g_K_inj hb hd v1 (g_side_lt hw).2 h3)
    unfold g_K at h1 h2
    omega) v2
  exact ⟨v, w, hw⟩
end GEO
