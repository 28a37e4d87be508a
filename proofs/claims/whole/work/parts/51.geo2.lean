/-! Circles: same circle, no three in a line, convex position. -/
theorem g_nn {k z : Int} (hk : 0 < k) (h : 0 ≤ k * z) : 0 ≤ z := by
  by_cases h1 : 0 ≤ z
  · exact h1
  · have := Int.mul_neg_of_pos_of_neg hk (show z < 0 by omega)
    omega
theorem g_pp {k z : Int} (hk : 0 < k) (h : 0 < k * z) : 0 < z := by
  by_cases h1 : 0 < z
  · exact h1
  · have := Int.mul_nonneg (show 0 ≤ k by omega) (show 0 ≤ -z by omega)
    rw [Int.mul_neg] at this
    omega
theorem g_zz {k z : Int} (hk : ¬ k = 0) (h : k * z = 0) : z = 0 := by
  rcases Int.mul_eq_zero.mp h with h1 | h1
  · exact absurd h1 hk
  · exact h1
theorem g_sq0 (a : Int) : 0 ≤ a * a := by
  rcases Int.le_total 0 a with h | h
  · exact Int.mul_nonneg h h
  · exact Int.mul_nonneg_of_nonpos_of_nonpos h h
theorem g_sqp {a : Int} (h : ¬ a = 0) : 0 < a * a := by
  rcases Int.lt_or_gt_of_ne h with h1 | h1
  · exact Int.mul_pos_of_neg_of_neg h1 h1
  · exact Int.mul_pos h1 h1
section GEO
variable (X Y : Nat → Int)
def g_n (p q : Nat) : Int := (X q - X p) * (X q - X p) + (Y q - Y p) * (Y q - Y p)
def g_d (p q r : Nat) : Int := (X r - X p) * (X q - X p) + (Y r - Y p) * (Y q - Y p)
def g_eq (p q : Nat) : Prop := X p = X q ∧ Y p = Y q
theorem g_n_pos {p q : Nat} (h : ¬ g_eq X Y p q) : 0 < g_n X Y p q := by
  unfold g_n
  by_cases h1 : X q - X p = 0
  · have h2 : ¬ Y q - Y p = 0 := fun h2 => h ⟨by omega, by omega⟩
    have := g_sqp h2
    have := g_sq0 (X q - X p)
    omega
  · have := g_sqp h1
    have := g_sq0 (Y q - Y p)
    omega
theorem g_n_s (p q : Nat) : g_n X Y q p = g_n X Y p q := by unfold g_n; grind
theorem g_rx (p q r : Nat) : g_n X Y p q * (X r - X p) = g_d X Y p q r * (X q - X p) - g_t X Y p q r * (Y q - Y p) := by
  simp only [g_n, g_d, g_t]; grind
theorem g_ry (p q r : Nat) : g_n X Y p q * (Y r - Y p) = g_d X Y p q r * (Y q - Y p) + g_t X Y p q r * (X q - X p) := by
  simp only [g_n, g_d, g_t]; grind
theorem g_nu (p q r : Nat) : g_n X Y p q * g_u X Y p q r = g_d X Y p q r * (g_d X Y p q r - g_n X Y p q) + g_t X Y p q r * g_t X Y p q r := by
  simp only [g_n, g_d, g_t, g_u]; grind
/-- on a line and on its own round: one of the two ends -/
theorem g_two {p q r : Nat} (h : ¬ g_eq X Y p q) (ht : g_t X Y p q r = 0) (hu : g_u X Y p q r = 0) : g_eq X Y r p ∨ g_eq X Y r q := by
  have hn := g_n_pos X Y h
  have h1 := g_rx X Y p q r
  have h2 := g_ry X Y p q r
  have h3 := g_nu X Y p q r
  rw [ht, hu] at h3
  rw [ht] at h1 h2
  simp only [Int.mul_zero, Int.zero_mul, Int.add_zero, Int.sub_zero] at h1 h2 h3
  rcases Int.mul_eq_zero.mp h3.symm with h4 | h4
  · rw [h4, Int.zero_mul] at h1 h2
    have h5 := g_zz (by omega) h1
    have h6 := g_zz (by omega) h2
    exact Or.inl ⟨by omega, by omega⟩
  · have h5 : g_d X Y p q r = g_n X Y p q := by omega
    rw [h5] at h1 h2
    have h6 := Int.eq_of_mul_eq_mul_left (by omega) h1
    have h7 := Int.eq_of_mul_eq_mul_left (by omega) h2
    exact Or.inr ⟨by omega, by omega⟩
theorem g_lineq (k l m o px py qx qy rx ry : Int) (h1 : k * (px * px + py * py) + l * px + m * py + o = 0) (h2 : k * (qx * qx + qy * qy) + l * qx + m * qy + o = 0) (ht : (qx - px) * (ry - py) - (qy - py) * (rx - px) = 0) :
    ((qx - px) * (qx - px) + (qy - py) * (qy - py)) * (k * (rx * rx + ry * ry) + l * rx + m * ry + o) = ((qx - px) * (qx - px) + (qy - py) * (qy - py)) * (k * ((rx - px) * (rx - qx) + (ry - py) * (ry - qy))) := by
  have key : ((qx - px) * (qx - px) + (qy - py) * (qy - py)) * (k * (rx * rx + ry * ry) + l * rx + m * ry + o) - ((qx - px) * (qx - px) + (qy - py) * (qy - py)) * (k * ((rx - px) * (rx - qx) + (ry - py) * (ry - qy))) = (((qx - px) * (qx - px) + (qy - py) * (qy - py)) - ((rx - px) * (qx - px) + (ry - py) * (qy - py))) * (k * (px * px + py * py) + l * px + m * py + o) + ((rx - px) * (qx - px) + (ry - py) * (qy - py)) * (k * (qx * qx + qy * qy) + l * qx + m * qy + o) + ((qx - px) * (ry - py) - (qy - py) * (rx - px)) * ((m + k * (py + qy)) * (qx - px) - (l + k * (px + qx)) * (qy - py)) := by grind
  rw [h1, h2, ht] at key
  simp only [Int.mul_zero, Int.zero_mul, Int.add_zero] at key
  omega
theorem g_line {a b c p q r : Nat} (h : ¬ g_eq X Y p q) (hp : g_i X Y a b c p = 0) (hq : g_i X Y a b c q = 0) (ht : g_t X Y p q r = 0) : g_i X Y a b c r = g_t X Y a b c * g_u X Y p q r := by
  obtain ⟨l, m, o, hq9⟩ := g_i_quad X Y a b c
  have hn := g_n_pos X Y h
  rw [hq9] at hp hq ⊢
  have := g_lineq _ l m o (X p) (Y p) (X q) (Y q) (X r) (Y r) hp hq ht
  exact Int.eq_of_mul_eq_mul_left (by unfold g_n at hn; omega) this
theorem g_col {a b c p q r : Nat} (hk : ¬ g_t X Y a b c = 0) (h : ¬ g_eq X Y p q) (hp : g_i X Y a b c p = 0) (hq : g_i X Y a b c q = 0) (hr : g_i X Y a b c r = 0) (ht : g_t X Y p q r = 0) : g_eq X Y r p ∨ g_eq X Y r q := by
  have h1 := g_line X Y h hp hq ht
  rw [hr] at h1
  exact g_two X Y h ht (g_zz hk h1.symm)
theorem g_same {a b c p q r : Nat} (hk : ¬ g_t X Y p q r = 0) (hp : g_i X Y a b c p = 0) (hq : g_i X Y a b c q = 0) (hr : g_i X Y a b c r = 0) (e : Nat) : g_t X Y a b c * g_i X Y p q r e = g_t X Y p q r * g_i X Y a b c e := by
  obtain ⟨l1, m1, o1, q1⟩ := g_i_quad X Y a b c
  obtain ⟨l2, m2, o2, q2⟩ := g_i_quad X Y p q r
  have hA : ∀ e, g_t X Y p q r * g_i X Y a b c e - g_t X Y a b c * g_i X Y p q r e = (g_t X Y p q r * l1 - g_t X Y a b c * l2) * X e + (g_t X Y p q r * m1 - g_t X Y a b c * m2) * Y e + (g_t X Y p q r * o1 - g_t X Y a b c * o2) := by
    intro e
    rw [q1 e, q2 e]
    grind
  have h3 := g_3 X Y (g_t X Y p q r * l1 - g_t X Y a b c * l2) (g_t X Y p q r * m1 - g_t X Y a b c * m2) (g_t X Y p q r * o1 - g_t X Y a b c * o2) p q r e
  rw [← hA e, ← hA p, ← hA q, ← hA r, hp, hq, hr, g_i_a, g_i_b, g_i_c] at h3
  simp only [Int.mul_zero, Int.zero_mul, Int.add_zero, Int.sub_zero] at h3
  have := g_zz hk h3
  omega
theorem g_trq (k L M px py qx qy rx ry : Int) (hk : 0 < k) (hp0 : 0 < px * px + py * py) (hq0 : 0 < qx * qx + qy * qy) (hr0 : 0 < rx * rx + ry * ry) (hp : k * (px * px + py * py) + L * px + M * py = 0) (hq : k * (qx * qx + qy * qy) + L * qx + M * qy = 0) (hr : k * (rx * rx + ry * ry) + L * rx + M * ry = 0) (h1 : 0 < px * qy - py * qx) (h2 : 0 < qx * ry - qy * rx) : 0 < px * ry - py * rx := by
  have key : (-(L * qx + M * qy)) * (px * ry - py * rx) = (-(L * px + M * py)) * (qx * ry - qy * rx) + (-(L * rx + M * ry)) * (px * qy - py * qx) := by grind
  have e1 : -(L * px + M * py) = k * (px * px + py * py) := by omega
  have e2 : -(L * qx + M * qy) = k * (qx * qx + qy * qy) := by omega
  have e3 : -(L * rx + M * ry) = k * (rx * rx + ry * ry) := by omega
  rw [e1, e2, e3] at key
  have p1 := Int.mul_pos (Int.mul_pos hk hp0) h2
  have p2 := Int.mul_pos (Int.mul_pos hk hr0) h1
  exact g_pp (Int.mul_pos hk hq0) (by omega)
theorem g_cvq (k L M px py qx qy rx ry B G T : Int) (hk : 0 < k) (hp0 : 0 < px * px + py * py) (hr0 : 0 < rx * rx + ry * ry) (hpr : 0 < (px - rx) * (px - rx) + (py - ry) * (py - ry)) (hp : k * (px * px + py * py) + L * px + M * py = 0) (hq : k * (qx * qx + qy * qy) + L * qx + M * qy = 0) (hr : k * (rx * rx + ry * ry) + L * rx + M * ry = 0) (hB : 0 < B) (hG : 0 < G) (h1 : T * qx = B * px + G * rx) (h2 : T * qy = B * py + G * ry) : 0 < B + G - T := by
  have k1 : T * T * (k * (qx * qx + qy * qy) + L * qx + M * qy) = k * ((T * qx) * (T * qx) + (T * qy) * (T * qy)) + T * (L * (T * qx) + M * (T * qy)) := by grind
  rw [hq, h1, h2, Int.mul_zero] at k1
  have k2 : k * ((B * px + G * rx) * (B * px + G * rx) + (B * py + G * ry) * (B * py + G * ry)) + T * (L * (B * px + G * rx) + M * (B * py + G * ry)) = k * ((B * px + G * rx) * (B * px + G * rx) + (B * py + G * ry) * (B * py + G * ry)) + T * (B * ((k * (px * px + py * py) + L * px + M * py) - k * (px * px + py * py)) + G * ((k * (rx * rx + ry * ry) + L * rx + M * ry) - k * (rx * rx + ry * ry))) := by grind
  rw [k2, hp, hr] at k1
  have k3 : k * ((B * px + G * rx) * (B * px + G * rx) + (B * py + G * ry) * (B * py + G * ry)) + T * (B * (0 - k * (px * px + py * py)) + G * (0 - k * (rx * rx + ry * ry))) = k * ((B + G - T) * (B * (px * px + py * py) + G * (rx * rx + ry * ry)) - B * G * ((px - rx) * (px - rx) + (py - ry) * (py - ry))) := by grind
  rw [k3] at k1
  have k4 := g_zz (show ¬ k = 0 by omega) k1.symm
  have k5 := Int.mul_pos (Int.mul_pos hB hG) hpr
  have k6 : 0 < B * (px * px + py * py) + G * (rx * rx + ry * ry) := by
    have := Int.mul_pos hB hp0
    have := Int.mul_pos hG hr0
    omega
  exact g_pp k6 (by rw [Int.mul_comm]; omega)
theorem g_rel (a b c p q : Nat) (l m o : Int) (hq9 : ∀ e, g_i X Y a b c e = g_t X Y a b c * (X e * X e + Y e * Y e) + l * X e + m * Y e + o) (hp : g_i X Y a b c p = 0) (hq : g_i X Y a b c q = 0) : g_t X Y a b c * ((X q - X p) * (X q - X p) + (Y q - Y p) * (Y q - Y p)) + (l + 2 * g_t X Y a b c * X p) * (X q - X p) + (m + 2 * g_t X Y a b c * Y p) * (Y q - Y p) = 0 := by
  rw [hq9] at hp hq
  grind
/-- seen from one site of a circle the others stand in order -/
theorem g_trans {a b c z p q r : Nat} (hk : 0 < g_t X Y a b c) (hz : g_i X Y a b c z = 0) (hp : g_i X Y a b c p = 0) (hq : g_i X Y a b c q = 0) (hr : g_i X Y a b c r = 0) (h1 : 0 < g_t X Y z p q) (h2 : 0 < g_t X Y z q r) : 0 < g_t X Y z p r := by
  obtain ⟨l, m, o, hq9⟩ := g_i_quad X Y a b c
  have np : ¬ g_eq X Y z p := fun h => by
    have : g_t X Y z p q = 0 := by unfold g_t; rw [h.1, h.2]; grind
    omega
  have nq : ¬ g_eq X Y z q := fun h => by
    have : g_t X Y z q r = 0 := by unfold g_t; rw [h.1, h.2]; grind
    omega
  have nr : ¬ g_eq X Y z r := fun h => by
    have : g_t X Y z q r = 0 := by unfold g_t; rw [h.1, h.2]; grind
    omega
  have e1 := g_n_pos X Y np
  have e2 := g_n_pos X Y nq
  have e3 := g_n_pos X Y nr
  exact g_trq _ _ _ _ _ _ _ _ _ hk e1 e2 e3 (g_rel X Y a b c z p l m o hq9 hz hp) (g_rel X Y a b c z q l m o hq9 hz hq) (g_rel X Y a b c z r l m o hq9 hz hr) h1 h2
theorem g_conv {a b c z p q r : Nat} (hk : 0 < g_t X Y a b c) (hz : g_i X Y a b c z = 0) (hp : g_i X Y a b c p = 0) (hq : g_i X Y a b c q = 0) (hr : g_i X Y a b c r = 0) (h1 : 0 < g_t X Y z p q) (h2 : 0 < g_t X Y z q r) : 0 < g_t X Y p q r := by
  have h3 := g_trans X Y hk hz hp hq hr h1 h2
  obtain ⟨l, m, o, hq9⟩ := g_i_quad X Y a b c
  have np : ¬ g_eq X Y z p := fun h => by
    have : g_t X Y z p q = 0 := by unfold g_t; rw [h.1, h.2]; grind
    omega
  have nr : ¬ g_eq X Y z r := fun h => by
    have : g_t X Y z q r = 0 := by unfold g_t; rw [h.1, h.2]; grind
    omega
  have npr : ¬ g_eq X Y r p := fun h => by
    have : g_t X Y z p r = 0 := by unfold g_t; rw [h.1, h.2]; grind
    omega
  have e1 := g_n_pos X Y np
  have e3 := g_n_pos X Y nr
  have e4 := g_n_pos X Y npr
  have e5 : 0 < ((X p - X z) - (X r - X z)) * ((X p - X z) - (X r - X z)) + ((Y p - Y z) - (Y r - Y z)) * ((Y p - Y z) - (Y r - Y z)) := by
    unfold g_n at e4
    have : ((X p - X z) - (X r - X z)) * ((X p - X z) - (X r - X z)) + ((Y p - Y z) - (Y r - Y z)) * ((Y p - Y z) - (Y r - Y z)) = (X p - X r) * (X p - X r) + (Y p - Y r) * (Y p - Y r) := by grind
    omega
  have := g_cvq _ _ _ (X p - X z) (Y p - Y z) (X q - X z) (Y q - Y z) (X r - X z) (Y r - Y z) (g_t X Y z q r) (g_t X Y z p q) (g_t X Y z p r) hk e1 e3 e5 (g_rel X Y a b c z p l m o hq9 hz hp) (g_rel X Y a b c z q l m o hq9 hz hq) (g_rel X Y a b c z r l m o hq9 hz hr) h2 h1 (by unfold g_t; grind) (by unfold g_t; grind)
  have e6 : g_t X Y p q r = g_t X Y z q r + g_t X Y z p q - g_t X Y z p r := by unfold g_t; grind
  omega
end GEO
