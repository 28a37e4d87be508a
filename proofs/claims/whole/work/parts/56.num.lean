/-! Ints and longs that stay small are whole numbers. -/
def w_i (v : Int32) (z : Int) (B : Nat) : Prop := v.toInt = z ∧ z.natAbs ≤ B
def w_l (v : Int64) (z : Int) (B : Nat) : Prop := v.toInt = z ∧ z.natAbs ≤ B
theorem w_i_sub {v w : Int32} {z t : Int} {B C : Nat} (h1 : w_i v z B) (h2 : w_i w t C) (hb : B + C < 2 ^ 31) : w_i (v - w) (z - t) (B + C) := by
  obtain ⟨e1, b1⟩ := h1
  obtain ⟨e2, b2⟩ := h2
  refine ⟨?_, by omega⟩
  rw [Int32.toInt_sub, e1, e2]
  exact Int.bmod_eq_of_le (by omega) (by omega)
theorem w_i_add {v w : Int32} {z t : Int} {B C : Nat} (h1 : w_i v z B) (h2 : w_i w t C) (hb : B + C < 2 ^ 31) : w_i (v + w) (z + t) (B + C) := by
  obtain ⟨e1, b1⟩ := h1
  obtain ⟨e2, b2⟩ := h2
  refine ⟨?_, by omega⟩
  rw [Int32.toInt_add, e1, e2]
  exact Int.bmod_eq_of_le (by omega) (by omega)
theorem w_i_mul {v w : Int32} {z t : Int} {B C : Nat} (h1 : w_i v z B) (h2 : w_i w t C) (hb : B * C < 2 ^ 31) : w_i (v * w) (z * t) (B * C) := by
  obtain ⟨e1, b1⟩ := h1
  obtain ⟨e2, b2⟩ := h2
  have h3 : (z * t).natAbs ≤ B * C := by rw [Int.natAbs_mul]; exact Nat.mul_le_mul b1 b2
  refine ⟨?_, h3⟩
  rw [Int32.toInt_mul, e1, e2]
  exact Int.bmod_eq_of_le (by omega) (by omega)
theorem w_l_sub {v w : Int64} {z t : Int} {B C : Nat} (h1 : w_l v z B) (h2 : w_l w t C) (hb : B + C < 2 ^ 63) : w_l (v - w) (z - t) (B + C) := by
  obtain ⟨e1, b1⟩ := h1
  obtain ⟨e2, b2⟩ := h2
  refine ⟨?_, by omega⟩
  rw [Int64.toInt_sub, e1, e2]
  exact Int.bmod_eq_of_le (by omega) (by omega)
theorem w_l_add {v w : Int64} {z t : Int} {B C : Nat} (h1 : w_l v z B) (h2 : w_l w t C) (hb : B + C < 2 ^ 63) : w_l (v + w) (z + t) (B + C) := by
  obtain ⟨e1, b1⟩ := h1
  obtain ⟨e2, b2⟩ := h2
  refine ⟨?_, by omega⟩
  rw [Int64.toInt_add, e1, e2]
  exact Int.bmod_eq_of_le (by omega) (by omega)
theorem w_l_mul {v w : Int64} {z t : Int} {B C : Nat} (h1 : w_l v z B) (h2 : w_l w t C) (hb : B * C < 2 ^ 63) : w_l (v * w) (z * t) (B * C) := by
  obtain ⟨e1, b1⟩ := h1
  obtain ⟨e2, b2⟩ := h2
  have h3 : (z * t).natAbs ≤ B * C := by rw [Int.natAbs_mul]; exact Nat.mul_le_mul b1 b2
  refine ⟨?_, h3⟩
  rw [Int64.toInt_mul, e1, e2]
  exact Int.bmod_eq_of_le (by omega) (by omega)
theorem w_l_neg {v : Int64} {z : Int} {B : Nat} (h1 : w_l v z B) (hb : B < 2 ^ 63) : w_l (-v) (-z) B := by
  obtain ⟨e1, b1⟩ := h1
  refine ⟨?_, by omega⟩
  rw [Int64.toInt_neg, e1]
  exact Int.bmod_eq_of_le (by omega) (by omega)
theorem w_l_2 : w_l 2 2 2 := ⟨rfl, by decide⟩
theorem w_il {v : Int32} {z : Int} {B : Nat} (h : w_i v z B) : w_l v.toInt64 z B := ⟨by rw [Int32.toInt_toInt64]; exact h.1, h.2⟩
theorem w_l_eq {v : Int64} {z t : Int} {B : Nat} (h : w_l v z B) (e : z = t) : w_l v t B := e ▸ h
theorem w_i_eq {v : Int32} {z t : Int} {B : Nat} (h : w_i v z B) (e : z = t) : w_i v t B := e ▸ h
theorem w_i_ge {v : Int32} {z : Int} {B : Nat} (h : w_i v z B) : 0 ≤ v ↔ 0 ≤ z := by rw [Int32.le_iff_toInt_le, h.1]; exact Iff.rfl
theorem w_i_le {v : Int32} {z : Int} {B : Nat} (h : w_i v z B) : v ≤ 0 ↔ z ≤ 0 := by rw [Int32.le_iff_toInt_le, h.1]; exact Iff.rfl
theorem w_l_ge {v : Int64} {z : Int} {B : Nat} (h : w_l v z B) : 0 ≤ v ↔ 0 ≤ z := by rw [Int64.le_iff_toInt_le, h.1]; exact Iff.rfl
theorem w_l_le {v : Int64} {z : Int} {B : Nat} (h : w_l v z B) : v ≤ 0 ↔ z ≤ 0 := by rw [Int64.le_iff_toInt_le, h.1]; exact Iff.rfl
theorem w_l_lt {v : Int64} {z : Int} {B : Nat} (h : w_l v z B) : v < 0 ↔ z < 0 := by rw [Int64.lt_iff_toInt_lt, h.1]; exact Iff.rfl
theorem w_l_z {v : Int64} {z : Int} {B : Nat} (h : w_l v z B) : v = 0 ↔ z = 0 := by
  rw [← Int64.toInt_inj, h.1]; exact Iff.rfl
def w_X (x : Nat → Int32) : Nat → Int := fun k => (x k).toInt
section WN
variable {x y : Nat → Int32} {n : Nat}
theorem w_dx (hb : g_box (w_X x) (w_X y) n) {i j : Nat} (hi : i < n) (hj : j < n) : w_i (x i - x j) (w_X x i - w_X x j) 800 := by
  have h1 := hb i hi
  have h2 := hb j hj
  exact w_i_sub (B := 400) (C := 400) ⟨rfl, by omega⟩ ⟨rfl, by omega⟩ (by decide)
theorem w_dy (hb : g_box (w_X x) (w_X y) n) {i j : Nat} (hi : i < n) (hj : j < n) : w_i (y i - y j) (w_X y i - w_X y j) 800 := by
  have h1 := hb i hi
  have h2 := hb j hj
  exact w_i_sub (B := 400) (C := 400) ⟨rfl, by omega⟩ ⟨rfl, by omega⟩ (by decide)
theorem w_turn (hb : g_box (w_X x) (w_X y) n) {a b s : Nat} (ha : a < n) (hb1 : b < n) (hs : s < n) : w_i (j_turn x y a b (x s) (y s)) (g_t (w_X x) (w_X y) a b s) 1280000 :=
  w_i_sub (w_i_mul (w_dx hb hb1 ha) (w_dy hb hs ha) (by decide)) (w_i_mul (w_dy hb hb1 ha) (w_dx hb hs ha) (by decide)) (by decide)
theorem w_rturn (hb : g_box (w_X x) (w_X y) n) {a b s : Nat} (ha : a < n) (hb1 : b < n) (hs : s < n) : w_l (r_turn x y a b (x s) (y s)) (g_t (w_X x) (w_X y) a b s) 1280000 :=
  w_l_sub (w_l_mul (w_il (w_dx hb hb1 ha)) (w_il (w_dy hb hs ha)) (by decide)) (w_l_mul (w_il (w_dy hb hb1 ha)) (w_il (w_dx hb hs ha)) (by decide)) (by decide)
theorem w_rar (hb : g_box (w_X x) (w_X y) n) {a b s : Nat} (ha : a < n) (hb1 : b < n) (hs : s < n) : w_l (r_ar x y a b s) (g_t (w_X x) (w_X y) a b s) 1280000 :=
  w_l_sub (w_l_mul (w_il (w_dx hb hb1 ha)) (w_il (w_dy hb hs ha)) (by decide)) (w_l_mul (w_il (w_dy hb hb1 ha)) (w_il (w_dx hb hs ha)) (by decide)) (by decide)
theorem w_rsq (hb : g_box (w_X x) (w_X y) n) {a b : Nat} (ha : a < n) (hb1 : b < n) : w_l (r_sq x y a b) ((w_X x a - w_X x b) * (w_X x a - w_X x b) + (w_X y a - w_X y b) * (w_X y a - w_X y b)) 1280000 :=
  w_l_add (w_l_mul (w_il (w_dx hb ha hb1)) (w_il (w_dx hb ha hb1)) (by decide)) (w_l_mul (w_il (w_dy hb ha hb1)) (w_il (w_dy hb ha hb1)) (by decide)) (by decide)
theorem w_rvv (hb : g_box (w_X x) (w_X y) n) {a b d k : Nat} (ha : a < n) (hb1 : b < n) (hd : d < n) (hk : k < n) : w_l (r_vv x y a b d k) (- g_i (w_X x) (w_X y) a b d k) 4915200000000 := by
  refine w_l_eq (w_l_sub (w_l_add (w_l_mul (w_l_sub (w_l_mul (w_rsq hb ha hb1) (w_il (w_dy hb hd ha)) (by decide)) (w_l_mul (w_rsq hb ha hd) (w_il (w_dy hb hb1 ha)) (by decide)) (by decide)) (w_il (w_dx hb hk ha)) (by decide)) (w_l_mul (w_l_sub (w_l_mul (w_rsq hb ha hd) (w_il (w_dx hb hb1 ha)) (by decide)) (w_l_mul (w_rsq hb ha hb1) (w_il (w_dx hb hd ha)) (by decide)) (by decide)) (w_il (w_dy hb hk ha)) (by decide)) (by decide)) (w_l_mul (w_rar hb ha hb1 hd) (w_rsq hb ha hk) (by decide)) (by decide)) ?_
  unfold g_i g_t g_u
  grind
theorem w_rpow (hb : g_box (w_X x) (w_X y) n) {a b d k : Nat} (ha : a < n) (hb1 : b < n) (hd : d < n) (hk : k < n) : w_l (r_pow x y a b d k) (if g_t (w_X x) (w_X y) a b d ≤ 0 then g_i (w_X x) (w_X y) a b d k else - g_i (w_X x) (w_X y) a b d k) 4915200000000 := by
  unfold r_pow
  have h1 := w_l_le (w_rar hb ha hb1 hd)
  by_cases h : r_ar x y a b d ≤ 0
  · rw [if_pos h, if_pos (h1.mp h)]
    exact w_l_eq (w_l_neg (w_rvv hb ha hb1 hd hk) (by decide)) (Int.neg_neg _)
  · rw [if_neg h, if_neg (fun h9 => h (h1.mpr h9))]
    exact w_rvv hb ha hb1 hd hk
theorem w_pow (hb : g_box (w_X x) (w_X y) n) {a b d k : Nat} (ha : a < n) (hb1 : b < n) (hd : d < n) (hk : k < n) : w_l (j_powC (j_lay x y a b d) (x k) (y k)) (2 * g_i (w_X x) (w_X y) a b d k) 9830400000000 := by
  have dx := w_il (w_dx hb hk ha)
  have dy := w_il (w_dy hb hk ha)
  have bx := w_il (w_dx hb hb1 ha)
  have bY := w_il (w_dy hb hb1 ha)
  have cx := w_il (w_dx hb hd ha)
  have cy := w_il (w_dy hb hd ha)
  have bb := w_l_add (w_l_mul bx bx (by decide)) (w_l_mul bY bY (by decide)) (by decide)
  have cc := w_l_add (w_l_mul cx cx (by decide)) (w_l_mul cy cy (by decide)) (by decide)
  have ax := w_l_sub (w_l_mul cy bb (by decide)) (w_l_mul bY cc (by decide)) (by decide)
  have ay := w_l_sub (w_l_mul bx cc (by decide)) (w_l_mul cx bb (by decide)) (by decide)
  have sp := w_l_mul w_l_2 (w_l_sub (w_l_mul bx cy (by decide)) (w_l_mul bY cx (by decide)) (by decide)) (by decide)
  refine w_l_eq (w_l_sub (w_l_mul (w_l_add (w_l_mul dx dx (by decide)) (w_l_mul dy dy (by decide)) (by decide)) sp (by decide)) (w_l_mul w_l_2 (w_l_add (w_l_mul dx ax (by decide)) (w_l_mul dy ay (by decide)) (by decide)) (by decide)) (by decide)) ?_
  unfold g_i g_t g_u
  grind
end WN
