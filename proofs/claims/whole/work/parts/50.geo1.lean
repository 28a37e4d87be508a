/-! Plane geometry over whole numbers: turns, circles, sides. -/
section GEO
variable (X Y : Nat → Int)
def g_t (a b c : Nat) : Int := (X b - X a) * (Y c - Y a) - (Y b - Y a) * (X c - X a)
def g_u (a b c : Nat) : Int := (X c - X a) * (X c - X b) + (Y c - Y a) * (Y c - Y b)
def g_i (a b c d : Nat) : Int := g_t X Y a b c * g_u X Y a b d - g_u X Y a b c * g_t X Y a b d
theorem g_i_quad (a b c : Nat) : ∃ l m o : Int, ∀ e, g_i X Y a b c e = g_t X Y a b c * (X e * X e + Y e * Y e) + l * X e + m * Y e + o := by
  refine ⟨- g_t X Y a b c * (X a + X b) + g_u X Y a b c * (Y b - Y a), - g_t X Y a b c * (Y a + Y b) - g_u X Y a b c * (X b - X a), g_t X Y a b c * (X a * X b + Y a * Y b) + g_u X Y a b c * ((X b - X a) * Y a - (Y b - Y a) * X a), fun e => ?_⟩
  simp only [g_i]
  generalize g_t X Y a b c = k
  generalize g_u X Y a b c = j
  simp only [g_t, g_u]
  grind
theorem g_i_cyc (a b c e : Nat) : g_i X Y b c a e = g_i X Y a b c e := by
  simp only [g_i, g_t, g_u]
  grind
theorem g_i_swap (a b c e : Nat) : g_i X Y a c b e = - g_i X Y a b c e := by
  simp only [g_i, g_t, g_u]
  grind
theorem g_3 (g h o : Int) (p q r e : Nat) : g_t X Y p q r * (g * X e + h * Y e + o) = (g * X p + h * Y p + o) * g_t X Y q r e + (g * X q + h * Y q + o) * g_t X Y r p e + (g * X r + h * Y r + o) * g_t X Y p q e := by
  simp only [g_t]
  grind
theorem g_pl (a b c s z : Nat) : g_t X Y a b c * g_i X Y a b s z = g_t X Y a b s * g_i X Y a b c z - g_t X Y a b z * g_i X Y a b c s := by
  simp only [g_i]
  grind
theorem g_t_cyc (a b c : Nat) : g_t X Y b c a = g_t X Y a b c := by
  simp only [g_t]; grind
theorem g_t_swap (a b c : Nat) : g_t X Y a c b = - g_t X Y a b c := by
  simp only [g_t]; grind
theorem g_t_flip (a b c : Nat) : g_t X Y b a c = - g_t X Y a b c := by
  simp only [g_t]; grind
theorem g_t_l (a b : Nat) : g_t X Y a b a = 0 := by simp only [g_t]; grind
theorem g_t_r (a b : Nat) : g_t X Y a b b = 0 := by simp only [g_t]; grind
theorem g_t_e (a b : Nat) : g_t X Y a a b = 0 := by simp only [g_t]; grind
theorem g_u_l (a b : Nat) : g_u X Y a b a = 0 := by simp only [g_u]; grind
theorem g_u_r (a b : Nat) : g_u X Y a b b = 0 := by simp only [g_u]; grind
theorem g_u_f (a b c : Nat) : g_u X Y b a c = g_u X Y a b c := by simp only [g_u]; grind
theorem g_i_a (a b c : Nat) : g_i X Y a b c a = 0 := by simp only [g_i, g_t_l, g_u_l]; grind
theorem g_i_b (a b c : Nat) : g_i X Y a b c b = 0 := by simp only [g_i, g_t_r, g_u_r]; grind
theorem g_i_c (a b c : Nat) : g_i X Y a b c c = 0 := by simp only [g_i]; grind
end GEO
