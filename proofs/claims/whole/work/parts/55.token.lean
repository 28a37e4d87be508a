/-! Tokens: how many cells and sides there are at most. -/
section GEO
variable (X Y : Nat → Int) (n : Nat)
def g_tok (a b t : Nat) : Prop := ∃ u w, g_S X Y n a b (t / 2) ∧ g_S X Y n a b u ∧ g_S X Y n a b w ∧ g_K X Y u < g_K X Y (t / 2) ∧ g_K X Y (t / 2) < g_K X Y w ∧ (t % 2 = 0 → 0 < g_t X Y u (t / 2) w) ∧ (¬ t % 2 = 0 → g_t X Y u (t / 2) w < 0)
variable {X Y n}
theorem g_lev (g h o : Int) (u v w : Nat) : (g_K X Y w - g_K X Y v) * ((g * X u + h * Y u + o) - (g * X v + h * Y v + o)) + (g_K X Y v - g_K X Y u) * ((g * X w + h * Y w + o) - (g * X v + h * Y v + o)) = g_t X Y u v w * (1000 * h - g) := by
  unfold g_K g_t
  grind
theorem g_affd (a b c p q r : Nat) : ∃ g h o : Int, ∀ e, g_t X Y p q r * g_i X Y a b c e - g_t X Y a b c * g_i X Y p q r e = g * X e + h * Y e + o := by
  obtain ⟨l1, m1, o1, q1⟩ := g_i_quad X Y a b c
  obtain ⟨l2, m2, o2, q2⟩ := g_i_quad X Y p q r
  refine ⟨g_t X Y p q r * l1 - g_t X Y a b c * l2, g_t X Y p q r * m1 - g_t X Y a b c * m2, g_t X Y p q r * o1 - g_t X Y a b c * o2, fun e => ?_⟩
  rw [q1 e, q2 e]
  grind
theorem g_same2 {a b c p q r u v w : Nat} (h : g_emp X Y n a b c) (h' : g_emp X Y n p q r) (ht : ¬ g_t X Y u v w = 0) (hu : u < n) (hv : v < n) (hw : w < n) (a1 : g_i X Y a b c u = 0) (a2 : g_i X Y a b c v = 0) (a3 : g_i X Y a b c w = 0) (b1 : g_i X Y p q r u = 0) (b2 : g_i X Y p q r v = 0) (b3 : g_i X Y p q r w = 0) (s : Nat) : g_i X Y a b c s = 0 ↔ g_i X Y p q r s = 0 := by
  by_cases h0 : 0 < g_t X Y u v w
  · exact ((g_emp_tr h hu hv hw h0 a1 a2 a3).2 s).symm.trans ((g_emp_tr h' hu hv hw h0 b1 b2 b3).2 s)
  · have h1 : 0 < g_t X Y u w v := by rw [g_t_swap]; omega
    exact ((g_emp_tr h hu hw hv h1 a1 a3 a2).2 s).symm.trans ((g_emp_tr h' hu hw hv h1 b1 b3 b2).2 s)
theorem g_tok_dis {a b c p q r t : Nat} (h : g_emp X Y n a b c) (h' : g_emp X Y n p q r) (h1 : g_tok X Y n a b t) (h2 : g_tok X Y n p q t) (s : Nat) : g_S X Y n a b s ↔ g_S X Y n p q s := by
  obtain ⟨u1, w1, sv1, su1, sw1, k1, k2, k3, k4⟩ := h1
  obtain ⟨u2, w2, sv2, su2, sw2, j1, j2, j3, j4⟩ := h2
  rw [g_S_iff h] at sv1 su1 sw1
  rw [g_S_iff h'] at sv2 su2 sw2
  obtain ⟨g, hh, o, hA⟩ := g_affd (X := X) (Y := Y) a b c p q r
  generalize hvv : t / 2 = v at *
  have hk := h.2.2.2.1
  have hk' := h'.2.2.2.1
  have n1 : ∀ e, e < n ∧ g_i X Y a b c e = 0 → g * X e + hh * Y e + o ≤ 0 := by
    intro e he
    have e1 := Int.mul_nonneg (Int.le_of_lt hk) (h'.2.2.2.2 e he.1)
    have e2 := hA e
    rw [he.2, Int.mul_zero] at e2
    omega
  have n2 : ∀ e, e < n ∧ g_i X Y p q r e = 0 → 0 ≤ g * X e + hh * Y e + o := by
    intro e he
    have e1 := Int.mul_nonneg (Int.le_of_lt hk') (h.2.2.2.2 e he.1)
    have e2 := hA e
    rw [he.2, Int.mul_zero] at e2
    omega
  have v0 : g * X v + hh * Y v + o = 0 := by
    have e1 := n1 v sv1
    have e2 := n2 v sv2
    omega
  have L1 := g_lev (X := X) (Y := Y) g hh o u1 v w1
  have L2 := g_lev (X := X) (Y := Y) g hh o u2 v w2
  have a1 := n1 u1 su1
  have a2 := n1 w1 sw1
  have a3 := n2 u2 su2
  have a4 := n2 w2 sw2
  rw [v0] at L1 L2
  have p1 := Int.mul_nonneg (show 0 ≤ g_K X Y w1 - g_K X Y v by omega) (show 0 ≤ -(g * X u1 + hh * Y u1 + o - 0) by omega)
  have p2 := Int.mul_nonneg (show 0 ≤ g_K X Y v - g_K X Y u1 by omega) (show 0 ≤ -(g * X w1 + hh * Y w1 + o - 0) by omega)
  have p3 := Int.mul_nonneg (show 0 ≤ g_K X Y w2 - g_K X Y v by omega) (show 0 ≤ (g * X u2 + hh * Y u2 + o - 0) by omega)
  have p4 := Int.mul_nonneg (show 0 ≤ g_K X Y v - g_K X Y u2 by omega) (show 0 ≤ (g * X w2 + hh * Y w2 + o - 0) by omega)
  rw [Int.mul_neg] at p1 p2
  have W0 : 1000 * hh - g = 0 := by
    by_cases ht : t % 2 = 0
    · have t1 := k3 ht
      have t2 := j3 ht
      have q1 : 0 ≤ g_t X Y u1 v w1 * (-(1000 * hh - g)) := by rw [Int.mul_neg]; omega
      have q2 : 0 ≤ g_t X Y u2 v w2 * (1000 * hh - g) := by omega
      have q3 := g_nn t1 q1
      have q4 := g_nn t2 q2
      omega
    · have t1 := k4 ht
      have t2 := j4 ht
      have q1 : 0 ≤ (-g_t X Y u1 v w1) * (1000 * hh - g) := by rw [Int.neg_mul]; omega
      have q2 : 0 ≤ (-g_t X Y u2 v w2) * (-(1000 * hh - g)) := by rw [Int.neg_mul_neg]; omega
      have q3 := g_nn (by omega) q1
      have q4 := g_nn (by omega) q2
      omega
  rw [W0, Int.mul_zero] at L1
  have z1 : (g_K X Y w1 - g_K X Y v) * (g * X u1 + hh * Y u1 + o - 0) = 0 := by omega
  have z2 : (g_K X Y v - g_K X Y u1) * (g * X w1 + hh * Y w1 + o - 0) = 0 := by omega
  have z3 := g_zz (by omega) z1
  have z4 := g_zz (by omega) z2
  have c0 : ∀ e, g * X e + hh * Y e + o = 0 → g_i X Y a b c e = 0 → g_i X Y p q r e = 0 := by
    intro e e1 e2
    have e3 := hA e
    rw [e1, e2, Int.mul_zero] at e3
    exact g_zz (show ¬ g_t X Y a b c = 0 by omega) (by omega)
  have tn : ¬ g_t X Y u1 v w1 = 0 := by
    by_cases ht : t % 2 = 0
    · have := k3 ht
      omega
    · have := k4 ht
      omega
  rw [g_S_iff h, g_S_iff h', g_same2 h h' tn su1.1 sv1.1 sw1.1 su1.2 sv1.2 sw1.2 (c0 u1 (by omega) su1.2) (c0 v v0 sv1.2) (c0 w1 (by omega) sw1.2) s]
theorem g_tok_cnt (hb : g_box X Y n) (hd : g_dis X Y n) {a b c : Nat} (h : g_emp X Y n a b c) : g_cnt (g_S X Y n a b) n ≤ g_cnt (g_tok X Y n a b) (2 * n) + 2 := by
  have e1 := g_cnt_split (g_S X Y n a b) (fun s => ∃ u, g_S X Y n a b u ∧ g_K X Y u < g_K X Y s) n
  have e2 := g_cnt_split (fun s => g_S X Y n a b s ∧ ∃ u, g_S X Y n a b u ∧ g_K X Y u < g_K X Y s) (fun s => ∃ u, g_S X Y n a b u ∧ g_K X Y s < g_K X Y u) n
  have e3 : g_cnt (fun s => g_S X Y n a b s ∧ ¬ ∃ u, g_S X Y n a b u ∧ g_K X Y u < g_K X Y s) n ≤ 1 := g_cnt_1 n (fun s t hs ht h1 h2 => by
    have a1 : ¬ g_K X Y t < g_K X Y s := fun h9 => h1.2 ⟨t, h2.1, h9⟩
    have a2 : ¬ g_K X Y s < g_K X Y t := fun h9 => h2.2 ⟨s, h1.1, h9⟩
    exact g_K_inj hb hd hs ht (by omega))
  have e4 : g_cnt (fun s => (g_S X Y n a b s ∧ ∃ u, g_S X Y n a b u ∧ g_K X Y u < g_K X Y s) ∧ ¬ ∃ u, g_S X Y n a b u ∧ g_K X Y s < g_K X Y u) n ≤ 1 := g_cnt_1 n (fun s t hs ht h1 h2 => by
    have a1 : ¬ g_K X Y s < g_K X Y t := fun h9 => h1.2 ⟨t, h2.1.1, h9⟩
    have a2 : ¬ g_K X Y t < g_K X Y s := fun h9 => h2.2 ⟨s, h1.1.1, h9⟩
    exact g_K_inj hb hd hs ht (by omega))
  have e5 := g_cnt_two (fun s => (g_S X Y n a b s ∧ ∃ u, g_S X Y n a b u ∧ g_K X Y u < g_K X Y s) ∧ ∃ u, g_S X Y n a b u ∧ g_K X Y s < g_K X Y u) (g_tok X Y n a b) n (fun v hv h1 => by
    obtain ⟨⟨sv, u, su, ku⟩, w, sw, kw⟩ := h1
    have f1 := (g_S_iff h v).mp sv
    have f2 := (g_S_iff h u).mp su
    have f3 := (g_S_iff h w).mp sw
    have hne : ¬ g_t X Y u v w = 0 := fun h9 => by
      have hk := h.2.2.2.1
      rcases g_col X Y (by omega) (fun h8 => by have := hd u v f2.1 f1.1 h8; subst this; omega) f2.2 f1.2 f3.2 h9 with h8 | h8
      · have := hd w u f3.1 f2.1 h8
        subst this
        omega
      · have := hd w v f3.1 f1.1 h8
        subst this
        omega
    by_cases h0 : 0 < g_t X Y u v w
    · left
      refine ⟨u, w, ?_⟩
      rw [show 2 * v / 2 = v by omega]
      exact ⟨sv, su, sw, ku, kw, fun _ => h0, fun h9 => absurd (by omega) h9⟩
    · right
      refine ⟨u, w, ?_⟩
      rw [show (2 * v + 1) / 2 = v by omega]
      exact ⟨sv, su, sw, ku, kw, fun h9 => absurd h9 (by omega), fun _ => by omega⟩)
  omega
/-- five tokens that no cell takes -/
theorem g_five (hb : g_box X Y n) (hd : g_dis X Y n) {a b c : Nat} (h : g_emp X Y n a b c) (U : Nat → Prop) (hU : ∀ t, U t → ∃ p q, g_tok X Y n p q t) : g_cnt U (2 * n) + 5 ≤ 2 * n := by
  obtain ⟨T, T1, _, T3⟩ := g_min (fun _ => True) (fun p q => g_K X Y q < g_K X Y p) (fun s hs => Int.lt_irrefl _ hs) n ⟨a, h.1, trivial⟩ (by
    intro p q r _ _ _ _ _ _ h1 h2
    show g_K X Y r < g_K X Y p
    have h1 : g_K X Y q < g_K X Y p := h1
    have h2 : g_K X Y r < g_K X Y q := h2
    omega)
  obtain ⟨B, B1, _, B3⟩ := g_min (fun _ => True) (fun p q => g_K X Y p < g_K X Y q) (fun s hs => Int.lt_irrefl _ hs) n ⟨a, h.1, trivial⟩ (by
    intro p q r _ _ _ _ _ _ h1 h2
    show g_K X Y p < g_K X Y r
    have h1 : g_K X Y p < g_K X Y q := h1
    have h2 : g_K X Y q < g_K X Y r := h2
    omega)
  have hBT : g_K X Y B < g_K X Y T := by
    have x1 := T3 a h.1 trivial
    have x2 := T3 b h.2.1 trivial
    have x3 := B3 a h.1 trivial
    have x4 := B3 b h.2.1 trivial
    have x5 : ¬ g_K X Y a = g_K X Y b := fun h9 => by
      have := g_K_inj hb hd h.1 h.2.1 h9
      exact g_emp_ne h (by subst this; exact ⟨rfl, rfl⟩)
    omega
  have nT : ∀ t, t / 2 = T → ¬ U t := fun t ht h9 => by
    obtain ⟨p, q, u, w, _, _, sw, _, k2, _⟩ := hU t h9
    rw [ht] at k2
    exact T3 w sw.1 trivial k2
  have nB : ∀ t, t / 2 = B → ¬ U t := fun t ht h9 => by
    obtain ⟨p, q, u, w, _, su, _, k1, _⟩ := hU t h9
    rw [ht] at k1
    exact B3 u su.1 trivial k1
  have hTB : ¬ T = B := fun h9 => by subst h9; omega
  have lev : ∀ u v w, (g_K X Y w - g_K X Y v) * (g_t X Y B T u - g_t X Y B T v) + (g_K X Y v - g_K X Y u) * (g_t X Y B T w - g_t X Y B T v) = g_t X Y u v w * (g_K X Y T - g_K X Y B) := by
    intro u v w
    unfold g_K g_t
    grind
  by_cases hR : ∃ s, s < n ∧ g_t X Y B T s < 0
  · obtain ⟨W, W1, W2, W3⟩ := g_min (fun s => g_t X Y B T s < 0) (fun p q => g_t X Y B T p < g_t X Y B T q) (fun s hs => Int.lt_irrefl _ hs) n hR (by
      intro p q r _ _ _ _ _ _ h1 h2
      show g_t X Y B T p < g_t X Y B T r
      have h1 : g_t X Y B T p < g_t X Y B T q := h1
      have h2 : g_t X Y B T q < g_t X Y B T r := h2
      omega)
    have W2 : g_t X Y B T W < 0 := W2
    have W4 : ∀ s, s < n → g_t X Y B T W ≤ g_t X Y B T s := fun s hs => by
      by_cases h0 : g_t X Y B T s < 0
      · have : ¬ g_t X Y B T s < g_t X Y B T W := W3 s hs h0
        omega
      · omega
    have WB : ¬ W = B := fun h9 => by subst h9; rw [g_t_l] at W2; omega
    have WT : ¬ W = T := fun h9 => by subst h9; rw [g_t_r] at W2; omega
    have nW : ¬ U (2 * W + 1) := fun h9 => by
      obtain ⟨p, q, u, w, _, su, sw, k1, k2, _, k4⟩ := hU _ h9
      rw [show (2 * W + 1) / 2 = W by omega] at k1 k2 k4
      have k5 := k4 (by omega)
      have L := lev u W w
      have p1 := Int.mul_nonneg (show 0 ≤ g_K X Y w - g_K X Y W by omega) (show 0 ≤ g_t X Y B T u - g_t X Y B T W by have := W4 u su.1; omega)
      have p2 := Int.mul_nonneg (show 0 ≤ g_K X Y W - g_K X Y u by omega) (show 0 ≤ g_t X Y B T w - g_t X Y B T W by have := W4 w sw.1; omega)
      have p3 := Int.mul_neg_of_neg_of_pos k5 (show 0 < g_K X Y T - g_K X Y B by omega)
      omega
    exact g_cnt_five (a := 2 * T) (b := 2 * T + 1) (c := 2 * B) (d := 2 * B + 1) (e := 2 * W + 1) (by omega) (by omega) (by omega) (by omega) (by omega) (nT _ (by omega)) (nT _ (by omega)) (nB _ (by omega)) (nB _ (by omega)) nW ⟨by omega, by omega, by omega, by omega, by omega, by omega, by omega, by omega, by omega, by omega⟩
  · by_cases hL : ∃ s, s < n ∧ 0 < g_t X Y B T s
    · obtain ⟨W, W1, W2, W3⟩ := g_min (fun s => 0 < g_t X Y B T s) (fun p q => g_t X Y B T q < g_t X Y B T p) (fun s hs => Int.lt_irrefl _ hs) n hL (by
        intro p q r _ _ _ _ _ _ h1 h2
        show g_t X Y B T r < g_t X Y B T p
        have h1 : g_t X Y B T q < g_t X Y B T p := h1
        have h2 : g_t X Y B T r < g_t X Y B T q := h2
        omega)
      have W2 : 0 < g_t X Y B T W := W2
      have W4 : ∀ s, s < n → g_t X Y B T s ≤ g_t X Y B T W := fun s hs => by
        by_cases h0 : 0 < g_t X Y B T s
        · have : ¬ g_t X Y B T W < g_t X Y B T s := W3 s hs h0
          omega
        · omega
      have WB : ¬ W = B := fun h9 => by subst h9; rw [g_t_l] at W2; omega
      have WT : ¬ W = T := fun h9 => by subst h9; rw [g_t_r] at W2; omega
      have nW : ¬ U (2 * W) := fun h9 => by
        obtain ⟨p, q, u, w, _, su, sw, k1, k2, k3, _⟩ := hU _ h9
        rw [show (2 * W) / 2 = W by omega] at k1 k2 k3
        have k5 := k3 (by omega)
        have L := lev u W w
        have p1 := Int.mul_nonneg (show 0 ≤ g_K X Y w - g_K X Y W by omega) (show 0 ≤ -(g_t X Y B T u - g_t X Y B T W) by have := W4 u su.1; omega)
        have p2 := Int.mul_nonneg (show 0 ≤ g_K X Y W - g_K X Y u by omega) (show 0 ≤ -(g_t X Y B T w - g_t X Y B T W) by have := W4 w sw.1; omega)
        have p3 := Int.mul_pos k5 (show 0 < g_K X Y T - g_K X Y B by omega)
        rw [Int.mul_neg] at p1 p2
        omega
      exact g_cnt_five (a := 2 * T) (b := 2 * T + 1) (c := 2 * B) (d := 2 * B + 1) (e := 2 * W) (by omega) (by omega) (by omega) (by omega) (by omega) (nT _ (by omega)) (nT _ (by omega)) (nB _ (by omega)) (nB _ (by omega)) nW ⟨by omega, by omega, by omega, by omega, by omega, by omega, by omega, by omega, by omega, by omega⟩
    · exfalso
      have z0 : ∀ s, s < n → g_t X Y B T s = 0 := fun s hs => by
        have x1 : ¬ g_t X Y B T s < 0 := fun h9 => hR ⟨s, hs, h9⟩
        have x2 : ¬ 0 < g_t X Y B T s := fun h9 => hL ⟨s, hs, h9⟩
        omega
      have L := lev a b c
      rw [z0 a h.1, z0 b h.2.1, z0 c h.2.2.1] at L
      simp only [Int.sub_self, Int.mul_zero, Int.add_zero] at L
      have := Int.mul_pos h.2.2.2.1 (show 0 < g_K X Y T - g_K X Y B by omega)
      omega
def g_used (X Y : Nat → Int) (n : Nat) (A B : Nat → Nat) (q t : Nat) : Prop := ∃ k, k < q ∧ g_tok X Y n (A k) (B k) t
/-- what the tokens give: the sizes of all cells together -/
theorem g_sizes (hb : g_box X Y n) (hd : g_dis X Y n) (A B sr : Nat → Nat) (q : Nat) (hP : ∀ k, k < q → g_P X Y n (A k) (B k)) (hne : ∀ i j, i < j → j < q → ¬ (A i = A j ∧ B i = B j)) (h0 : sr 0 = 0) (hs : ∀ k, k < q → sr (k + 1) = sr k + g_cnt (g_S X Y n (A k) (B k)) n) (hn : n ≤ 20) : 3 * q ≤ sr q ∧ sr q ≤ 105 ∧ q ≤ 35 := by
  have key : ∀ p, p ≤ q → sr p ≤ g_cnt (g_used X Y n A B p) (2 * n) + 2 * p ∧ 3 * p ≤ sr p := by
    intro p
    induction p with
    | zero => intro _; rw [h0]; omega
    | succ p ih =>
      intro hp
      have h1 := ih (by omega)
      have h2 := hs p (by omega)
      obtain ⟨c, hc⟩ := g_P_emp (hP p (by omega))
      have h3 := g_tok_cnt hb hd hc
      have h4 : g_cnt (g_used X Y n A B (p + 1)) (2 * n) = g_cnt (fun t => g_used X Y n A B p t ∨ g_tok X Y n (A p) (B p) t) (2 * n) := g_cnt_eq _ (fun t _ => ⟨fun h9 => by
        obtain ⟨k, k1, k2⟩ := h9
        by_cases h8 : k = p
        · subst h8; exact Or.inr k2
        · exact Or.inl ⟨k, by omega, k2⟩, fun h9 => by
        rcases h9 with ⟨k, k1, k2⟩ | h9
        · exact ⟨k, by omega, k2⟩
        · exact ⟨p, by omega, h9⟩⟩)
      rw [g_cnt_or (P := g_used X Y n A B p) (Q := g_tok X Y n (A p) (B p)) (2 * n) (fun t _ h9 => by
        obtain ⟨⟨k, k1, k2⟩, h8⟩ := h9
        obtain ⟨d, hd9⟩ := g_P_emp (hP k (by omega))
        exact hne k p k1 (by omega) (g_P_uq hd (hP k (by omega)) (hP p (by omega)) (g_tok_dis hd9 hc k2 h8)))] at h4
      have h5 : 3 ≤ g_cnt (g_S X Y n (A p) (B p)) n := by
        have hk := hc.2.2.2.1
        refine g_cnt_3 hc.1 hc.2.1 hc.2.2.1 (fun h9 => ?_) (fun h9 => ?_) (fun h9 => ?_) ⟨hc.1, c, hc, g_i_a X Y _ _ c⟩ ⟨hc.2.1, c, hc, g_i_b X Y _ _ c⟩ ⟨hc.2.2.1, c, hc, g_i_c X Y _ _ c⟩
        · rw [h9, g_t_e] at hk; omega
        · rw [← h9, g_t_l] at hk; omega
        · rw [← h9, g_t_r] at hk; omega
      omega
  have k1 := key q (Nat.le_refl _)
  by_cases hq : q = 0
  · subst hq; rw [h0]; omega
  · obtain ⟨c, hc⟩ := g_P_emp (hP 0 (by omega))
    have k2 := g_five hb hd hc (g_used X Y n A B q) (fun t h9 => by obtain ⟨k, _, k2⟩ := h9; exact ⟨_, _, k2⟩)
    omega
end GEO
