/-! The reference's make: its loops and its order. -/
section WM
variable {x y : Nat → Int32} {n : Nat}
theorem m_mc (hb : g_box (w_X x) (w_X y) n) (hd : g_dis (w_X x) (w_X y) n) (hn : n ≤ 20) {a b : Nat} (hab : a < b) (hbn : b < n) : ∀ (f d : Nat) (z : (Nat → Nat) × (Nat → Nat) × Nat), n ≤ d + f → d ≤ n → b < d → (∃ A B T, m_MI x y n z A B T (400 * a + 20 * b + d)) → ∃ A B T, m_MI x y n (r_mc x y n a b z d) A B T (400 * a + 20 * b + n) := by
  intro f
  induction f with
  | zero =>
    intro d z h1 h2 h3 h
    have : d = n := by omega
    subst this
    rw [r_mc, if_neg (by omega)]
    exact h
  | succ f ih =>
    intro d z h1 h2 h3 h
    by_cases hd9 : d < n
    · rw [r_mc, if_pos hd9]
      exact ih (d + 1) _ (by omega) (by omega) (by omega) (m_step_MI hb hd hn hab h3 hd9 h)
    · have : d = n := by omega
      subst this
      rw [r_mc, if_neg (by omega)]
      exact h
theorem m_mb (hb : g_box (w_X x) (w_X y) n) (hd : g_dis (w_X x) (w_X y) n) (hn : n ≤ 20) {a : Nat} (han : a < n) : ∀ (f b : Nat) (z : (Nat → Nat) × (Nat → Nat) × Nat), n ≤ b + f → b ≤ n → a < b → (∃ A B T, m_MI x y n z A B T (400 * a + 20 * b + (b + 1))) → ∃ A B T, m_MI x y n (r_mb x y n a z b) A B T (400 * a + 20 * n + (n + 1)) := by
  intro f
  induction f with
  | zero =>
    intro b z h1 h2 h3 h
    have : b = n := by omega
    subst this
    rw [r_mb, if_neg (by omega)]
    exact h
  | succ f ih =>
    intro b z h1 h2 h3 h
    by_cases hb9 : b < n
    · rw [r_mb, if_pos hb9]
      refine ih (b + 1) _ (by omega) (by omega) (by omega) ?_
      obtain ⟨A, B, T, h4⟩ := m_mc hb hd hn h3 hb9 n (b + 1) z (by omega) (by omega) (by omega) h
      exact ⟨A, B, T, m_MI_up h4 (by omega) (fun a' b' d' _ _ _ => by omega)⟩
    · have : b = n := by omega
      subst this
      rw [r_mb, if_neg (by omega)]
      exact h
theorem m_ma (hb : g_box (w_X x) (w_X y) n) (hd : g_dis (w_X x) (w_X y) n) (hn : n ≤ 20) : ∀ (f a : Nat) (z : (Nat → Nat) × (Nat → Nat) × Nat), n ≤ a + f → a ≤ n → (∃ A B T, m_MI x y n z A B T (400 * a + 20 * (a + 1) + (a + 2))) → ∃ A B T, m_MI x y n (r_ma x y n z a) A B T 20000 := by
  have last : ∀ z, (∃ A B T, m_MI x y n z A B T (400 * n + 20 * (n + 1) + (n + 2))) → ∃ A B T, m_MI x y n z A B T 20000 := fun z h => by
    obtain ⟨A, B, T, h⟩ := h
    exact ⟨A, B, T, m_MI_up h (by omega) (fun a' b' d' _ _ _ => by omega)⟩
  intro f
  induction f with
  | zero =>
    intro a z h1 h2 h
    have : a = n := by omega
    subst this
    rw [r_ma, if_neg (by omega)]
    exact last z h
  | succ f ih =>
    intro a z h1 h2 h
    by_cases ha : a < n
    · rw [r_ma, if_pos ha]
      refine ih (a + 1) _ (by omega) (by omega) ?_
      obtain ⟨A, B, T, h4⟩ := m_mb hb hd hn ha n (a + 1) z (by omega) (by omega) (by omega) h
      exact ⟨A, B, T, m_MI_up h4 (by omega) (fun a' b' d' _ _ _ => by omega)⟩
    · have : a = n := by omega
      subst this
      rw [r_ma, if_neg (by omega)]
      exact last z h
theorem m_made (hb : g_box (w_X x) (w_X y) n) (hd : g_dis (w_X x) (w_X y) n) (hn : n ≤ 20) (sz rd : Nat → Nat) : ∃ A B T, m_MI x y n (r_ma x y n (sz, rd, 0) 0) A B T 20000 := by
  refine m_ma hb hd hn n 0 _ (by omega) (by omega) ⟨fun _ => 0, fun _ => 0, fun _ => 0, fun k hk => absurd hk (Nat.not_lt_zero _), fun i j _ hj => absurd hj (Nat.not_lt_zero _), fun a b t _ hl ht => ?_⟩
  obtain ⟨a', b', d', e, e1, e2, _⟩ := hl
  omega
end WM
theorem m_bef_self (sz rd : Nat → Nat) (k : Nat) : ∀ f i, sz k ≤ i + f → r_bef sz rd k k i = false := by
  intro f
  induction f with
  | zero => intro i h; rw [r_bef, if_neg (by omega), if_pos (Nat.le_refl _)]
  | succ f ih =>
    intro i h
    by_cases hi : i < sz k
    · rw [r_bef, if_pos hi, if_pos hi, if_pos rfl]
      exact ih (i + 1) (by omega)
    · rw [r_bef, if_neg hi, if_pos (Nat.le_refl _)]
theorem m_bef {sz rd : Nat → Nat} {i k a b a' b' : Nat} (h1 : 3 ≤ sz i) (h2 : 3 ≤ sz k) (e0 : rd (20 * i + 0) = a) (e1 : rd (20 * i + 1) = b) (f0 : rd (20 * k + 0) = a') (f1 : rd (20 * k + 1) = b') (hb : b < 20) (hb' : b' < 20) (hne : a = a' → b = b' → i = k) : r_bef sz rd i k 0 = decide (20 * a + b < 20 * a' + b') := by
  by_cases ha : a = a'
  · by_cases hbb : b = b'
    · have := hne ha hbb
      subst this
      rw [m_bef_self sz rd i (sz i) 0 (by omega), decide_eq_false (by omega)]
    · rw [r_bef, if_pos (by omega), if_pos (by omega), if_pos (by rw [e0, f0, ha]), r_bef, if_pos (by omega), if_pos (by omega), if_neg (by rw [e1, f1]; exact hbb), e1, f1]
      split
      · rw [decide_eq_false (by omega)]
      · rw [decide_eq_true (by omega)]
  · rw [r_bef, if_pos (by omega), if_pos (by omega), if_neg (by rw [e0, f0]; exact ha), e0, f0]
    split
    · rw [decide_eq_false (by omega)]
    · rw [decide_eq_true (by omega)]
theorem m_less {sz rd : Nat → Nat} {q k : Nat} {c : Nat → Nat} (hc : ∀ i, i < q → r_bef sz rd i k 0 = decide (c i < c k)) : ∀ f i t, q ≤ i + f → i ≤ q → r_less sz rd q k t i + g_cnt (fun i => c i < c k) i = t + g_cnt (fun i => c i < c k) q := by
  intro f
  induction f with
  | zero =>
    intro i t h1 h2
    have : i = q := by omega
    subst this
    rw [r_less, if_neg (by omega)]
  | succ f ih =>
    intro i t h1 h2
    by_cases hi : i < q
    · rw [r_less, if_pos hi, hc i hi]
      by_cases h3 : c i < c k
      · rw [decide_eq_true h3, if_neg (fun h => Bool.noConfusion h)]
        have e1 := ih (i + 1) (t + 1) (by omega) (by omega)
        have e2 := g_cnt_t (P := fun i => c i < c k) (N := i) h3
        omega
      · rw [decide_eq_false h3, if_pos rfl]
        have e1 := ih (i + 1) t (by omega) (by omega)
        have e2 := g_cnt_f (P := fun i => c i < c k) (N := i) h3
        omega
    · have : i = q := by omega
      subst this
      rw [r_less, if_neg (by omega)]
theorem m_ord_go {sz rd : Nat → Nat} {q : Nat} (hinj : ∀ i j, i < q → j < q → r_less sz rd q i 0 0 = r_less sz rd q j 0 0 → i = j) : ∀ f k od, q ≤ k + f → (∀ j, k ≤ j → j < q → r_ord sz rd q od k (r_less sz rd q j 0 0) = j) ∧ ∀ t, (∀ j, k ≤ j → j < q → ¬ r_less sz rd q j 0 0 = t) → r_ord sz rd q od k t = od t := by
  intro f
  induction f with
  | zero =>
    intro k od h
    refine ⟨fun j h1 h2 => absurd h2 (by omega), fun t _ => ?_⟩
    rw [r_ord, if_neg (by omega)]
  | succ f ih =>
    intro k od h
    by_cases hk : k < q
    · rw [r_ord, if_pos hk]
      have hI := ih (k + 1) (updN od (r_less sz rd q k 0 0) k) (by omega)
      refine ⟨fun j h1 h2 => ?_, fun t ht => ?_⟩
      · by_cases h3 : j = k
        · subst h3
          rw [hI.2 _ (fun i i1 i2 h9 => by have := hinj i j i2 hk h9; omega), updN_s]
        · exact hI.1 j (by omega) h2
      · rw [hI.2 t (fun j h1 h2 => ht j (by omega) h2), updN_n (fun h9 => ht k (Nat.le_refl _) hk h9.symm)]
    · rw [r_ord, if_neg hk]
      exact ⟨fun j h1 h2 => absurd h2 (by omega), fun t _ => rfl⟩
/-- numbers by rank: every rank is taken, and in the order of the codes -/
theorem m_rank {sz rd : Nat → Nat} {q : Nat} {c : Nat → Nat} (hc : ∀ i k, i < q → k < q → r_bef sz rd i k 0 = decide (c i < c k)) (hne : ∀ i k, i < q → k < q → c i = c k → i = k) (od : Nat → Nat) : (∀ r, r < q → r_ord sz rd q od 0 r < q) ∧ (∀ i j, i < j → j < q → c (r_ord sz rd q od 0 i) < c (r_ord sz rd q od 0 j)) ∧ (∀ k, k < q → ∃ r, r < q ∧ r_ord sz rd q od 0 r = k) ∧ ∀ r, q ≤ r → r_ord sz rd q od 0 r = od r := by
  have hl : ∀ k, k < q → r_less sz rd q k 0 0 = g_cnt (fun i => c i < c k) q := fun k hk => by
    have := m_less (c := c) (fun i hi => hc i k hi hk) q 0 0 (by omega) (by omega)
    have e0 : g_cnt (fun i => c i < c k) 0 = 0 := rfl
    omega
  have hlt : ∀ i k, i < q → k < q → c i < c k → r_less sz rd q i 0 0 < r_less sz rd q k 0 0 := fun i k hi hk h => by
    rw [hl i hi, hl k hk]
    have e1 := g_cnt_add (P := fun j => c j < c i) (t := i) hi (Nat.lt_irrefl _)
    have e2 : g_cnt (fun s => c s < c i ∨ s = i) q ≤ g_cnt (fun j => c j < c k) q := g_cnt_mono q (fun s _ h9 => by
      rcases h9 with h9 | h9
      · exact Nat.lt_trans h9 h
      · subst h9; exact h)
    omega
  have hq : ∀ k, k < q → r_less sz rd q k 0 0 < q := fun k hk => by
    rw [hl k hk]
    have e1 := g_cnt_add (P := fun j => c j < c k) (t := k) hk (Nat.lt_irrefl _)
    have e2 := g_cnt_le (fun s => c s < c k ∨ s = k) q
    omega
  have hinj : ∀ i j, i < q → j < q → r_less sz rd q i 0 0 = r_less sz rd q j 0 0 → i = j := fun i j hi hj h => by
    rcases Nat.lt_trichotomy (c i) (c j) with h1 | h1 | h1
    · have := hlt i j hi hj h1
      omega
    · exact hne i j hi hj h1
    · have := hlt j i hj hi h1
      omega
  have hgo := m_ord_go hinj q 0 od (by omega)
  have hsur : ∀ r, r < q → ∃ k, k < q ∧ r_less sz rd q k 0 0 = r := fun r hr => by
    by_cases h : ∃ k, k < q ∧ r_less sz rd q k 0 0 = r
    · exact h
    · exfalso
      have h2 : ∀ k, k < q → ¬ r_less sz rd q k 0 0 = r := fun k hk h9 => h ⟨k, hk, h9⟩
      obtain ⟨i, j, h3, h4, h5⟩ := g_pigeon (q - 1) (fun i => if r < r_less sz rd q i 0 0 then r_less sz rd q i 0 0 - 1 else r_less sz rd q i 0 0) (fun i hi => by
        have e1 := hq i (by omega)
        have e2 := h2 i (by omega)
        show (if r < r_less sz rd q i 0 0 then r_less sz rd q i 0 0 - 1 else r_less sz rd q i 0 0) < q - 1
        split <;> omega)
      have e1 := h2 i (by omega)
      have e2 := h2 j (by omega)
      have h5 : (if r < r_less sz rd q i 0 0 then r_less sz rd q i 0 0 - 1 else r_less sz rd q i 0 0) = (if r < r_less sz rd q j 0 0 then r_less sz rd q j 0 0 - 1 else r_less sz rd q j 0 0) := h5
      have : i = j := hinj i j (by omega) (by omega) (by split at h5 <;> split at h5 <;> omega)
      omega
  refine ⟨fun r hr => ?_, fun i j hi hj => ?_, fun k hk => ⟨_, hq k hk, hgo.1 k (Nat.zero_le _) hk⟩, fun r hr => hgo.2 r (fun j _ hj h9 => by have := hq j hj; omega)⟩
  · obtain ⟨k, k1, k2⟩ := hsur r hr
    rw [← k2, hgo.1 k (Nat.zero_le _) k1]
    exact k1
  · obtain ⟨k, k1, k2⟩ := hsur i (by omega)
    obtain ⟨l, l1, l2⟩ := hsur j hj
    rw [← k2, ← l2, hgo.1 k (Nat.zero_le _) k1, hgo.1 l (Nat.zero_le _) l1]
    rcases Nat.lt_trichotomy (c k) (c l) with h1 | h1 | h1
    · exact h1
    · have := hne k l k1 l1 h1
      subst this
      omega
    · have := hlt l k l1 k1 h1
      omega
def m_MB (x y : Nat → Int32) (n : Nat) (sz rd od : Nat → Nat) (q : Nat) (A B : Nat → Nat) : Prop :=
  w_list (w_X x) (w_X y) n q A B 1000 ∧ (∀ k, k < q → od k < q ∧ sz (od k) = g_cnt (g_S (w_X x) (w_X y) n (A k) (B k)) n ∧ g_ring (w_X x) (w_X y) (g_S (w_X x) (w_X y) n (A k) (B k)) (A k) (fun i => rd (20 * od k + i)) (sz (od k))) ∧ ∀ c, c < q → ∃ k, k < q ∧ od k = c
theorem g_ring_one {X Y : Nat → Int} {n a b m : Nat} {r : Nat → Nat} (hd : g_dis X Y n) (hP : g_P X Y n a b) (hr : g_ring X Y (g_S X Y n a b) a r m) : r 1 = b := by
  obtain ⟨c, hE⟩ := g_P_emp hP
  have h := g_ring_P hE hr (fun s hs => g_P_low hP hs)
  exact (g_P_uq hd h.1 hP h.2).2
/-- what the reference's make leaves -/
theorem m_order {x y : Nat → Int32} {n : Nat} (hb : g_box (w_X x) (w_X y) n) (hd : g_dis (w_X x) (w_X y) n) (hn : n ≤ 20) (sz rd od : Nat → Nat) : ∃ A B, m_MB x y n (r_ma x y n (sz, rd, 0) 0).1 (r_ma x y n (sz, rd, 0) 0).2.1 (r_ord (r_ma x y n (sz, rd, 0) 0).1 (r_ma x y n (sz, rd, 0) 0).2.1 (r_ma x y n (sz, rd, 0) 0).2.2 od 0) (r_ma x y n (sz, rd, 0) 0).2.2 A B := by
  obtain ⟨A, B, T, h⟩ := m_made hb hd hn sz rd
  generalize r_ma x y n (sz, rd, 0) 0 = z at h ⊢
  obtain ⟨sz', rd', q⟩ := z
  obtain ⟨l1, l2, l3⟩ := h
  dsimp only at l1 l2 l3 ⊢
  have hne : ∀ i k, i < q → k < q → 20 * A i + B i = 20 * A k + B k → i = k := fun i k hi hk h9 => by
    have p1 := g_P_n (l1 i hi).1
    have p2 := g_P_n (l1 k hk).1
    have e1 : A i = A k := by omega
    have e2 : B i = B k := by omega
    have t1 := (l1 i hi).2.1
    have t2 := (l1 k hk).2.1
    rw [e1, e2] at t1
    have := m_L3_uq (fun _ => Iff.rfl) t1 t2
    rcases Nat.lt_trichotomy i k with h8 | h8 | h8
    · have := l2 i k h8 hk
      omega
    · exact h8
    · have := l2 k i h8 hi
      omega
  have h3 : ∀ k, k < q → 3 ≤ sz' k := fun k hk => by
    obtain ⟨c1, _, _, _, c5⟩ := l1 k hk
    obtain ⟨c, hE⟩ := g_P_emp c1
    exact g_ring_3 hE c5
  have hR := m_rank (sz := sz') (rd := rd') (q := q) (c := fun k => 20 * A k + B k) (fun i k hi hk => by
    have p1 := g_P_n (l1 i hi).1
    have p2 := g_P_n (l1 k hk).1
    exact m_bef (h3 i hi) (h3 k hk) (l1 i hi).2.2.2.2.1 (g_ring_one hd (l1 i hi).1 (l1 i hi).2.2.2.2) (l1 k hk).2.2.2.2.1 (g_ring_one hd (l1 k hk).1 (l1 k hk).2.2.2.2) (by omega) (by omega) (fun e1 e2 => hne i k hi hk (by omega))) hne od
  obtain ⟨R1, R2, R3, _⟩ := hR
  refine ⟨fun k => A (r_ord sz' rd' q od 0 k), fun k => B (r_ord sz' rd' q od 0 k), ⟨fun k hk => ?_, R2, fun a b hp _ => ?_⟩, fun k hk => ?_, R3⟩
  · have e := (l1 _ (R1 k hk)).1
    have := g_P_n e
    exact ⟨e, by dsimp only; omega⟩
  · obtain ⟨c, hE⟩ := g_P_emp hp
    have hk := hE.2.2.2.1
    obtain ⟨t, ht⟩ := m_L3_ex (S := g_S (w_X x) (w_X y) n a b) (u := a) (v := b) (w := c) ⟨hE.1, c, hE, g_i_a _ _ a b c⟩ ⟨hE.2.1, c, hE, g_i_b _ _ a b c⟩ ⟨hE.2.2.1, c, hE, g_i_c _ _ a b c⟩ (fun h9 => by rw [h9, g_t_e] at hk; omega) (fun h9 => by rw [← h9, g_t_l] at hk; omega) (fun h9 => by rw [← h9, g_t_r] at hk; omega)
    obtain ⟨k, k1, k2, k3⟩ := l3 a b t hp ht (by
      obtain ⟨a', b', d', e, e1, e2, _, _, s3, _⟩ := ht
      have := s3.1
      omega)
    obtain ⟨r, r1, r2⟩ := R3 k k1
    exact ⟨r, r1, by dsimp only; rw [r2]; exact k2, by dsimp only; rw [r2]; exact k3⟩
  · have e := l1 _ (R1 k hk)
    exact ⟨R1 k hk, e.2.2.2.1, e.2.2.2.2⟩
