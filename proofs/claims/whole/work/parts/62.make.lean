/-! The reference's make: all cells, in the order in which they are found. -/
def m_L3 (S : Nat → Prop) (t : Nat) : Prop := ∃ a b d, t = 400 * a + 20 * b + d ∧ a < b ∧ b < d ∧ S a ∧ S b ∧ S d ∧ ∀ s, S s → s = a ∨ s = b ∨ d ≤ s
theorem m_L3_uq {S S' : Nat → Prop} {t t' : Nat} (hS : ∀ s, S s ↔ S' s) (h : m_L3 S t) (h' : m_L3 S' t') : t = t' := by
  obtain ⟨a, b, d, e, h1, h2, s1, s2, s3, s4⟩ := h
  obtain ⟨a', b', d', e', h1', h2', s1', s2', s3', s4'⟩ := h'
  have x1 := s4 a' ((hS _).mpr s1')
  have x2 := s4 b' ((hS _).mpr s2')
  have x3 := s4 d' ((hS _).mpr s3')
  have y1 := s4' a ((hS _).mp s1)
  have y2 := s4' b ((hS _).mp s2)
  have y3 := s4' d ((hS _).mp s3)
  omega
theorem m_L3_ex {S : Nat → Prop} {u v w : Nat} (hu : S u) (hv : S v) (hw : S w) (h1 : ¬ u = v) (h2 : ¬ u = w) (h3 : ¬ v = w) : ∃ t, m_L3 S t := by
  obtain ⟨a, _, a1, a2⟩ := g_least S u u (Nat.le_refl _) hu
  have hb : ∃ b, S b ∧ ¬ b = a := by
    by_cases h : u = a
    · exact ⟨v, hv, by omega⟩
    · exact ⟨u, hu, h⟩
  obtain ⟨b0, b1, b2⟩ := hb
  obtain ⟨b, _, ⟨b3, b4⟩, b5⟩ := g_least (fun s => S s ∧ ¬ s = a) b0 b0 (Nat.le_refl _) ⟨b1, b2⟩
  have hd : ∃ d, S d ∧ ¬ d = a ∧ ¬ d = b := by
    by_cases c1 : u = a ∨ u = b
    · by_cases c2 : v = a ∨ v = b
      · exact ⟨w, hw, by omega, by omega⟩
      · exact ⟨v, hv, by omega, by omega⟩
    · exact ⟨u, hu, by omega, by omega⟩
  obtain ⟨d0, d1, d2⟩ := hd
  obtain ⟨d, _, ⟨d3, d4⟩, d5⟩ := g_least (fun s => S s ∧ ¬ s = a ∧ ¬ s = b) d0 d0 (Nat.le_refl _) ⟨d1, d2⟩
  have lab : a < b := by
    by_cases h : a < b
    · exact h
    · exact absurd b3 (a2 b (by omega))
  have lbd : b < d := by
    by_cases h : b < d
    · exact h
    · exact absurd ⟨d3, d4.1⟩ (b5 d (by omega))
  refine ⟨_, a, b, d, rfl, lab, lbd, a1, b3, d3, fun s hs => ?_⟩
  by_cases c1 : s = a
  · exact Or.inl c1
  · by_cases c2 : s = b
    · exact Or.inr (Or.inl c2)
    · refine Or.inr (Or.inr ?_)
      by_cases h : d ≤ s
      · exact h
      · exact absurd ⟨hs, c1, c2⟩ (d5 s (by omega))
def m_MI (x y : Nat → Int32) (n : Nat) (z : (Nat → Nat) × (Nat → Nat) × Nat) (A B T : Nat → Nat) (co : Nat) : Prop :=
  (∀ k, k < z.2.2 → g_P (w_X x) (w_X y) n (A k) (B k) ∧ m_L3 (g_S (w_X x) (w_X y) n (A k) (B k)) (T k) ∧ T k < co ∧ z.1 k = g_cnt (g_S (w_X x) (w_X y) n (A k) (B k)) n ∧ g_ring (w_X x) (w_X y) (g_S (w_X x) (w_X y) n (A k) (B k)) (A k) (fun i => z.2.1 (20 * k + i)) (z.1 k)) ∧
  (∀ i j, i < j → j < z.2.2 → T i < T j) ∧ ∀ a b t, g_P (w_X x) (w_X y) n a b → m_L3 (g_S (w_X x) (w_X y) n a b) t → t < co → ∃ k, k < z.2.2 ∧ A k = a ∧ B k = b
section WM
variable {x y : Nat → Int32} {n : Nat}
theorem m_MI_up {z : (Nat → Nat) × (Nat → Nat) × Nat} {A B T : Nat → Nat} {co co' : Nat} (h : m_MI x y n z A B T co) (h1 : co ≤ co') (h2 : ∀ a b d, a < b → b < d → d < n → ¬ (co ≤ 400 * a + 20 * b + d ∧ 400 * a + 20 * b + d < co')) : m_MI x y n z A B T co' := by
  obtain ⟨l1, l2, l3⟩ := h
  refine ⟨fun k hk => ?_, l2, fun a b t hp hl hc => l3 a b t hp hl ?_⟩
  · obtain ⟨c1, c2, c3, c4⟩ := l1 k hk
    exact ⟨c1, c2, by omega, c4⟩
  · obtain ⟨a', b', d', e, e1, e2, _, _, s3, _⟩ := hl
    have := h2 a' b' d' e1 e2 s3.1
    omega
/-- a triple that begins a cell of the reference, or not -/
theorem m_step (hb : g_box (w_X x) (w_X y) n) (hd : g_dis (w_X x) (w_X y) n) (hn : n ≤ 20) {z : (Nat → Nat) × (Nat → Nat) × Nat} {a b d : Nat} (hab : a < b) (hbd : b < d) (hdn : d < n) :
    (∃ b' r m mk, g_P (w_X x) (w_X y) n a b' ∧ m_L3 (g_S (w_X x) (w_X y) n a b') (400 * a + 20 * b + d) ∧ m = g_cnt (g_S (w_X x) (w_X y) n a b') n ∧ g_ring (w_X x) (w_X y) (g_S (w_X x) (w_X y) n a b') a r m ∧ (∀ u, r_it x y n mk a u = r (u % m)) ∧ r_len x y n mk a 1 = m ∧ mk = r_on x y n a b d 0 0 ∧ r_mS x y n a b d z = (updN z.1 z.2.2 m, r_row x y n mk a z.2.1 z.2.2 m, z.2.2 + 1)) ∨ ((¬ ∃ u v, g_P (w_X x) (w_X y) n u v ∧ m_L3 (g_S (w_X x) (w_X y) n u v) (400 * a + 20 * b + d)) ∧ r_mS x y n a b d z = z ∧ ¬ (¬ r_turn x y a b (x d) (y d) = 0 ∧ ¬ r_on x y n a b d 0 0 = 0 ∧ r_on x y n a b d 0 0 &&& r_low a b d = 0)) := by
  have ha : a < n := by omega
  have hb1 : b < n := by omega
  have hT := w_l_z (w_rturn hb ha hb1 hdn)
  -- what a cell with these three lowest sites gives
  have back : ∀ u v, g_P (w_X x) (w_X y) n u v → m_L3 (g_S (w_X x) (w_X y) n u v) (400 * a + 20 * b + d) → g_S (w_X x) (w_X y) n u v a ∧ g_S (w_X x) (w_X y) n u v b ∧ g_S (w_X x) (w_X y) n u v d ∧ ∀ s, g_S (w_X x) (w_X y) n u v s → s = a ∨ s = b ∨ d ≤ s := fun u v _ hl => by
    obtain ⟨a', b', d', e, e1, e2, s1, s2, s3, s4⟩ := hl
    have x3 := s3.1
    have q1 : a' = a := by omega
    have q2 : b' = b := by omega
    have q3 : d' = d := by omega
    subst q1
    subst q2
    subst q3
    exact ⟨s1, s2, s3, s4⟩
  have backE : ∀ u v, g_P (w_X x) (w_X y) n u v → m_L3 (g_S (w_X x) (w_X y) n u v) (400 * a + 20 * b + d) → ¬ g_t (w_X x) (w_X y) a b d = 0 ∧ ∀ p q, m_or (w_X x) (w_X y) a b d p q → g_emp (w_X x) (w_X y) n a p q ∧ ∀ s, g_S (w_X x) (w_X y) n a p s ↔ g_S (w_X x) (w_X y) n u v s := fun u v hP hl => by
    obtain ⟨s1, s2, s3, _⟩ := back u v hP hl
    obtain ⟨c, hE⟩ := g_P_emp hP
    have e1 := (g_S_iff hE a).mp s1
    have e2 := (g_S_iff hE b).mp s2
    have e3 := (g_S_iff hE d).mp s3
    have hk := hE.2.2.2.1
    have hne : ¬ g_t (w_X x) (w_X y) a b d = 0 := fun h9 => by
      rcases g_col (w_X x) (w_X y) (by omega) (fun h8 => by have := hd a b ha hb1 h8; omega) e1.2 e2.2 e3.2 h9 with h8 | h8
      · have := hd d a hdn ha h8
        omega
      · have := hd d b hdn hb1 h8
        omega
    refine ⟨hne, fun p q ho => ?_⟩
    have hpq : g_emp (w_X x) (w_X y) n a p q ∧ ∀ s, g_i (w_X x) (w_X y) a p q s = 0 ↔ g_i (w_X x) (w_X y) u v c s = 0 := by
      rcases ho with ⟨h0, rfl, rfl⟩ | ⟨h0, rfl, rfl⟩
      · exact g_emp_tr hE ha hb1 hdn h0 e1.2 e2.2 e3.2
      · exact g_emp_tr hE ha hdn hb1 (by rw [g_t_swap]; omega) e1.2 e3.2 e2.2
    refine ⟨hpq.1, fun s => ?_⟩
    rw [g_S_iff hpq.1, g_S_iff hE, hpq.2]
  unfold r_mS
  by_cases h1 : r_turn x y a b (x d) (y d) = 0
  · right
    rw [if_pos h1]
    refine ⟨fun ⟨u, v, hP, hl⟩ => (backE u v hP hl).1 (hT.mp h1), rfl, fun h9 => h9.1 h1⟩
  · rw [if_neg h1]
    obtain ⟨p, q, ho⟩ := m_or_ex (X := w_X x) (Y := w_X y) (a := a) (b := b) (d := d) (fun h9 => h1 (hT.mpr h9))
    rcases m_on hb hn ha hb1 hdn ho with ⟨hE, hm⟩ | ⟨hE, h0⟩
    · have hSa : g_S (w_X x) (w_X y) n a p a := ⟨ha, q, hE, g_i_a _ _ a p q⟩
      have hSbd : g_S (w_X x) (w_X y) n a p b ∧ g_S (w_X x) (w_X y) n a p d := by
        rcases ho with ⟨_, rfl, rfl⟩ | ⟨_, rfl, rfl⟩
        · exact ⟨⟨hb1, q, hE, g_i_b _ _ a p q⟩, ⟨hdn, q, hE, g_i_c _ _ a p q⟩⟩
        · exact ⟨⟨hb1, q, hE, g_i_c _ _ a p q⟩, ⟨hdn, q, hE, g_i_b _ _ a p q⟩⟩
      have hnz : ¬ r_on x y n a b d 0 0 = 0 := fun h9 => by
        have := (hm a (by omega)).mpr hSa
        rw [h9, b_0] at this
        exact Bool.noConfusion this
      rw [if_neg hnz]
      by_cases h2 : r_on x y n a b d 0 0 &&& r_low a b d = 0
      · left
        rw [if_neg (fun h9 => h9 h2)]
        have hlow : ∀ s, g_S (w_X x) (w_X y) n a p s → s = a ∨ s = b ∨ d ≤ s := fun s hs => by
          by_cases c1 : s = a
          · exact Or.inl c1
          · by_cases c2 : s = b
            · exact Or.inr (Or.inl c2)
            · by_cases c3 : d ≤ s
              · exact Or.inr (Or.inr c3)
              · have hsn := hs.1
                have := congrArg (fun w => bt w s) h2
                simp only [b_and, b_0] at this
                rw [(hm s (by omega)).mpr hs, m_low (by omega) (by omega) (by omega) (by omega), decide_eq_true (show s < d by omega), decide_eq_false c1, decide_eq_false c2] at this
                exact Bool.noConfusion this
        obtain ⟨z0, r, hr, hz1, hz2⟩ := w_ring_ex hb hd hn hE
        have hz : z0 = a := by
          have := hz2 a hSa
          have := hlow z0 hz1
          omega
        subst hz
        have hP := g_ring_P hE hr hz2
        have hmn := g_cnt_le (g_S (w_X x) (w_X y) n z0 p) n
        have h3 := g_ring_3 hE hr
        have hcnt : g_cnt (g_S (w_X x) (w_X y) n z0 p) n = g_cnt (g_S (w_X x) (w_X y) n z0 (r 1)) n := g_cnt_eq n (fun s _ => (hP.2 s).symm)
        refine ⟨r 1, r, g_cnt (g_S (w_X x) (w_X y) n z0 p) n, r_on x y n z0 b d 0 0, hP.1, ⟨z0, b, d, rfl, hab, hbd, (hP.2 _).mpr hSa, (hP.2 _).mpr hSbd.1, (hP.2 _).mpr hSbd.2, fun s hs => hlow s ((hP.2 s).mp hs)⟩, hcnt, g_ring_cg (fun s => (hP.2 s).symm) (by omega) (fun _ _ => rfl) hr, m_it hb hn hE hr hm, ?_, rfl, ?_⟩
        · exact m_len hb hn hE hr hm (by omega) (g_cnt (g_S (w_X x) (w_X y) n z0 p) n) 1 (by omega) (by omega) (by omega)
        · rw [m_len hb hn hE hr hm (by omega) (g_cnt (g_S (w_X x) (w_X y) n z0 p) n) 1 (by omega) (by omega) (by omega)]
      · right
        rw [if_pos h2]
        refine ⟨fun ⟨u, v, hP, hl⟩ => h2 ?_, rfl, fun h9 => h2 h9.2.2⟩
        have hb2 := (back u v hP hl).2.2.2
        have hb3 := ((backE u v hP hl).2 p q ho).2
        apply b_ext
        intro i hi
        rw [b_and, b_0, m_low (by omega) (by omega) (by omega) hi]
        cases hbt : bt (r_on x y n a b d 0 0) i with
        | false => rfl
        | true =>
          have := hb2 i ((hb3 i).mp ((hm i hi).mp hbt))
          rcases this with c | c | c
          · rw [decide_eq_true c]; simp
          · rw [decide_eq_true c]; simp
          · rw [decide_eq_false (show ¬ i < d by omega)]; simp
    · right
      rw [if_pos h0]
      refine ⟨fun ⟨u, v, hP, hl⟩ => hE ((backE u v hP hl).2 p q ho).1, rfl, fun h9 => h9.2.1 h0⟩
theorem m_step_MI (hb : g_box (w_X x) (w_X y) n) (hd : g_dis (w_X x) (w_X y) n) (hn : n ≤ 20) {z : (Nat → Nat) × (Nat → Nat) × Nat} {a b d : Nat} (hab : a < b) (hbd : b < d) (hdn : d < n) (h : ∃ A B T, m_MI x y n z A B T (400 * a + 20 * b + d)) : ∃ A B T, m_MI x y n (r_mS x y n a b d z) A B T (400 * a + 20 * b + (d + 1)) := by
  obtain ⟨A, B, T, h⟩ := h
  rcases m_step hb hd hn (z := z) hab hbd hdn with ⟨b', r, m, mk, hP, hl, hm, hr, hit, hlen, _, e⟩ | ⟨hno, e, _⟩
  · rw [e]
    obtain ⟨sz, rd, q⟩ := z
    obtain ⟨l1, l2, l3⟩ := h
    dsimp only at l1 l2 l3 ⊢
    have hE : ∃ c, g_emp (w_X x) (w_X y) n a b' c := g_P_emp hP
    obtain ⟨c, hE⟩ := hE
    have h3 := g_ring_3 hE hr
    have hm20 := g_cnt_le (g_S (w_X x) (w_X y) n a b') n
    refine ⟨updN A q a, updN B q b', updN T q (400 * a + 20 * b + d), fun k hk => ?_, fun i j hi hj => ?_, fun u v t hp hl' ht => ?_⟩
    · have hk : k < q + 1 := hk
      by_cases h9 : k = q
      · subst h9
        dsimp only
        rw [updN_s, updN_s, updN_s, updN_s]
        refine ⟨hP, hl, by omega, hm, g_ring_cg (fun _ => Iff.rfl) (by omega) (fun i hi => ?_) hr⟩
        show r i = r_row x y n mk a rd k m (20 * k + i)
        unfold r_row
        rw [if_pos (by omega), Nat.add_sub_cancel_left, hit, Nat.mod_eq_of_lt hi]
      · obtain ⟨c1, c2, c3, c4, c5⟩ := l1 k (by omega)
        dsimp only
        rw [updN_n h9, updN_n h9, updN_n h9, updN_n h9]
        obtain ⟨c', hE'⟩ := g_P_emp c1
        have h3' := g_ring_3 hE' c5
        have hm' := g_cnt_le (g_S (w_X x) (w_X y) n (A k) (B k)) n
        refine ⟨c1, c2, by omega, c4, g_ring_cg (fun _ => Iff.rfl) (by omega) (fun i hi => ?_) c5⟩
        show rd (20 * k + i) = r_row x y n mk a rd q m (20 * k + i)
        unfold r_row
        rw [if_neg (by omega)]
    · have hj : j < q + 1 := hj
      rw [updN_n (show ¬ i = q by omega)]
      by_cases h9 : j = q
      · subst h9
        rw [updN_s]
        exact (l1 i hi).2.2.1
      · rw [updN_n h9]
        exact l2 i j hi (by omega)
    · by_cases h9 : t < 400 * a + 20 * b + d
      · obtain ⟨k, k1, k2, k3⟩ := l3 u v t hp hl' h9
        exact ⟨k, Nat.lt_succ_of_lt k1, by rw [updN_n (by omega)]; exact k2, by rw [updN_n (by omega)]; exact k3⟩
      · have ht2 : t = 400 * a + 20 * b + d := by omega
        subst ht2
        have hS : ∀ s, g_S (w_X x) (w_X y) n u v s ↔ g_S (w_X x) (w_X y) n a b' s := by
          obtain ⟨a1, b1, d1, q0, q1, q2, s1, s2, s3, _⟩ := hl'
          obtain ⟨a2, b2, d2, p0, p1, p2, t1, t2, t3, _⟩ := hl
          have x1 := s3.1
          have x2 := t3.1
          have y1 : a2 = a1 := by omega
          have y2 : b2 = b1 := by omega
          have y3 : d2 = d1 := by omega
          subst y1
          subst y2
          subst y3
          obtain ⟨c9, hE9⟩ := g_P_emp hp
          intro s
          have e1 := (g_S_iff hE9 _).mp s1
          have e2 := (g_S_iff hE9 _).mp s2
          have e3 := (g_S_iff hE9 _).mp s3
          have f1 := (g_S_iff hE _).mp t1
          have f2 := (g_S_iff hE _).mp t2
          have f3 := (g_S_iff hE _).mp t3
          have hk9 := hE.2.2.2.1
          have hne : ¬ g_t (w_X x) (w_X y) a2 b2 d2 = 0 := fun h9 => by
            rcases g_col (w_X x) (w_X y) (by omega) (fun h8 => by have := hd a2 b2 e1.1 e2.1 h8; omega) f1.2 f2.2 f3.2 h9 with h8 | h8
            · have := hd d2 a2 e3.1 e1.1 h8
              omega
            · have := hd d2 b2 e3.1 e2.1 h8
              omega
          rw [g_S_iff hE9, g_S_iff hE, g_same2 hE9 hE hne e1.1 e2.1 e3.1 e1.2 e2.2 e3.2 f1.2 f2.2 f3.2 s]
        have := g_P_uq hd hp hP hS
        exact ⟨q, Nat.lt_succ_self q, by rw [updN_s]; exact this.1.symm, by rw [updN_s]; exact this.2.symm⟩
  · rw [e]
    refine ⟨A, B, T, fun k hk => ?_, h.2.1, fun u v t hp hl ht => ?_⟩
    · obtain ⟨c1, c2, c3, c4⟩ := h.1 k hk
      exact ⟨c1, c2, by omega, c4⟩
    · by_cases h9 : t < 400 * a + 20 * b + d
      · exact h.2.2 u v t hp hl h9
      · have ht2 : t = 400 * a + 20 * b + d := by omega
        subst ht2
        exact absurd ⟨u, v, hp, hl⟩ hno
end WM
