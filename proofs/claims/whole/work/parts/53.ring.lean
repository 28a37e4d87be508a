/-! Rings: the sites of a cell in their order. -/
section GEO
variable (X Y : Nat → Int) (n : Nat)
def g_S (a b s : Nat) : Prop := s < n ∧ ∃ c, g_emp X Y n a b c ∧ g_i X Y a b c s = 0
def g_ring (S : Nat → Prop) (z : Nat) (r : Nat → Nat) (m : Nat) : Prop := r 0 = z ∧ (∀ i, i < m → S (r i)) ∧ (∀ s, S s → ∃ i, i < m ∧ r i = s) ∧ ∀ i j, 0 < i → i < j → j < m → 0 < g_t X Y z (r i) (r j)
def g_cons (r : Nat → Nat) (m u v : Nat) : Prop := ∃ i, i < m ∧ r i = u ∧ r ((i + 1) % m) = v
def g_P (a b : Nat) : Prop := ∃ c, g_emp X Y n a b c ∧ ∀ s, s < n → g_i X Y a b c s = 0 → a ≤ s ∧ 0 ≤ g_t X Y a b s
variable {X Y n}
theorem g_S_iff {a b c : Nat} (h : g_emp X Y n a b c) (s : Nat) : g_S X Y n a b s ↔ s < n ∧ g_i X Y a b c s = 0 := by
  constructor
  · rintro ⟨h1, d, h2, h3⟩
    exact ⟨h1, (g_uniq h h2 s).mpr h3⟩
  · rintro ⟨h1, h2⟩
    exact ⟨h1, c, h, h2⟩
theorem g_ring_3 {a b c z m : Nat} {r : Nat → Nat} (h : g_emp X Y n a b c) (hr : g_ring X Y (g_S X Y n a b) z r m) : 3 ≤ m := by
  obtain ⟨_, _, h3, _⟩ := hr
  obtain ⟨i, i1, i2⟩ := h3 a ⟨h.1, c, h, g_i_a X Y a b c⟩
  obtain ⟨j, j1, j2⟩ := h3 b ⟨h.2.1, c, h, g_i_b X Y a b c⟩
  obtain ⟨k, k1, k2⟩ := h3 c ⟨h.2.2.1, c, h, g_i_c X Y a b c⟩
  have ht := h.2.2.2.1
  have e1 : ¬ i = j := fun h9 => by
    subst h9
    rw [i2] at j2
    subst j2
    rw [g_t_e] at ht
    omega
  have e2 : ¬ i = k := fun h9 => by
    subst h9
    rw [i2] at k2
    subst k2
    rw [g_t_l] at ht
    omega
  have e3 : ¬ j = k := fun h9 => by
    subst h9
    rw [j2] at k2
    subst k2
    rw [g_t_r] at ht
    omega
  omega
theorem g_ring_cv {a b c z m : Nat} {r : Nat → Nat} (h : g_emp X Y n a b c) (hr : g_ring X Y (g_S X Y n a b) z r m) {i j l : Nat} (h1 : i < j) (h2 : j < l) (h3 : l < m) : 0 < g_t X Y (r i) (r j) (r l) := by
  obtain ⟨r0, r1, r2, r3⟩ := hr
  by_cases h0 : i = 0
  · subst h0
    rw [r0]
    exact r3 j l h1 h2 h3
  · have sz := (g_S_iff h _).mp (r1 0 (by omega))
    have si := (g_S_iff h _).mp (r1 i (by omega))
    have sj := (g_S_iff h _).mp (r1 j (by omega))
    have sl := (g_S_iff h _).mp (r1 l (by omega))
    rw [r0] at sz
    exact g_conv X Y h.2.2.2.1 sz.2 si.2 sj.2 sl.2 (r3 i j (by omega) h1 (by omega)) (r3 j l (by omega) h2 h3)
theorem g_ring_inj {a b c z m : Nat} {r : Nat → Nat} (h : g_emp X Y n a b c) (hr : g_ring X Y (g_S X Y n a b) z r m) {i j : Nat} (hi : i < j) (hj : j < m) : ¬ r i = r j := fun h9 => by
  have h3 := g_ring_3 h hr
  by_cases h0 : i = 0
  · subst h0
    by_cases h1 : j = 1
    · subst h1
      have := g_ring_cv h hr (i := 0) (j := 1) (l := 2) (by omega) (by omega) (by omega)
      rw [h9, g_t_e] at this
      omega
    · have := g_ring_cv h hr (i := 0) (j := 1) (l := j) (by omega) (by omega) (by omega)
      rw [h9, g_t_l] at this
      omega
  · have := g_ring_cv h hr (i := 0) (j := i) (l := j) (by omega) (by omega) (by omega)
    rw [h9, g_t_r] at this
    omega
theorem g_ring_inj2 {a b c z m : Nat} {r : Nat → Nat} (h : g_emp X Y n a b c) (hr : g_ring X Y (g_S X Y n a b) z r m) {i j : Nat} (hi : i < m) (hj : j < m) (h9 : r i = r j) : i = j := by
  rcases Nat.lt_trichotomy i j with h1 | h1 | h1
  · exact absurd h9 (g_ring_inj h hr h1 hj)
  · exact h1
  · exact absurd h9.symm (g_ring_inj h hr h1 hi)
theorem g_nx {i m : Nat} (h : i < m) : (i + 1) % m = if i + 1 < m then i + 1 else 0 := by
  split
  · exact Nat.mod_eq_of_lt (by omega)
  · have : i + 1 = m := by omega
    rw [this, Nat.mod_self]
theorem g_ring_nx {a b c z m : Nat} {r : Nat → Nat} (h : g_emp X Y n a b c) (hr : g_ring X Y (g_S X Y n a b) z r m) {i l : Nat} (hi : i < m) (hl : l < m) (h1 : ¬ l = i) (h2 : ¬ l = (i + 1) % m) : 0 < g_t X Y (r i) (r ((i + 1) % m)) (r l) := by
  have h3 := g_ring_3 h hr
  rw [g_nx hi] at h2 ⊢
  split
  · rename_i h4
    rw [if_pos h4] at h2
    by_cases h5 : i + 1 < l
    · exact g_ring_cv h hr (by omega) h5 hl
    · have := g_ring_cv h hr (i := l) (j := i) (l := i + 1) (by omega) (by omega) h4
      rw [g_t_cyc]
      exact this
  · rename_i h4
    rw [if_neg h4] at h2
    have := g_ring_cv h hr (i := 0) (j := l) (l := i) (by omega) (by omega) hi
    rw [g_t_cyc] at this
    exact this
theorem g_ring_ge {a b c z m : Nat} {r : Nat → Nat} (h : g_emp X Y n a b c) (hr : g_ring X Y (g_S X Y n a b) z r m) {i : Nat} (hi : i < m) {s : Nat} (hs : g_S X Y n a b s) : 0 ≤ g_t X Y (r i) (r ((i + 1) % m)) s := by
  obtain ⟨l, l1, l2⟩ := hr.2.2.1 s hs
  subst l2
  by_cases h1 : l = i
  · subst h1; rw [g_t_l]; exact Int.le_refl 0
  · by_cases h2 : l = (i + 1) % m
    · rw [← h2, g_t_r]; exact Int.le_refl 0
    · exact Int.le_of_lt (g_ring_nx h hr hi l1 h1 h2)
theorem g_ring_cons {a b c z m : Nat} {r : Nat → Nat} (h : g_emp X Y n a b c) (hr : g_ring X Y (g_S X Y n a b) z r m) {u v : Nat} (hu : g_S X Y n a b u) (hv : g_S X Y n a b v) (hne : ¬ u = v) (hg : ∀ s, g_S X Y n a b s → 0 ≤ g_t X Y u v s) : g_cons r m u v := by
  obtain ⟨i, i1, i2⟩ := hr.2.2.1 u hu
  obtain ⟨l, l1, l2⟩ := hr.2.2.1 v hv
  refine ⟨i, i1, i2, ?_⟩
  by_cases h1 : l = (i + 1) % m
  · rw [← h1]; exact l2
  · exfalso
    have h2 : ¬ l = i := fun h9 => by subst h9; exact hne (i2.symm.trans l2)
    have h3 := g_ring_nx h hr i1 l1 h2 h1
    have h4 := hg (r ((i + 1) % m)) (hr.2.1 _ (Nat.mod_lt _ (by omega)))
    rw [i2, l2] at h3
    rw [g_t_swap] at h4
    omega
theorem g_third {m i : Nat} (hm : 3 ≤ m) (hi : i < m) : ∃ l, l < m ∧ ¬ l = i ∧ ¬ l = (i + 1) % m := by
  rw [g_nx hi]
  split
  · by_cases h0 : i = 0
    · exact ⟨2, by omega, by omega, by omega⟩
    · exact ⟨0, by omega, by omega, by omega⟩
  · exact ⟨1, by omega, by omega, by omega⟩
theorem g_ring_side {a b c z m : Nat} {r : Nat → Nat} (h : g_emp X Y n a b c) (hr : g_ring X Y (g_S X Y n a b) z r m) {u v : Nat} (hc : g_cons r m u v) : g_side X Y n u v ∧ ∀ s, g_S X Y n u v s ↔ g_S X Y n a b s := by
  obtain ⟨i, hi, e1, e2⟩ := hc
  have h3 := g_ring_3 h hr
  obtain ⟨l, l1, l2, l3⟩ := g_third h3 hi
  have hp := g_ring_nx h hr hi l1 l2 l3
  have s1 := (g_S_iff h _).mp (hr.2.1 i hi)
  have s2 := (g_S_iff h _).mp (hr.2.1 _ (Nat.mod_lt (i + 1) (show 0 < m by omega)))
  have s3 := (g_S_iff h _).mp (hr.2.1 l l1)
  have hg := fun s hs => g_ring_ge h hr hi (s := s) hs
  rw [e1] at s1
  rw [e2] at s2
  rw [e1, e2] at hp
  rw [e1, e2] at hg
  have ht := g_emp_tr h s1.1 s2.1 s3.1 hp s1.2 s2.2 s3.2
  refine ⟨⟨r l, ht.1, fun s hs h9 => hg s ((g_S_iff h s).mpr ⟨hs, (ht.2 s).mp h9⟩)⟩, fun s => ?_⟩
  rw [g_S_iff ht.1, g_S_iff h, ht.2]
theorem g_side_cons {a b c z m : Nat} {r : Nat → Nat} (h : g_emp X Y n a b c) (hr : g_ring X Y (g_S X Y n a b) z r m) {u v : Nat} (hs : g_side X Y n u v) (he : ∀ s, g_S X Y n u v s ↔ g_S X Y n a b s) : g_cons r m u v := by
  have hne := g_side_ne hs
  obtain ⟨d, hd, hd2⟩ := hs
  refine g_ring_cons h hr ((he u).mp ⟨hd.1, d, hd, g_i_a X Y u v d⟩) ((he v).mp ⟨hd.2.1, d, hd, g_i_b X Y u v d⟩) hne (fun s h9 => ?_)
  have := (g_S_iff hd s).mp ((he s).mpr h9)
  exact hd2 s this.1 this.2
theorem g_ring_uq {a b c z m m' : Nat} {r r' : Nat → Nat} (h : g_emp X Y n a b c) (hr : g_ring X Y (g_S X Y n a b) z r m) (hr' : g_ring X Y (g_S X Y n a b) z r' m') : m = m' ∧ ∀ i, i < m → r i = r' i := by
  have key : ∀ f i, i ≤ f → i < m → i < m' → r i = r' i := by
    intro f
    induction f with
    | zero =>
      intro i hf _ _
      have : i = 0 := by omega
      subst this
      rw [hr.1, hr'.1]
    | succ f ih =>
      intro i hf h1 h2
      by_cases h0 : i = 0
      · subst h0; rw [hr.1, hr'.1]
      · obtain ⟨j, j1, j2⟩ := hr'.2.2.1 (r i) (hr.2.1 i h1)
        obtain ⟨k, k1, k2⟩ := hr.2.2.1 (r' i) (hr'.2.1 i h2)
        by_cases h3 : j < i
        · have := ih j (by omega) (by omega) j1
          exact absurd (this.trans j2) (g_ring_inj h hr h3 h1)
        · by_cases h4 : j = i
          · subst h4; exact j2.symm
          · by_cases h5 : k < i
            · have := ih k (by omega) k1 (by omega)
              exact absurd (this.symm.trans k2) (g_ring_inj h hr' h5 h2)
            · by_cases h6 : k = i
              · subst h6; exact k2
              · exfalso
                have e1 := hr.2.2.2 i k (by omega) (by omega) k1
                have e2 := hr'.2.2.2 i j (by omega) (by omega) j1
                rw [k2] at e1
                rw [j2, g_t_swap] at e2
                omega
  have hm : m = m' := by
    rcases Nat.lt_trichotomy m m' with h1 | h1 | h1
    · exfalso
      obtain ⟨k, k1, k2⟩ := hr.2.2.1 (r' m) (hr'.2.1 m h1)
      rw [key k k (Nat.le_refl _) k1 (by omega)] at k2
      exact g_ring_inj h hr' k1 h1 k2
    · exact h1
    · exfalso
      obtain ⟨k, k1, k2⟩ := hr'.2.2.1 (r m') (hr.2.1 m' h1)
      rw [← key k k (Nat.le_refl _) (by omega) k1] at k2
      exact g_ring_inj h hr k1 h1 k2
  exact ⟨hm, fun i hi => key i i (Nat.le_refl _) hi (by omega)⟩
theorem g_P_emp {a b : Nat} (h : g_P X Y n a b) : ∃ c, g_emp X Y n a b c := by
  obtain ⟨c, h1, _⟩ := h
  exact ⟨c, h1⟩
theorem g_P_low {a b : Nat} (h : g_P X Y n a b) {s : Nat} (hs : g_S X Y n a b s) : a ≤ s := by
  obtain ⟨c, h1, h2⟩ := h
  have := (g_S_iff h1 s).mp hs
  exact (h2 s this.1 this.2).1
theorem g_P_side {a b : Nat} (h : g_P X Y n a b) : g_side X Y n a b := by
  obtain ⟨c, h1, h2⟩ := h
  exact ⟨c, h1, fun s hs h9 => (h2 s hs h9).2⟩
theorem g_S_l {a b : Nat} (h : g_side X Y n a b) : g_S X Y n a b a := by
  obtain ⟨c, h1, h2⟩ := h
  exact ⟨h1.1, c, h1, g_i_a X Y a b c⟩
theorem g_S_r {a b : Nat} (h : g_side X Y n a b) : g_S X Y n a b b := by
  obtain ⟨c, h1, h2⟩ := h
  exact ⟨h1.2.1, c, h1, g_i_b X Y a b c⟩
theorem g_P_lt {a b : Nat} (h : g_P X Y n a b) : a < b := by
  have h1 := g_P_low h (g_S_r (g_P_side h))
  have h2 := g_side_ne (g_P_side h)
  omega
/-- a cell is told by its lowest site and the next in its ring -/
theorem g_P_uq (hd : g_dis X Y n) {a b u v : Nat} (h : g_P X Y n a b) (h' : g_P X Y n u v) (he : ∀ s, g_S X Y n a b s ↔ g_S X Y n u v s) : a = u ∧ b = v := by
  have h1 := g_P_low h ((he u).mpr (g_S_l (g_P_side h')))
  have h2 := g_P_low h' ((he a).mp (g_S_l (g_P_side h)))
  have h3 : a = u := by omega
  subst h3
  refine ⟨rfl, ?_⟩
  have sb := (he b).mp (g_S_r (g_P_side h))
  have sv := (he v).mpr (g_S_r (g_P_side h'))
  obtain ⟨c, c1, c2⟩ := id h
  obtain ⟨d, d1, d2⟩ := id h'
  have e1 := (g_S_iff c1 v).mp sv
  have e2 := (g_S_iff d1 b).mp sb
  have f1 := (c2 v e1.1 e1.2).2
  have f2 := (d2 b e2.1 e2.2).2
  rw [g_t_swap] at f2
  have ht : g_t X Y a b v = 0 := by omega
  have k := c1.2.2.2.1
  rcases g_col X Y (by omega) (g_emp_ne c1) (g_i_a X Y a b c) (g_i_b X Y a b c) e1.2 ht with h4 | h4
  · exact absurd (hd v a e1.1 c1.1 h4) (fun h9 => by subst h9; exact g_side_ne (g_P_side h') rfl)
  · exact (hd v b e1.1 c1.2.1 h4).symm
theorem g_ring_P {a b c z m : Nat} {r : Nat → Nat} (h : g_emp X Y n a b c) (hr : g_ring X Y (g_S X Y n a b) z r m) (hz : ∀ s, g_S X Y n a b s → z ≤ s) : g_P X Y n z (r 1) ∧ ∀ s, g_S X Y n z (r 1) s ↔ g_S X Y n a b s := by
  have h3 := g_ring_3 h hr
  have hc : g_cons r m z (r 1) := ⟨0, by omega, hr.1, by rw [Nat.mod_eq_of_lt (by omega)]⟩
  have hs := g_ring_side h hr hc
  refine ⟨?_, hs.2⟩
  obtain ⟨d, d1, d2⟩ := hs.1
  refine ⟨d, d1, fun s hs9 h9 => ⟨hz s ((hs.2 s).mp ((g_S_iff d1 s).mpr ⟨hs9, h9⟩)), d2 s hs9 h9⟩⟩
/-- two sides that are the same stand in the same cell -/
theorem g_cons_uq {a b c z m a' b' c' z' m' : Nat} {r r' : Nat → Nat} (h : g_emp X Y n a b c) (hr : g_ring X Y (g_S X Y n a b) z r m) (h' : g_emp X Y n a' b' c') (hr' : g_ring X Y (g_S X Y n a' b') z' r' m') {u v : Nat} (h1 : g_cons r m u v) (h2 : g_cons r' m' u v) (s : Nat) : g_S X Y n a b s ↔ g_S X Y n a' b' s :=
  ((g_ring_side h hr h1).2 s).symm.trans ((g_ring_side h' hr' h2).2 s)
end GEO
