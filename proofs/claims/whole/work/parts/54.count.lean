/-! Counting: pigeons, rounds, rows in order, tokens. -/
theorem g_pigeon : ∀ (n : Nat) (g : Nat → Nat), (∀ i, i ≤ n → g i < n) → ∃ i j, i < j ∧ j ≤ n ∧ g i = g j := by
  intro n
  induction n with
  | zero => intro g h; exact absurd (h 0 (Nat.le_refl _)) (Nat.not_lt_zero _)
  | succ n ih =>
    intro g h
    by_cases h1 : ∃ i, i ≤ n ∧ g i = g (n + 1)
    · obtain ⟨i, i1, i2⟩ := h1
      exact ⟨i, n + 1, by omega, Nat.le_refl _, i2⟩
    · have h2 : ∀ i, i ≤ n → ¬ g i = g (n + 1) := fun i hi h9 => h1 ⟨i, hi, h9⟩
      have hv := h (n + 1) (Nat.le_refl _)
      obtain ⟨i, j, h3, h4, h5⟩ := ih (fun i => if g (n + 1) < g i then g i - 1 else g i) (fun i hi => by
        have e1 := h i (by omega)
        have e2 := h2 i hi
        show (if g (n + 1) < g i then g i - 1 else g i) < n
        split <;> omega)
      refine ⟨i, j, h3, by omega, ?_⟩
      have e1 := h2 i (by omega)
      have e2 := h2 j h4
      have h5 : (if g (n + 1) < g i then g i - 1 else g i) = (if g (n + 1) < g j then g j - 1 else g j) := h5
      split at h5 <;> split at h5 <;> omega
theorem g_least (P : Nat → Prop) : ∀ (f N : Nat), N ≤ f → P N → ∃ m, m ≤ N ∧ P m ∧ ∀ k, k < m → ¬ P k := by
  intro f
  induction f with
  | zero =>
    intro N h1 h2
    have : N = 0 := by omega
    subst this
    exact ⟨0, Nat.le_refl _, h2, fun k hk => absurd hk (Nat.not_lt_zero _)⟩
  | succ f ih =>
    intro N h1 h2
    by_cases h3 : ∃ k, k < N ∧ P k
    · obtain ⟨k, k1, k2⟩ := h3
      obtain ⟨m, m1, m2, m3⟩ := ih k (by omega) k2
      exact ⟨m, by omega, m2, m3⟩
    · exact ⟨N, Nat.le_refl _, h2, fun k hk h4 => h3 ⟨k, hk, h4⟩⟩
def g_it (f : Nat → Nat) (z : Nat) : Nat → Nat
  | 0 => z
  | u + 1 => f (g_it f z u)
theorem g_it_B {f : Nat → Nat} {B : Nat → Prop} (hB : ∀ s, B s → B (f s)) {z : Nat} (hz : B z) : ∀ u, B (g_it f z u) := by
  intro u
  induction u with
  | zero => exact hz
  | succ u ih => exact hB _ ih
theorem g_cycle (f : Nat → Nat) (B : Nat → Prop) (n : Nat) (hn : ∀ s, B s → s < n) (hB : ∀ s, B s → B (f s)) (inj : ∀ s t, B s → B t → f s = f t → s = t) (z : Nat) (hz : B z) : ∃ N, 0 < N ∧ N ≤ n ∧ g_it f z N = z ∧ ∀ u, 0 < u → u < N → ¬ g_it f z u = z := by
  have hb := g_it_B hB hz
  obtain ⟨i, j, h1, h2, h3⟩ := g_pigeon n (g_it f z) (fun i _ => hn _ (hb i))
  have back : ∀ i d, g_it f z i = g_it f z (i + d) → g_it f z d = z := by
    intro i
    induction i with
    | zero => intro d h; rw [Nat.zero_add] at h; exact h.symm
    | succ i ih =>
      intro d h
      rw [show i + 1 + d = (i + d) + 1 by omega] at h
      exact ih d (inj _ _ (hb i) (hb (i + d)) h)
  have h4 := back i (j - i) (by rw [show i + (j - i) = j by omega]; exact h3)
  obtain ⟨m, m1, m2, m3⟩ := g_least (fun k => 0 < k ∧ g_it f z k = z) (j - i) (j - i) (Nat.le_refl _) ⟨by omega, h4⟩
  exact ⟨m, m2.1, by omega, m2.2, fun u u1 u2 u3 => m3 u u2 ⟨u1, u3⟩⟩
theorem g_mono {f : Nat → Nat} {p : Nat} (hf : ∀ i, i + 1 < p → f i < f (i + 1)) : ∀ d i, i + d + 1 < p → f i < f (i + d + 1) := by
  intro d
  induction d with
  | zero => intro i h; exact hf i (by omega)
  | succ d ih =>
    intro i h
    have h1 := ih i (by omega)
    have h2 := hf (i + d + 1) (by omega)
    show f i < f (i + d + 1 + 1)
    omega
theorem g_sorteq {f g : Nat → Nat} {p q : Nat} (hf : ∀ i j, i < j → j < p → f i < f j) (hg : ∀ i j, i < j → j < q → g i < g j) (h1 : ∀ i, i < p → ∃ j, j < q ∧ g j = f i) (h2 : ∀ j, j < q → ∃ i, i < p ∧ f i = g j) : p = q ∧ ∀ i, i < p → f i = g i := by
  have key : ∀ t i, i ≤ t → i < p → i < q → f i = g i := by
    intro t
    induction t with
    | zero =>
      intro i ht hp hq
      have : i = 0 := by omega
      subst this
      obtain ⟨j, j1, j2⟩ := h1 0 hp
      obtain ⟨k, k1, k2⟩ := h2 0 hq
      have e1 : g 0 ≤ g j := by
        by_cases h0 : j = 0
        · subst h0; exact Nat.le_refl _
        · exact Nat.le_of_lt (hg 0 j (by omega) j1)
      have e2 : f 0 ≤ f k := by
        by_cases h0 : k = 0
        · subst h0; exact Nat.le_refl _
        · exact Nat.le_of_lt (hf 0 k (by omega) k1)
      omega
    | succ t ih =>
      intro i ht hp hq
      obtain ⟨j, j1, j2⟩ := h1 i hp
      obtain ⟨k, k1, k2⟩ := h2 i hq
      have e1 : g i ≤ g j := by
        rcases Nat.lt_trichotomy i j with h0 | h0 | h0
        · exact Nat.le_of_lt (hg i j h0 j1)
        · subst h0; exact Nat.le_refl _
        · have a1 := ih j (by omega) (by omega) j1
          have a2 := hf j i h0 hp
          omega
      have e2 : f i ≤ f k := by
        rcases Nat.lt_trichotomy i k with h0 | h0 | h0
        · exact Nat.le_of_lt (hf i k h0 k1)
        · subst h0; exact Nat.le_refl _
        · have a1 := ih k (by omega) k1 (by omega)
          have a2 := hg k i h0 hq
          omega
      omega
  have hpq : p = q := by
    rcases Nat.lt_trichotomy p q with h0 | h0 | h0
    · exfalso
      obtain ⟨i, i1, i2⟩ := h2 p h0
      have a1 := key i i (Nat.le_refl _) i1 (by omega)
      have a2 := hg i p i1 h0
      omega
    · exact h0
    · exfalso
      obtain ⟨i, i1, i2⟩ := h1 q h0
      have a1 := key i i (Nat.le_refl _) (by omega) i1
      have a2 := hf i q i1 h0
      omega
  exact ⟨hpq, fun i hi => key i i (Nat.le_refl _) hi (by omega)⟩
noncomputable def g_cnt (P : Nat → Prop) : Nat → Nat
  | 0 => 0
  | N + 1 => g_cnt P N + @ite Nat (P N) (Classical.propDecidable _) 1 0
theorem g_cnt_t {P : Nat → Prop} {N : Nat} (h : P N) : g_cnt P (N + 1) = g_cnt P N + 1 := by
  show g_cnt P N + @ite Nat (P N) (Classical.propDecidable _) 1 0 = _
  rw [if_pos h]
theorem g_cnt_f {P : Nat → Prop} {N : Nat} (h : ¬ P N) : g_cnt P (N + 1) = g_cnt P N := by
  show g_cnt P N + @ite Nat (P N) (Classical.propDecidable _) 1 0 = _
  rw [if_neg h]
  rfl
theorem g_cnt_le (P : Nat → Prop) (N : Nat) : g_cnt P N ≤ N := by
  induction N with
  | zero => exact Nat.le_refl _
  | succ N ih =>
    by_cases h : P N
    · rw [g_cnt_t h]; omega
    · rw [g_cnt_f h]; omega
theorem g_cnt_mono {P Q : Nat → Prop} : ∀ N, (∀ s, s < N → P s → Q s) → g_cnt P N ≤ g_cnt Q N := by
  intro N
  induction N with
  | zero => intro _; exact Nat.le_refl _
  | succ N ih =>
    intro h
    have h1 := ih (fun s hs => h s (by omega))
    by_cases hP : P N
    · rw [g_cnt_t hP, g_cnt_t (h N (by omega) hP)]; omega
    · rw [g_cnt_f hP]
      by_cases hQ : Q N
      · rw [g_cnt_t hQ]; omega
      · rw [g_cnt_f hQ]; exact h1
theorem g_cnt_eq {P Q : Nat → Prop} (N : Nat) (h : ∀ s, s < N → (P s ↔ Q s)) : g_cnt P N = g_cnt Q N :=
  Nat.le_antisymm (g_cnt_mono N (fun s hs => (h s hs).mp)) (g_cnt_mono N (fun s hs => (h s hs).mpr))
theorem g_cnt_or {P Q : Nat → Prop} : ∀ N, (∀ s, s < N → ¬ (P s ∧ Q s)) → g_cnt (fun s => P s ∨ Q s) N = g_cnt P N + g_cnt Q N := by
  intro N
  induction N with
  | zero => intro _; rfl
  | succ N ih =>
    intro h
    have h1 := ih (fun s hs => h s (by omega))
    have h2 := h N (by omega)
    by_cases hP : P N
    · have hQ : ¬ Q N := fun hQ => h2 ⟨hP, hQ⟩
      rw [g_cnt_t (P := fun s => P s ∨ Q s) (Or.inl hP), g_cnt_t hP, g_cnt_f hQ]; omega
    · by_cases hQ : Q N
      · rw [g_cnt_t (P := fun s => P s ∨ Q s) (Or.inr hQ), g_cnt_f hP, g_cnt_t hQ]; omega
      · rw [g_cnt_f (P := fun s => P s ∨ Q s) (fun h9 => h9.elim hP hQ), g_cnt_f hP, g_cnt_f hQ]; exact h1
theorem g_cnt_split (P Q : Nat → Prop) : ∀ N, g_cnt P N = g_cnt (fun s => P s ∧ Q s) N + g_cnt (fun s => P s ∧ ¬ Q s) N := by
  intro N
  rw [← g_cnt_or (P := fun s => P s ∧ Q s) (Q := fun s => P s ∧ ¬ Q s) N (fun s _ h => h.2.2 h.1.2)]
  refine g_cnt_eq N (fun s _ => ⟨fun h => ?_, fun h => h.elim (fun h => h.1) (fun h => h.1)⟩)
  by_cases hq : Q s
  · exact Or.inl ⟨h, hq⟩
  · exact Or.inr ⟨h, hq⟩
theorem g_cnt_0 {P : Nat → Prop} : ∀ N, (∀ s, s < N → ¬ P s) → g_cnt P N = 0 := by
  intro N
  induction N with
  | zero => intro _; rfl
  | succ N ih => intro h; rw [g_cnt_f (h N (by omega))]; exact ih (fun s hs => h s (by omega))
theorem g_cnt_1 {P : Nat → Prop} : ∀ N, (∀ s t, s < N → t < N → P s → P t → s = t) → g_cnt P N ≤ 1 := by
  intro N
  induction N with
  | zero => intro _; exact Nat.zero_le _
  | succ N ih =>
    intro h
    by_cases hP : P N
    · rw [g_cnt_t hP, g_cnt_0 N (fun s hs h9 => by have := h s N (by omega) (by omega) h9 hP; omega)]
      exact Nat.le_refl _
    · rw [g_cnt_f hP]
      exact ih (fun s t hs ht => h s t (by omega) (by omega))
theorem g_cnt_is {t : Nat} : ∀ N, t < N → g_cnt (fun s => s = t) N = 1 := by
  intro N
  induction N with
  | zero => intro h; exact absurd h (Nat.not_lt_zero _)
  | succ N ih =>
    intro h
    by_cases h1 : N = t
    · subst h1
      rw [g_cnt_t (P := fun s => s = N) rfl, g_cnt_0 N (fun s hs h9 => by omega)]
    · rw [g_cnt_f (P := fun s => s = t) h1]
      exact ih (by omega)
theorem g_cnt_add {P : Nat → Prop} {t N : Nat} (ht : t < N) (h : ¬ P t) : g_cnt (fun s => P s ∨ s = t) N = g_cnt P N + 1 := by
  rw [g_cnt_or (P := P) (Q := fun s => s = t) N (fun s _ h9 => h (by have h8 : s = t := h9.2; rw [← h8]; exact h9.1)), g_cnt_is N ht]
theorem g_cnt_3 {P : Nat → Prop} {a b c N : Nat} (ha : a < N) (hb : b < N) (hc : c < N) (h1 : ¬ a = b) (h2 : ¬ a = c) (h3 : ¬ b = c) (pa : P a) (pb : P b) (pc : P c) : 3 ≤ g_cnt P N := by
  have e1 := g_cnt_add (P := fun _ => False) (t := a) ha (fun h => h)
  have e2 := g_cnt_add (P := fun s => False ∨ s = a) (t := b) hb (fun h => h.elim (fun h => h) (fun h => h1 h.symm))
  have e3 := g_cnt_add (P := fun s => (False ∨ s = a) ∨ s = b) (t := c) hc (fun h => h.elim (fun h => h.elim (fun h => h) (fun h => h2 h.symm)) (fun h => h3 h.symm))
  have e4 : g_cnt (fun s => ((False ∨ s = a) ∨ s = b) ∨ s = c) N ≤ g_cnt P N := g_cnt_mono N (fun s _ h => by
    rcases h with ((h | h) | h) | h
    · exact h.elim
    · subst h; exact pa
    · subst h; exact pb
    · subst h; exact pc)
  omega
theorem g_cnt_two (M T : Nat → Prop) : ∀ n, (∀ v, v < n → M v → T (2 * v) ∨ T (2 * v + 1)) → g_cnt M n ≤ g_cnt T (2 * n) := by
  intro n
  induction n with
  | zero => intro _; exact Nat.le_refl _
  | succ n ih =>
    intro h
    have h1 := ih (fun v hv => h v (by omega))
    show g_cnt M (n + 1) ≤ g_cnt T (2 * n + 1 + 1)
    have e1 : g_cnt T (2 * n) ≤ g_cnt T (2 * n + 1) := Nat.le_add_right _ _
    have e2 : g_cnt T (2 * n + 1) ≤ g_cnt T (2 * n + 1 + 1) := Nat.le_add_right _ _
    by_cases hM : M n
    · rw [g_cnt_t hM]
      rcases h n (by omega) hM with h2 | h2
      · have := g_cnt_t h2
        omega
      · have := g_cnt_t h2
        omega
    · rw [g_cnt_f hM]
      omega
theorem g_cnt_five {P : Nat → Prop} {a b c d e N : Nat} (ha : a < N) (hb : b < N) (hc : c < N) (hd : d < N) (he : e < N) (pa : ¬ P a) (pb : ¬ P b) (pc : ¬ P c) (pd : ¬ P d) (pe : ¬ P e) (h : ¬ b = a ∧ ¬ c = a ∧ ¬ c = b ∧ ¬ d = a ∧ ¬ d = b ∧ ¬ d = c ∧ ¬ e = a ∧ ¬ e = b ∧ ¬ e = c ∧ ¬ e = d) : g_cnt P N + 5 ≤ N := by
  obtain ⟨h1, h2, h3, h4, h5, h6, h7, h8, h9, h10⟩ := h
  have e1 := g_cnt_add (P := P) ha pa
  have e2 := g_cnt_add (P := fun s => P s ∨ s = a) hb (fun h => h.elim pb h1)
  have e3 := g_cnt_add (P := fun s => (P s ∨ s = a) ∨ s = b) hc (fun h => h.elim (fun h => h.elim pc h2) h3)
  have e4 := g_cnt_add (P := fun s => ((P s ∨ s = a) ∨ s = b) ∨ s = c) hd (fun h => h.elim (fun h => h.elim (fun h => h.elim pd h4) h5) h6)
  have e5 := g_cnt_add (P := fun s => (((P s ∨ s = a) ∨ s = b) ∨ s = c) ∨ s = d) he (fun h => h.elim (fun h => h.elim (fun h => h.elim (fun h => h.elim pe h7) h8) h9) h10)
  have e6 := g_cnt_le (fun s => ((((P s ∨ s = a) ∨ s = b) ∨ s = c) ∨ s = d) ∨ s = e) N
  omega
