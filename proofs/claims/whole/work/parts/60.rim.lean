/-! Who owns a side, and the rim. -/
noncomputable def g_nxt (X Y : Nat → Int) (n u : Nat) : Nat := @dite Nat (∃ v, g_bd X Y n u v) (Classical.propDecidable _) (fun h => Classical.choose h) (fun _ => 0)
theorem g_nxt_bd {X Y : Nat → Int} {n u : Nat} (h : ∃ v, g_bd X Y n u v) : g_bd X Y n u (g_nxt X Y n u) := by
  unfold g_nxt
  rw [dif_pos h]
  exact Classical.choose_spec h
def g_hull (X Y : Nat → Int) (n z N : Nat) : Prop := (∃ v, g_bd X Y n z v) ∧ (∀ s, s < z → ¬ ∃ v, g_bd X Y n s v) ∧ 0 < N ∧ N ≤ n ∧ g_it (g_nxt X Y n) z N = z ∧ (∀ u, 0 < u → u < N → ¬ g_it (g_nxt X Y n) z u = z) ∧ ∀ u, g_bd X Y n (g_it (g_nxt X Y n) z u) (g_it (g_nxt X Y n) z (u + 1))
theorem g_hull_ex {X Y : Nat → Int} {n : Nat} (hb : g_box X Y n) (hd : g_dis X Y n) (h : ∃ u v, g_side X Y n u v) : ∃ z N, g_hull X Y n z N := by
  obtain ⟨u, v, h1⟩ := g_bd_some hb hd h
  obtain ⟨z, _, z2, z3⟩ := g_least (fun u => ∃ v, g_bd X Y n u v) u u (Nat.le_refl _) ⟨v, h1⟩
  have hB : ∀ s, (∃ v, g_bd X Y n s v) → ∃ v, g_bd X Y n (g_nxt X Y n s) v := fun s hs => g_bd_next hd (g_nxt_bd hs)
  obtain ⟨N, N1, N2, N3, N4⟩ := g_cycle (g_nxt X Y n) (fun u => ∃ v, g_bd X Y n u v) n (fun s hs => by obtain ⟨v, hv⟩ := hs; exact (g_side_lt hv.1).1) hB (fun s t hs ht h9 => by
    have e1 := g_nxt_bd hs
    have e2 := g_nxt_bd ht
    rw [← h9] at e2
    exact g_bd_in hd e1 e2) z z2
  exact ⟨z, N, z2, z3, N1, N2, N3, N4, fun u => g_nxt_bd (g_it_B (B := fun u => ∃ v, g_bd X Y n u v) hB z2 u)⟩
section WR
variable {x y : Nat → Int32} {n : Nat}
theorem w_cons_side {z : (Nat → Nat) × (Nat → Nat) × (Nat → Int32) × Nat} {A B : Nat → Nat} {co : Nat} (h : w_CI x y n z A B co) {k u v : Nat} (hk : k < z.2.2.2) (hc : g_cons (fun i => z.1 (z.2.1 k + i)) (g_cnt (g_S (w_X x) (w_X y) n (A k) (B k)) n) u v) : g_side (w_X x) (w_X y) n u v ∧ ∀ s, g_S (w_X x) (w_X y) n u v s ↔ g_S (w_X x) (w_X y) n (A k) (B k) s := by
  obtain ⟨⟨l1, _, _⟩, _, _, hrg, _⟩ := h
  obtain ⟨c, hE⟩ := g_P_emp (l1 k hk).1
  exact g_ring_side hE (hrg k hk).2 hc
theorem w_side_cons (hb : g_box (w_X x) (w_X y) n) (hd : g_dis (w_X x) (w_X y) n) (hn : n ≤ 20) {z : (Nat → Nat) × (Nat → Nat) × (Nat → Int32) × Nat} {A B : Nat → Nat} (h : w_CI x y n z A B 1000) {u v : Nat} (hs : g_side (w_X x) (w_X y) n u v) : ∃ k, k < z.2.2.2 ∧ g_cons (fun i => z.1 (z.2.1 k + i)) (g_cnt (g_S (w_X x) (w_X y) n (A k) (B k)) n) u v := by
  obtain ⟨⟨l1, _, l3⟩, _, _, hrg, _⟩ := h
  obtain ⟨a, b, hP, he⟩ := w_side_P hb hd hn hs
  have hPn := g_P_n hP
  obtain ⟨k, k1, k2, k3⟩ := l3 a b hP (by omega)
  subst k2
  subst k3
  obtain ⟨c, hE⟩ := g_P_emp hP
  exact ⟨k, k1, g_side_cons hE (hrg k k1).2 hs (fun s => (he s).symm)⟩
theorem w_own (hb : g_box (w_X x) (w_X y) n) (hd : g_dis (w_X x) (w_X y) n) (hn : n ≤ 20) {z : (Nat → Nat) × (Nat → Nat) × (Nat → Int32) × Nat} {A B : Nat → Nat} (h : w_CI x y n z A B 1000) (hq : z.2.2.2 < 2 ^ 31) {u v : Nat} (hu : u < n) (hv : v < n) : ¬ z.2.2.1 (u * 20 + v) = -1 ↔ g_side (w_X x) (w_X y) n u v := by
  have h' := h
  obtain ⟨_, _, _, _, how⟩ := h'
  rcases how u v (by omega) (by omega) with ⟨k, k1, k2, k3⟩ | ⟨k1, k2⟩
  · refine ⟨fun _ => (w_cons_side h k1 k2).1, fun _ => ?_⟩
    rw [k3]
    exact nI_m1 (by omega)
  · refine ⟨fun h9 => absurd k2 h9, fun h9 => ?_⟩
    obtain ⟨k, j1, j2⟩ := w_side_cons hb hd hn h h9
    exact absurd j2 (k1 k j1)
theorem w_next (hb : g_box (w_X x) (w_X y) n) (hd : g_dis (w_X x) (w_X y) n) (hn : n ≤ 20) {z : (Nat → Nat) × (Nat → Nat) × (Nat → Int32) × Nat} {A B : Nat → Nat} (h : w_CI x y n z A B 1000) (hq : z.2.2.2 < 2 ^ 31) {u : Nat} (hu : u < n) : ∀ f k, n ≤ k + f → (∃ v, v < n ∧ g_bd (w_X x) (w_X y) n u v ∧ j_next z.2.2.1 n u k = nI v) ∨ ((∀ v, k ≤ v → v < n → ¬ g_bd (w_X x) (w_X y) n u v) ∧ j_next z.2.2.1 n u k = -1) := by
  intro f
  induction f with
  | zero =>
    intro k hk
    rw [j_next, if_neg (by omega)]
    exact Or.inr ⟨fun v h1 h2 => absurd h2 (by omega), rfl⟩
  | succ f ih =>
    intro k hk
    by_cases h1 : k < n
    · have o1 := w_own hb hd hn h hq hu h1
      have o2 := w_own hb hd hn h hq h1 hu
      have skip : ¬ g_bd (w_X x) (w_X y) n u k → j_next z.2.2.1 n u k = j_next z.2.2.1 n u (k + 1) → (∃ v, v < n ∧ g_bd (w_X x) (w_X y) n u v ∧ j_next z.2.2.1 n u k = nI v) ∨ ((∀ v, k ≤ v → v < n → ¬ g_bd (w_X x) (w_X y) n u v) ∧ j_next z.2.2.1 n u k = -1) := fun h2 h3 => by
        rw [h3]
        rcases ih (k + 1) (by omega) with h4 | ⟨h4, h5⟩
        · exact Or.inl h4
        · refine Or.inr ⟨fun v v1 v2 v3 => ?_, h5⟩
          by_cases h6 : v = k
          · subst h6; exact h2 v3
          · exact h4 v (by omega) v2 v3
      by_cases h2 : z.2.2.1 (u * 20 + k) = -1
      · refine skip (fun h9 => o1.mpr h9.1 h2) ?_
        rw [j_next, if_pos h1, if_pos h2]
      · by_cases h3 : z.2.2.1 (k * 20 + u) = -1
        · refine Or.inl ⟨k, h1, ⟨o1.mp h2, fun h9 => o2.mpr h9 h3⟩, ?_⟩
          rw [j_next, if_pos h1, if_neg h2, if_pos h3]
        · refine skip (fun h9 => h9.2 (o2.mp h3)) ?_
          rw [j_next, if_pos h1, if_neg h2, if_neg h3]
    · rw [j_next, if_neg h1]
      exact Or.inr ⟨fun v h3 h2 => absurd h2 (by omega), rfl⟩
theorem w_frim (hb : g_box (w_X x) (w_X y) n) (hd : g_dis (w_X x) (w_X y) n) (hn : n ≤ 20) {z : (Nat → Nat) × (Nat → Nat) × (Nat → Int32) × Nat} {A B : Nat → Nat} (h : w_CI x y n z A B 1000) (hq : z.2.2.2 < 2 ^ 31) : ∀ f k, n ≤ k + f → (∃ s, k ≤ s ∧ s < n ∧ (∃ v, g_bd (w_X x) (w_X y) n s v) ∧ (∀ t, k ≤ t → t < s → ¬ ∃ v, g_bd (w_X x) (w_X y) n t v) ∧ j_frim z.2.2.1 n k = nI s) ∨ ((∀ t, k ≤ t → t < n → ¬ ∃ v, g_bd (w_X x) (w_X y) n t v) ∧ j_frim z.2.2.1 n k = -1) := by
  intro f
  induction f with
  | zero =>
    intro k hk
    rw [j_frim, if_neg (by omega)]
    exact Or.inr ⟨fun v h1 h2 => absurd h2 (by omega), rfl⟩
  | succ f ih =>
    intro k hk
    by_cases h1 : k < n
    · rw [j_frim, if_pos h1]
      rcases w_next hb hd hn h hq h1 n 0 (by omega) with ⟨v, v1, v2, v3⟩ | ⟨v1, v2⟩
      · rw [if_neg (by rw [v3]; exact nI_m1 (by omega))]
        exact Or.inl ⟨k, Nat.le_refl _, h1, ⟨v, v2⟩, fun t t1 t2 => absurd t2 (by omega), rfl⟩
      · rw [if_pos v2]
        have hno : ¬ ∃ v, g_bd (w_X x) (w_X y) n k v := fun ⟨v, hv⟩ => v1 v (by omega) (g_side_lt hv.1).2 hv
        rcases ih (k + 1) (by omega) with ⟨s, s1, s2, s3, s4, s5⟩ | ⟨s1, s2⟩
        · refine Or.inl ⟨s, by omega, s2, s3, fun t t1 t2 => ?_, s5⟩
          by_cases h9 : t = k
          · subst h9; exact hno
          · exact s4 t (by omega) t2
        · refine Or.inr ⟨fun t t1 t2 => ?_, s2⟩
          by_cases h9 : t = k
          · subst h9; exact hno
          · exact s1 t (by omega) t2
    · rw [j_frim, if_neg h1]
      exact Or.inr ⟨fun v h3 h2 => absurd h2 (by omega), rfl⟩
theorem w_rim_go {ow : Nat → Int32} {z N : Nat} {X Y : Nat → Int} (hn : n ≤ 20) (hh : g_hull X Y n z N) (hz : z < n) (hnx : ∀ u, u < n → (∃ v, g_bd X Y n u v) → j_next ow n u 0 = nI (g_nxt X Y n u)) (hlt : ∀ u, g_it (g_nxt X Y n) z u < n) : ∀ f rc rm, N ≤ rc + f → rc < N → (∀ i, i < rc → rm i = nI (g_it (g_nxt X Y n) z i)) → (j_rim ow n (nI z) rm rc (nI (g_it (g_nxt X Y n) z rc))).2 = N ∧ ∀ i, i < N → (j_rim ow n (nI z) rm rc (nI (g_it (g_nxt X Y n) z rc))).1 i = nI (g_it (g_nxt X Y n) z i) := by
  obtain ⟨h1, h2, h3, h4, h5, h6, h7⟩ := hh
  intro f
  induction f with
  | zero => intro rc rm c1 c2; exact absurd c2 (by omega)
  | succ f ih =>
    intro rc rm c1 c2 c3
    have e0 := hlt rc
    have e1 := hlt (rc + 1)
    rw [j_rim, if_neg (nI_m1 (by omega)), if_neg (by omega), nI_clamp (by omega), hnx _ e0 ⟨_, h7 rc⟩]
    show (j_rim ow n (nI z) _ (rc + 1) (if nI (g_it (g_nxt X Y n) z (rc + 1)) = nI z then -1 else nI (g_it (g_nxt X Y n) z (rc + 1)))).2 = N ∧ ∀ i, i < N → (j_rim ow n (nI z) _ (rc + 1) (if nI (g_it (g_nxt X Y n) z (rc + 1)) = nI z then -1 else nI (g_it (g_nxt X Y n) z (rc + 1)))).1 i = _
    have c4 : ∀ i, i < rc + 1 → upd rm rc (nI (g_it (g_nxt X Y n) z rc)) i = nI (g_it (g_nxt X Y n) z i) := fun i hi => by
      by_cases h9 : i = rc
      · subst h9; exact if_pos rfl
      · exact (if_neg h9).trans (c3 i (by omega))
    by_cases h8 : rc + 1 = N
    · rw [if_pos (by rw [h8, h5]), j_rim, if_pos rfl]
      refine ⟨h8, fun i hi => c4 i (by omega)⟩
    · rw [if_neg (fun h9 => h6 (rc + 1) (by omega) (by omega) ((nI_eq (by omega) (by omega)).mp h9))]
      exact ih (rc + 1) _ (by omega) (by omega) c4
/-- the class's rim -/
theorem w_rim (hb : g_box (w_X x) (w_X y) n) (hd : g_dis (w_X x) (w_X y) n) (hn : n ≤ 20) {z : (Nat → Nat) × (Nat → Nat) × (Nat → Int32) × Nat} {A B : Nat → Nat} (h : w_CI x y n z A B 1000) (hq : z.2.2.2 < 2 ^ 31) (rm : Nat → Int32) :
    (z.2.2.2 = 0 ∧ (j_rim z.2.2.1 n (j_frim z.2.2.1 n 0) rm 0 (j_frim z.2.2.1 n 0)).2 = 0) ∨ (¬ z.2.2.2 = 0 ∧ ∃ s N, g_hull (w_X x) (w_X y) n s N ∧ (j_rim z.2.2.1 n (j_frim z.2.2.1 n 0) rm 0 (j_frim z.2.2.1 n 0)).2 = N ∧ ∀ i, i < N → (j_rim z.2.2.1 n (j_frim z.2.2.1 n 0) rm 0 (j_frim z.2.2.1 n 0)).1 i = nI (g_it (g_nxt (w_X x) (w_X y) n) s i)) := by
  by_cases h0 : z.2.2.2 = 0
  · left
    refine ⟨h0, ?_⟩
    rcases w_frim hb hd hn h hq n 0 (by omega) with ⟨s, _, s2, ⟨v, s3⟩, _⟩ | ⟨_, s2⟩
    · obtain ⟨k, k1, _⟩ := w_side_cons hb hd hn h s3.1
      omega
    · rw [s2, j_rim, if_pos rfl]
  · right
    refine ⟨h0, ?_⟩
    obtain ⟨s, N, hh⟩ := g_hull_ex hb hd ⟨A 0, B 0, g_P_side (h.1.1 0 (by omega)).1⟩
    refine ⟨s, N, hh, ?_⟩
    have hh' := hh
    obtain ⟨⟨v0, h1⟩, h2, h3, h4, h5, h6, h7⟩ := hh'
    have hs : s < n := (g_side_lt h1.1).1
    have hf : j_frim z.2.2.1 n 0 = nI s := by
      rcases w_frim hb hd hn h hq n 0 (by omega) with ⟨t, _, t2, t3, t4, t5⟩ | ⟨t1, _⟩
      · have : t = s := by
          rcases Nat.lt_trichotomy t s with h9 | h9 | h9
          · exact absurd t3 (h2 t h9)
          · exact h9
          · exact absurd ⟨v0, h1⟩ (t4 s (by omega) h9)
        rw [t5, this]
      · exact absurd ⟨v0, h1⟩ (t1 s (by omega) hs)
    rw [hf]
    exact w_rim_go hn hh hs (fun u hu hv => by
      rcases w_next hb hd hn h hq hu n 0 (by omega) with ⟨v, v1, v2, v3⟩ | ⟨v1, _⟩
      · rw [v3, g_bd_out hd v2 (g_nxt_bd hv)]
      · obtain ⟨v, hv⟩ := hv
        exact absurd hv (v1 v (by omega) (g_side_lt hv.1).2)) (fun u => (g_side_lt (h7 u).1).1) N 0 rm (by omega) h3 (fun i hi => absurd hi (by omega))
end WR
