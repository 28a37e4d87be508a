/-! The reference's sides and hull; class and reference agree. -/
theorem m_wi {sz rd : Nat → Nat} {d u v : Nat} : ∀ f i, sz d ≤ i + f → (r_wi sz rd d u v i = true ↔ ∃ l, i ≤ l ∧ l < sz d ∧ rd (20 * d + l) = u ∧ r_after sz rd d l = v) := by
  intro f
  induction f with
  | zero =>
    intro i h
    rw [r_wi, if_neg (by omega)]
    exact ⟨fun h9 => Bool.noConfusion h9, fun ⟨l, l1, l2, _⟩ => by omega⟩
  | succ f ih =>
    intro i h
    have skip : i < sz d → ¬ (rd (20 * d + i) = u ∧ r_after sz rd d i = v) → ((∃ l, i + 1 ≤ l ∧ l < sz d ∧ rd (20 * d + l) = u ∧ r_after sz rd d l = v) ↔ ∃ l, i ≤ l ∧ l < sz d ∧ rd (20 * d + l) = u ∧ r_after sz rd d l = v) := fun _ h2 => by
      constructor
      · rintro ⟨l, l1, l2⟩
        exact ⟨l, by omega, l2⟩
      · rintro ⟨l, l1, l2, l3⟩
        by_cases h4 : l = i
        · subst h4; exact absurd l3 h2
        · exact ⟨l, by omega, l2, l3⟩
    by_cases hi : i < sz d
    · rw [r_wi, if_pos hi]
      by_cases h1 : rd (20 * d + i) = u
      · rw [if_pos h1]
        by_cases h2 : r_after sz rd d i = v
        · rw [if_pos h2]
          exact ⟨fun _ => ⟨i, Nat.le_refl _, hi, h1, h2⟩, fun _ => rfl⟩
        · rw [if_neg h2, ih (i + 1) (by omega), skip hi (fun h9 => h2 h9.2)]
      · rw [if_neg h1, ih (i + 1) (by omega), skip hi (fun h9 => h1 h9.1)]
    · rw [r_wi, if_neg hi]
      exact ⟨fun h9 => Bool.noConfusion h9, fun ⟨l, l1, l2, _⟩ => by omega⟩
theorem m_wi0 {sz rd : Nat → Nat} {d u v : Nat} : r_wi sz rd d u v 0 = true ↔ g_cons (fun i => rd (20 * d + i)) (sz d) u v := by
  rw [m_wi (sz d) 0 (by omega)]
  constructor
  · rintro ⟨l, _, l2, l3, l4⟩
    exact ⟨l, l2, l3, l4⟩
  · rintro ⟨l, l2, l3, l4⟩
    exact ⟨l, Nat.zero_le _, l2, l3, l4⟩
theorem m_ws {od sz rd : Nat → Nat} {q u v : Nat} : ∀ f k, q ≤ k + f → (∃ j, k ≤ j ∧ j < q ∧ g_cons (fun i => rd (20 * od j + i)) (sz (od j)) u v ∧ r_ws od sz rd q u v k = nI j) ∨ ((∀ j, k ≤ j → j < q → ¬ g_cons (fun i => rd (20 * od j + i)) (sz (od j)) u v) ∧ r_ws od sz rd q u v k = -1) := by
  intro f
  induction f with
  | zero =>
    intro k h
    rw [r_ws, if_neg (by omega)]
    exact Or.inr ⟨fun j h1 h2 => absurd h2 (by omega), rfl⟩
  | succ f ih =>
    intro k h
    by_cases hk : k < q
    · rw [r_ws, if_pos hk]
      by_cases h1 : r_wi sz rd (od k) u v 0 = true
      · rw [if_pos h1]
        exact Or.inl ⟨k, Nat.le_refl _, hk, m_wi0.mp h1, rfl⟩
      · rw [if_neg h1]
        rcases ih (k + 1) (by omega) with ⟨j, j1, j2⟩ | ⟨j1, j2⟩
        · exact Or.inl ⟨j, by omega, j2⟩
        · refine Or.inr ⟨fun j h3 h4 h5 => ?_, j2⟩
          by_cases h6 : j = k
          · subst h6; exact h1 (m_wi0.mpr h5)
          · exact j1 j (by omega) h4 h5
    · rw [r_ws, if_neg hk]
      exact Or.inr ⟨fun j h1 h2 => absurd h2 (by omega), rfl⟩
section WG
variable {x y : Nat → Int32} {n : Nat}
theorem m_cons_side {sz rd od : Nat → Nat} {q : Nat} {A B : Nat → Nat} (h : m_MB x y n sz rd od q A B) {k u v : Nat} (hk : k < q) (hc : g_cons (fun i => rd (20 * od k + i)) (sz (od k)) u v) : g_side (w_X x) (w_X y) n u v ∧ ∀ s, g_S (w_X x) (w_X y) n u v s ↔ g_S (w_X x) (w_X y) n (A k) (B k) s := by
  obtain ⟨⟨l1, _, _⟩, h2, _⟩ := h
  obtain ⟨c, hE⟩ := g_P_emp (l1 k hk).1
  exact g_ring_side hE (h2 k hk).2.2 hc
theorem m_side_cons (hb : g_box (w_X x) (w_X y) n) (hd : g_dis (w_X x) (w_X y) n) (hn : n ≤ 20) {sz rd od : Nat → Nat} {q : Nat} {A B : Nat → Nat} (h : m_MB x y n sz rd od q A B) {u v : Nat} (hs : g_side (w_X x) (w_X y) n u v) : ∃ k, k < q ∧ g_cons (fun i => rd (20 * od k + i)) (sz (od k)) u v := by
  obtain ⟨⟨l1, _, l3⟩, h2, _⟩ := h
  obtain ⟨a, b, hP, he⟩ := w_side_P hb hd hn hs
  have hPn := g_P_n hP
  obtain ⟨k, k1, k2, k3⟩ := l3 a b hP (by omega)
  subst k2
  subst k3
  obtain ⟨c, hE⟩ := g_P_emp hP
  exact ⟨k, k1, g_side_cons hE (h2 k k1).2.2 hs (fun s => (he s).symm)⟩
theorem m_own (hb : g_box (w_X x) (w_X y) n) (hd : g_dis (w_X x) (w_X y) n) (hn : n ≤ 20) {sz rd od : Nat → Nat} {q : Nat} {A B : Nat → Nat} (h : m_MB x y n sz rd od q A B) (hq : q < 2 ^ 31) {u v : Nat} : 0 ≤ r_ws od sz rd q u v 0 ↔ g_side (w_X x) (w_X y) n u v := by
  rcases m_ws (od := od) (sz := sz) (rd := rd) (q := q) (u := u) (v := v) q 0 (by omega) with ⟨k, _, k1, k2, k3⟩ | ⟨k1, k2⟩
  · refine ⟨fun _ => (m_cons_side h k1 k2).1, fun _ => ?_⟩
    rw [k3]
    exact nI_pos' (by omega)
  · rw [k2]
    refine ⟨fun h9 => absurd h9 (by decide), fun h9 => ?_⟩
    obtain ⟨k, j1, j2⟩ := m_side_cons hb hd hn h h9
    exact absurd j2 (k1 k (Nat.zero_le _) j1)
theorem m_oi (hb : g_box (w_X x) (w_X y) n) (hd : g_dis (w_X x) (w_X y) n) (hn : n ≤ 20) {sz rd od : Nat → Nat} {q : Nat} {A B : Nat → Nat} (h : m_MB x y n sz rd od q A B) (hq : q < 2 ^ 31) {v d : Nat} : ∀ f i, sz d ≤ i + f → (∃ l, i ≤ l ∧ l < sz d ∧ rd (20 * d + l) = v ∧ ¬ g_side (w_X x) (w_X y) n (r_after sz rd d l) v ∧ r_oi od sz rd q v d i = nI (r_after sz rd d l)) ∨ ((∀ l, i ≤ l → l < sz d → rd (20 * d + l) = v → g_side (w_X x) (w_X y) n (r_after sz rd d l) v) ∧ r_oi od sz rd q v d i = -1) := by
  intro f
  induction f with
  | zero =>
    intro i h1
    rw [r_oi, if_neg (by omega)]
    exact Or.inr ⟨fun l h1 h2 => absurd h2 (by omega), rfl⟩
  | succ f ih =>
    intro i h1
    by_cases hi : i < sz d
    · have hI := ih (i + 1) (by omega)
      have skip : (rd (20 * d + i) = v → g_side (w_X x) (w_X y) n (r_after sz rd d i) v) → r_oi od sz rd q v d i = r_oi od sz rd q v d (i + 1) → (∃ l, i ≤ l ∧ l < sz d ∧ rd (20 * d + l) = v ∧ ¬ g_side (w_X x) (w_X y) n (r_after sz rd d l) v ∧ r_oi od sz rd q v d i = nI (r_after sz rd d l)) ∨ ((∀ l, i ≤ l → l < sz d → rd (20 * d + l) = v → g_side (w_X x) (w_X y) n (r_after sz rd d l) v) ∧ r_oi od sz rd q v d i = -1) := fun h2 h3 => by
        rw [h3]
        rcases hI with ⟨l, l1, l2⟩ | ⟨l1, l2⟩
        · exact Or.inl ⟨l, by omega, l2⟩
        · refine Or.inr ⟨fun l c1 c2 c3 => ?_, l2⟩
          by_cases h4 : l = i
          · subst h4; exact h2 c3
          · exact l1 l (by omega) c2 c3
      by_cases h2 : rd (20 * d + i) = v
      · have ho := m_own hb hd hn h hq (u := r_after sz rd d i) (v := v)
        by_cases h3 : 0 ≤ r_ws od sz rd q (r_after sz rd d i) v 0
        · exact skip (fun _ => ho.mp h3) (by rw [r_oi, if_pos hi, if_pos h2, if_pos h3])
        · exact Or.inl ⟨i, Nat.le_refl _, hi, h2, fun h9 => h3 (ho.mpr h9), by rw [r_oi, if_pos hi, if_pos h2, if_neg h3]⟩
      · exact skip (fun h9 => absurd h9 h2) (by rw [r_oi, if_pos hi, if_neg h2])
    · rw [r_oi, if_neg hi]
      exact Or.inr ⟨fun l h1 h2 => absurd h2 (by omega), rfl⟩
theorem m_oh_go (hb : g_box (w_X x) (w_X y) n) (hd : g_dis (w_X x) (w_X y) n) (hn : n ≤ 20) {sz rd od : Nat → Nat} {q : Nat} {A B : Nat → Nat} (h : m_MB x y n sz rd od q A B) (hq : q < 2 ^ 31) {v : Nat} : ∀ f d, q ≤ d + f → (∃ w, g_bd (w_X x) (w_X y) n v w ∧ r_oh od sz rd q v d = nI w) ∨ ((∀ c l, d ≤ c → c < q → l < sz c → rd (20 * c + l) = v → g_side (w_X x) (w_X y) n (r_after sz rd c l) v) ∧ r_oh od sz rd q v d = -1) := by
  intro f
  induction f with
  | zero =>
    intro d h1
    rw [r_oh, if_neg (by omega)]
    exact Or.inr ⟨fun c l h1 h2 => absurd h2 (by omega), rfl⟩
  | succ f ih =>
    intro d h1
    by_cases hd9 : d < q
    · rw [r_oh, if_pos hd9]
      rcases m_oi hb hd hn h hq (v := v) (d := d) (sz d) 0 (by omega) with ⟨l, _, l2, l3, l4, l5⟩ | ⟨l1, l2⟩
      · obtain ⟨k, k1, k2⟩ := h.2.2 d hd9
        subst k2
        have hs := m_cons_side h k1 (u := v) (v := r_after sz rd (od k) l) ⟨l, l2, l3, rfl⟩
        have hlt := (g_side_lt hs.1).2
        rw [l5, if_neg (nI_m1 (by omega))]
        exact Or.inl ⟨_, ⟨hs.1, l4⟩, rfl⟩
      · rw [if_pos l2]
        rcases ih (d + 1) (by omega) with h3 | ⟨h3, h4⟩
        · exact Or.inl h3
        · refine Or.inr ⟨fun c l c1 c2 c3 c4 => ?_, h4⟩
          by_cases h5 : c = d
          · subst h5; exact l1 l (Nat.zero_le _) c3 c4
          · exact h3 c l (by omega) c2 c3 c4
    · rw [r_oh, if_neg hd9]
      exact Or.inr ⟨fun c l h1 h2 => absurd h2 (by omega), rfl⟩
theorem m_oh (hb : g_box (w_X x) (w_X y) n) (hd : g_dis (w_X x) (w_X y) n) (hn : n ≤ 20) {sz rd od : Nat → Nat} {q : Nat} {A B : Nat → Nat} (h : m_MB x y n sz rd od q A B) (hq : q < 2 ^ 31) (v : Nat) : ((∃ w, g_bd (w_X x) (w_X y) n v w) ∧ r_oh od sz rd q v 0 = nI (g_nxt (w_X x) (w_X y) n v)) ∨ ((¬ ∃ w, g_bd (w_X x) (w_X y) n v w) ∧ r_oh od sz rd q v 0 = -1) := by
  rcases m_oh_go hb hd hn h hq (v := v) q 0 (by omega) with ⟨w, h1, h2⟩ | ⟨h1, h2⟩
  · left
    refine ⟨⟨w, h1⟩, ?_⟩
    rw [h2, g_bd_out hd h1 (g_nxt_bd ⟨w, h1⟩)]
  · right
    refine ⟨fun ⟨w, hw⟩ => ?_, h2⟩
    obtain ⟨k, k1, l, l1, l2, l3⟩ := m_side_cons hb hd hn h hw.1
    have := h1 (od k) l (Nat.zero_le _) (h.2.1 k k1).1 l1 l2
    have e : r_after sz rd (od k) l = w := l3
    rw [e] at this
    exact hw.2 this
theorem m_beg (hb : g_box (w_X x) (w_X y) n) (hd : g_dis (w_X x) (w_X y) n) (hn : n ≤ 20) {sz rd od : Nat → Nat} {q : Nat} {A B : Nat → Nat} (h : m_MB x y n sz rd od q A B) (hq : q < 2 ^ 31) {z : Nat} (hz : ∃ v, g_bd (w_X x) (w_X y) n z v) (hlow : ∀ s, s < z → ¬ ∃ v, g_bd (w_X x) (w_X y) n s v) : ∀ f b, z ≤ b + f → b ≤ z → r_beg od sz rd q n b = z := by
  have hzn : z < n := by
    obtain ⟨v, hv⟩ := hz
    exact (g_side_lt hv.1).1
  have at_z : r_beg od sz rd q n z = z := by
    rw [r_beg, if_pos hzn]
    rcases m_oh hb hd hn h hq z with ⟨h1, h2⟩ | ⟨h1, _⟩
    · have hlt := (g_side_lt (g_nxt_bd h1).1).2
      rw [if_pos (by rw [h2]; exact nI_pos' (by omega))]
    · exact absurd hz h1
  intro f
  induction f with
  | zero =>
    intro b h1 h2
    have : b = z := by omega
    subst this
    exact at_z
  | succ f ih =>
    intro b h1 h2
    by_cases h3 : b = z
    · subst h3; exact at_z
    · rw [r_beg, if_pos (by omega)]
      rcases m_oh hb hd hn h hq b with ⟨h4, _⟩ | ⟨_, h5⟩
      · exact absurd h4 (hlow b (by omega))
      · rw [if_neg (by rw [h5]; decide)]
        exact ih (b + 1) (by omega) (by omega)
theorem m_hit (hb : g_box (w_X x) (w_X y) n) (hd : g_dis (w_X x) (w_X y) n) (hn : n ≤ 20) {sz rd od : Nat → Nat} {q : Nat} {A B : Nat → Nat} (h : m_MB x y n sz rd od q A B) (hq : q < 2 ^ 31) {z N : Nat} (hh : g_hull (w_X x) (w_X y) n z N) : ∀ u, r_hit od sz rd q z u = g_it (g_nxt (w_X x) (w_X y) n) z u := by
  obtain ⟨_, _, _, _, _, _, h7⟩ := hh
  intro u
  induction u with
  | zero => rfl
  | succ u ih =>
    show (r_oh od sz rd q (r_hit od sz rd q z u) 0).toNatClampNeg = g_nxt (w_X x) (w_X y) n (g_it (g_nxt (w_X x) (w_X y) n) z u)
    rw [ih]
    rcases m_oh hb hd hn h hq (g_it (g_nxt (w_X x) (w_X y) n) z u) with ⟨h1, h2⟩ | ⟨h1, _⟩
    · have hlt := (g_side_lt (g_nxt_bd h1).1).2
      rw [h2, nI_clamp (by omega)]
    · exact absurd ⟨_, h7 u⟩ h1
theorem m_hok (hb : g_box (w_X x) (w_X y) n) (hd : g_dis (w_X x) (w_X y) n) (hn : n ≤ 20) {sz rd od : Nat → Nat} {q : Nat} {A B : Nat → Nat} (h : m_MB x y n sz rd od q A B) (hq : q < 2 ^ 31) {z N : Nat} (hh : g_hull (w_X x) (w_X y) n z N) : r_hok od sz rd q n N ∧ r_beg od sz rd q n 0 = z := by
  have hit := m_hit hb hd hn h hq hh
  obtain ⟨h1, h2, h3, h4, h5, h6, h7⟩ := hh
  have hbeg := m_beg hb hd hn h hq h1 h2 z 0 (by omega) (by omega)
  have hzn : z < n := by
    obtain ⟨v, hv⟩ := h1
    exact (g_side_lt hv.1).1
  refine ⟨?_, hbeg⟩
  unfold r_hok
  rw [hbeg]
  refine ⟨hzn, h3, by omega, fun u hu => ?_, by rw [hit]; exact h5, fun u u1 u2 => by rw [hit]; exact h6 u u1 u2⟩
  rw [hit, hit]
  have hlt := (g_side_lt (h7 u).1).1
  refine ⟨by omega, ?_⟩
  rcases m_oh hb hd hn h hq (g_it (g_nxt (w_X x) (w_X y) n) z u) with ⟨_, e2⟩ | ⟨e1, _⟩
  · exact e2
  · exact absurd ⟨_, h7 u⟩ e1
theorem w_list_q (hb : g_box (w_X x) (w_X y) n) (hd : g_dis (w_X x) (w_X y) n) (hn : n ≤ 20) {q : Nat} {A B : Nat → Nat} (h : w_list (w_X x) (w_X y) n q A B 1000) : q ≤ 35 := by
  have sum : ∀ (g : Nat → Nat) (q : Nat), ∃ sr : Nat → Nat, sr 0 = 0 ∧ ∀ k, k < q → sr (k + 1) = sr k + g k := by
    intro g q
    induction q with
    | zero => exact ⟨fun _ => 0, rfl, fun k hk => absurd hk (Nat.not_lt_zero _)⟩
    | succ q ih =>
      obtain ⟨sr, e0, e1⟩ := ih
      refine ⟨updN sr (q + 1) (sr q + g q), (updN_n (by omega)).trans e0, fun k hk => ?_⟩
      by_cases h9 : k = q
      · subst h9
        rw [updN_s, updN_n (by omega)]
      · rw [updN_n (by omega), updN_n (by omega)]
        exact e1 k (by omega)
  obtain ⟨sr, e0, e1⟩ := sum (fun k => g_cnt (g_S (w_X x) (w_X y) n (A k) (B k)) n) q
  exact (g_sizes hb hd A B sr q (fun k hk => (h.1 k hk).1) (fun i j hi hj h9 => by
    have := h.2.1 i j hi hj
    rw [h9.1, h9.2] at this
    omega) e0 e1 hn).2.2
theorem w_list_eq (hn : n ≤ 20) {q q' : Nat} {A B A' B' : Nat → Nat} (h : w_list (w_X x) (w_X y) n q A B 1000) (h' : w_list (w_X x) (w_X y) n q' A' B' 1000) : q = q' ∧ ∀ k, k < q → A k = A' k ∧ B k = B' k := by
  have hs := g_sorteq (f := fun k => 20 * A k + B k) (g := fun k => 20 * A' k + B' k) h.2.1 h'.2.1 (fun i hi => by
    have p := g_P_n (h.1 i hi).1
    obtain ⟨k, k1, k2, k3⟩ := h'.2.2 (A i) (B i) (h.1 i hi).1 (by omega)
    exact ⟨k, k1, by rw [k2, k3]⟩) (fun i hi => by
    have p := g_P_n (h'.1 i hi).1
    obtain ⟨k, k1, k2, k3⟩ := h.2.2 (A' i) (B' i) (h'.1 i hi).1 (by omega)
    exact ⟨k, k1, by rw [k2, k3]⟩)
  refine ⟨hs.1, fun k hk => ?_⟩
  have e := hs.2 k hk
  have p1 := g_P_n (h.1 k hk).1
  have hk' : k < q' := by rw [← hs.1]; exact hk
  have p2 := g_P_n (h'.1 k hk').1
  omega
end WG
def w_hul (x y : Nat → Int32) (n q : Nat) (rm : Nat → Int32) (rc : Nat) : Prop := (q = 0 ∧ rc = 0) ∨ (¬ q = 0 ∧ ∃ s, g_hull (w_X x) (w_X y) n s rc ∧ ∀ i, i < rc → rm i = nI (g_it (g_nxt (w_X x) (w_X y) n) s i))
theorem w_hul_eq {x y : Nat → Int32} {n q : Nat} {rm rm' : Nat → Int32} {rc rc' : Nat} (h : w_hul x y n q rm rc) (h' : w_hul x y n q rm' rc') : rc = rc' ∧ ∀ i, i < rc → rm i = rm' i := by
  rcases h with ⟨h1, h2⟩ | ⟨h1, s, h2, h3⟩
  · rcases h' with ⟨_, h2'⟩ | ⟨h1', _⟩
    · subst h2
      subst h2'
      exact ⟨rfl, fun i hi => absurd hi (Nat.not_lt_zero _)⟩
    · exact absurd h1 h1'
  · rcases h' with ⟨h1', _⟩ | ⟨_, s', h2', h3'⟩
    · exact absurd h1' h1
    · obtain ⟨a1, a2, a3, a4, a5, a6, _⟩ := h2
      obtain ⟨b1, b2, b3, b4, b5, b6, _⟩ := h2'
      have hs : s = s' := by
        rcases Nat.lt_trichotomy s s' with h9 | h9 | h9
        · exact absurd a1 (b2 s h9)
        · exact h9
        · exact absurd b1 (a2 s' h9)
      subst hs
      have hN : rc = rc' := by
        rcases Nat.lt_trichotomy rc rc' with h9 | h9 | h9
        · exact absurd a5 (b6 rc a3 h9)
        · exact h9
        · exact absurd b5 (a6 rc' b3 h9)
      subst hN
      exact ⟨rfl, fun i hi => by rw [h3 i hi, h3' i hi]⟩
