/-! The two states: what they keep, and that they agree. -/
def v_C (x y : Nat → Int32) (n : Nat) (Z : ((Int32 × Int32 × Int64 × Int64 × Int64) × (Nat → Nat) × (Nat → Nat) × (Nat → Int32) × Nat) × (Nat → Int32) × Nat) : Prop := (∃ A B, w_CI x y n Z.1.2 A B 1000 ∧ w_hul x y n Z.1.2.2.2.2 Z.2.1 Z.2.2) ∨ (n = 0 ∧ Z.1.2.2.1 0 = 0 ∧ (∀ j, Z.1.2.1 j < 20) ∧ Z.1.2.2.2.2 = 0 ∧ Z.2.2 = 0)
def v_M (x y : Nat → Int32) (n : Nat) (Z : Int32 × ((Nat → Nat) × (Nat → Nat) × Nat) × (Nat → Nat) × (Nat → Nat) × Nat) : Prop := ∃ A B, m_MB x y n Z.2.1.1 Z.2.1.2.1 Z.2.2.1 Z.2.1.2.2 A B ∧ w_hul x y n Z.2.1.2.2 (fun i => nI (Z.2.2.2.1 i)) Z.2.2.2.2
section VS
variable {x y : Nat → Int32} {n : Nat}
theorem w_hul_20 {q : Nat} {rm : Nat → Int32} {rc : Nat} (hn : n ≤ 20) (h : w_hul x y n q rm rc) : rc ≤ 20 := by
  rcases h with ⟨_, h2⟩ | ⟨_, s, ⟨_, _, _, h4, _⟩, _⟩
  · omega
  · omega
theorem w_CI_sz (hb : g_box (w_X x) (w_X y) n) (hd : g_dis (w_X x) (w_X y) n) (hn : n ≤ 20) {z : (Nat → Nat) × (Nat → Nat) × (Nat → Int32) × Nat} {A B : Nat → Nat} (h : w_CI x y n z A B 1000) : z.2.2.2 ≤ 35 ∧ ∀ d, d < z.2.2.2 → z.2.1 d + 3 ≤ z.2.1 (d + 1) ∧ z.2.1 (d + 1) ≤ 105 := by
  obtain ⟨⟨l1, l2, l3⟩, h0, hlt, hrg, how⟩ := h
  have hs := g_sizes hb hd A B z.2.1 z.2.2.2 (fun k hk => (l1 k hk).1) (fun i j hi hj h9 => by
    have := l2 i j hi hj
    rw [h9.1, h9.2] at this
    omega) h0 (fun k hk => (hrg k hk).1) hn
  refine ⟨hs.2.2, fun d hd9 => ?_⟩
  have hm := w_sr_mono (fun k hk => (hrg k hk).1) (z.2.2.2 - (d + 1)) (d + 1) (by omega)
  rw [show d + 1 + (z.2.2.2 - (d + 1)) = z.2.2.2 by omega] at hm
  obtain ⟨c, hE⟩ := g_P_emp (l1 d hd9).1
  have h3 := g_ring_3 hE (hrg d hd9).2
  have h1 := (hrg d hd9).1
  omega
theorem v_C_st (hb : g_box (w_X x) (w_X y) n) (hd : g_dis (w_X x) (w_X y) n) (hn : n ≤ 20) {Z : ((Int32 × Int32 × Int64 × Int64 × Int64) × (Nat → Nat) × (Nat → Nat) × (Nat → Int32) × Nat) × (Nat → Int32) × Nat} (h : v_C x y n Z) : j_st Z := by
  rcases h with ⟨A, B, h1, h2⟩ | ⟨_, _, h3, h4, h5⟩
  · have h3 := w_CI_sz hb hd hn h1
    exact ⟨h1.2.2.1, h3.1, h3.2, w_hul_20 hn h2⟩
  · exact ⟨h3, by omega, fun d hd9 => absurd hd9 (by omega), by omega⟩
theorem v_C_0 {Z : ((Int32 × Int32 × Int64 × Int64 × Int64) × (Nat → Nat) × (Nat → Nat) × (Nat → Int32) × Nat) × (Nat → Int32) × Nat} (h : v_C x y n Z) : Z.1.2.2.1 0 = 0 := by
  rcases h with ⟨A, B, h1, h2⟩ | ⟨_, h2, _⟩
  · exact h1.2.1
  · exact h2
/-- after a refresh the class's cells are those of its sites -/
theorem v_C_fresh (hb : g_box (w_X x) (w_X y) n) (hd : g_dis (w_X x) (w_X y) n) (hn : n ≤ 20) {st : Int32} {z : (Int32 × Int32 × Int64 × Int64 × Int64) × (Nat → Nat) × (Nat → Nat) × (Nat → Int32) × Nat} {rm : Nat → Int32} {rc : Nat} (h0 : z.2.2.1 0 = 0) (hlt : ∀ j, z.2.1 j < 20) (hs : st = 0 → v_C x y n (z, rm, rc)) : v_C x y n (j_refr x y n st z rm rc) := by
  unfold j_refr
  by_cases h1 : st = 0
  · rw [if_pos h1]
    exact hs h1
  · rw [if_neg h1]
    obtain ⟨A, B, h2⟩ := w_built hb hd hn h0 hlt
    refine Or.inl ⟨A, B, h2, ?_⟩
    have h3 := w_CI_sz hb hd hn h2
    unfold j_tail
    rcases w_rim hb hd hn h2 (by omega) rm with ⟨c1, c2⟩ | ⟨c1, s, N, c2, c3, c4⟩
    · exact Or.inl ⟨c1, c2⟩
    · refine Or.inr ⟨c1, s, ?_, fun i hi => c4 i ?_⟩
      · show g_hull (w_X x) (w_X y) n s (j_rim _ _ _ _ _ _).2
        rw [c3]
        exact c2
      · have hi : i < (j_rim _ _ _ _ _ _).2 := hi
        rw [c3] at hi
        exact hi
theorem m_zok_mS (hn : n ≤ 20) {a b d : Nat} (ha : a < n) {z : (Nat → Nat) × (Nat → Nat) × Nat} (h : r_zok z) : r_zok (r_mS x y n a b d z) := by
  unfold r_mS
  split
  · exact h
  · split
    · exact h
    · split
      · exact h
      · exact ⟨updN_le h.1 (r_len_le x y n _ a 20 1 (by omega) (by omega)).2, r_row_lt hn ha h.2⟩
theorem m_zok_mc (hn : n ≤ 20) {a b : Nat} (ha : a < n) : ∀ (f d : Nat) (z : (Nat → Nat) × (Nat → Nat) × Nat), n ≤ d + f → r_zok z → r_zok (r_mc x y n a b z d) := by
  intro f
  induction f with
  | zero => intro d z h1 h; rw [r_mc, if_neg (by omega)]; exact h
  | succ f ih =>
    intro d z h1 h
    rw [r_mc]
    split
    · exact ih (d + 1) _ (by omega) (m_zok_mS hn ha h)
    · exact h
theorem m_zok_mb (hn : n ≤ 20) {a : Nat} (ha : a < n) : ∀ (f b : Nat) (z : (Nat → Nat) × (Nat → Nat) × Nat), n ≤ b + f → r_zok z → r_zok (r_mb x y n a z b) := by
  intro f
  induction f with
  | zero => intro d z h1 h; rw [r_mb, if_neg (by omega)]; exact h
  | succ f ih =>
    intro d z h1 h
    rw [r_mb]
    split
    · exact ih (d + 1) _ (by omega) (m_zok_mc hn ha n (d + 1) z (by omega) h)
    · exact h
theorem m_zok_ma (hn : n ≤ 20) : ∀ (f a : Nat) (z : (Nat → Nat) × (Nat → Nat) × Nat), n ≤ a + f → r_zok z → r_zok (r_ma x y n z a) := by
  intro f
  induction f with
  | zero => intro d z h1 h; rw [r_ma, if_neg (by omega)]; exact h
  | succ f ih =>
    intro d z h1 h
    rw [r_ma]
    split
    · rename_i h2
      exact ih (d + 1) _ (by omega) (m_zok_mb hn h2 n (d + 1) z (by omega) h)
    · exact h
theorem m_ord_lt {sz rd : Nat → Nat} {q : Nat} (hq : q ≤ 60) : ∀ f k od, q ≤ k + f → (∀ j, od j < 60) → ∀ j, r_ord sz rd q od k j < 60 := by
  intro f
  induction f with
  | zero => intro k od h1 h j; rw [r_ord, if_neg (by omega)]; exact h j
  | succ f ih =>
    intro k od h1 h j
    rw [r_ord]
    split
    · rename_i h2
      exact ih (k + 1) _ (by omega) (fun j => by
        unfold updN
        split
        · omega
        · exact h j) j
    · exact h j
/-- after a make the reference's cells are those of its sites -/
theorem v_M_fresh (hb : g_box (w_X x) (w_X y) n) (hd : g_dis (w_X x) (w_X y) n) (hn : n ≤ 20) {md : Int32} {sz rd od hu : Nat → Nat} {q hz : Nat} (lo : ∀ j, od j < 60) (lz : ∀ j, sz j ≤ 20) (lr : ∀ j, rd j < 20) (hm : md = 0 ∨ v_M x y n (md, (sz, rd, q), od, hu, hz)) :
    ∃ N, (md = 0 → r_good x y n sz rd od N) ∧ v_M x y n (r_mkR x y n md sz rd q od hu hz N) ∧ r_st (r_mkR x y n md sz rd q od hu hz N) ∧ ¬ (r_mkR x y n md sz rd q od hu hz N).1 = 0 := by
  by_cases h1 : md = 0
  · obtain ⟨A, B, h2⟩ := m_order hb hd hn sz rd od
    have hq := w_list_q hb hd hn h2.1
    have hz0 : r_zok (r_ma x y n (sz, rd, 0) 0) := m_zok_ma hn n 0 _ (by omega) ⟨lz, lr⟩
    have hod := m_ord_lt (sz := (r_ma x y n (sz, rd, 0) 0).1) (rd := (r_ma x y n (sz, rd, 0) 0).2.1) (q := (r_ma x y n (sz, rd, 0) 0).2.2) (by omega) (r_ma x y n (sz, rd, 0) 0).2.2 0 od (by omega) lo
    have first : ∀ a b d, a < b → b < d → d < n → ¬ r_turn x y a b (x d) (y d) = 0 → ¬ r_on x y n a b d 0 0 = 0 → r_on x y n a b d 0 0 &&& r_low a b d = 0 → r_it x y n (r_on x y n a b d 0 0) a (r_len x y n (r_on x y n a b d 0 0) a 1) = a := by
      intro a b d c1 c2 c3 c4 c5 c6
      rcases m_step hb hd hn (z := (sz, rd, 0)) c1 c2 c3 with ⟨b', r, m, mk, _, _, _, hr, hit, hlen, emk, _⟩ | ⟨_, _, hno⟩
      · rw [← emk, hlen, hit, Nat.mod_self]
        exact hr.1
      · exact absurd ⟨c4, c5, c6⟩ hno
    by_cases h0 : (r_ma x y n (sz, rd, 0) 0).2.2 = 0
    · refine ⟨0, fun _ => ⟨first, by omega, fun h9 => absurd h0 h9⟩, ?_⟩
      unfold r_mkR
      rw [if_pos h1]
      unfold r_fin r_surR
      refine ⟨⟨A, B, h2, ?_⟩, ⟨hz0.1, hz0.2, ?_, hod, ?_⟩, by show ¬ (1 : Int32) = 0; decide⟩
      · refine Or.inl ⟨h0, ?_⟩
        show (if (r_ma x y n (sz, rd, 0) 0).2.2 = 0 then (hu, 0) else _).2 = 0
        rw [if_pos h0]
      · show (r_ma x y n (sz, rd, 0) 0).2.2 ≤ 59
        omega
      · show (if (r_ma x y n (sz, rd, 0) 0).2.2 = 0 then (hu, 0) else _).2 ≤ 20
        rw [if_pos h0]
        exact Nat.zero_le _
    · obtain ⟨s, N, hh⟩ := g_hull_ex hb hd ⟨A 0, B 0, g_P_side (h2.1.1 0 (by omega)).1⟩
      have hok := m_hok hb hd hn h2 (by omega) hh
      have hit := m_hit hb hd hn h2 (by omega) hh
      refine ⟨N, fun _ => ⟨first, by omega, fun _ => hok.1⟩, ?_⟩
      unfold r_mkR
      rw [if_pos h1]
      unfold r_fin r_surR
      have hN : N ≤ 20 := by have := hh.2.2.2.1; omega
      refine ⟨⟨A, B, h2, ?_⟩, ⟨hz0.1, hz0.2, ?_, hod, ?_⟩, by show ¬ (1 : Int32) = 0; decide⟩
      · refine Or.inr ⟨h0, s, ?_, ?_⟩
        · show g_hull (w_X x) (w_X y) n s (if (r_ma x y n (sz, rd, 0) 0).2.2 = 0 then (hu, 0) else _).2
          rw [if_neg h0]
          exact hh
        · show ∀ i, i < (if (r_ma x y n (sz, rd, 0) 0).2.2 = 0 then (hu, 0) else _).2 → nI ((if (r_ma x y n (sz, rd, 0) 0).2.2 = 0 then (hu, 0) else _).1 i) = _
          rw [if_neg h0]
          intro i hi
          have hi : i < N := hi
          show nI (r_hrow _ _ _ _ _ hu N i) = _
          unfold r_hrow
          rw [if_pos hi, hok.2, hit]
      · show (r_ma x y n (sz, rd, 0) 0).2.2 ≤ 59
        omega
      · show (if (r_ma x y n (sz, rd, 0) 0).2.2 = 0 then (hu, 0) else _).2 ≤ 20
        rw [if_neg h0]
        exact hN
  · rcases hm with h2 | h2
    · exact absurd h2 h1
    · refine ⟨0, fun h9 => absurd h9 h1, ?_⟩
      unfold r_mkR
      rw [if_neg h1]
      refine ⟨h2, ?_, h1⟩
      obtain ⟨A, B, h3, h4⟩ := h2
      have hq := w_list_q hb hd hn h3.1
      exact ⟨lz, lr, by show q ≤ 59; dsimp only at hq; omega, lo, w_hul_20 hn h4⟩
/-- the two agree -/
theorem v_agree (hb : g_box (w_X x) (w_X y) n) (hd : g_dis (w_X x) (w_X y) n) (hn : n ≤ 20) {Z : ((Int32 × Int32 × Int64 × Int64 × Int64) × (Nat → Nat) × (Nat → Nat) × (Nat → Int32) × Nat) × (Nat → Int32) × Nat} {W : Int32 × ((Nat → Nat) × (Nat → Nat) × Nat) × (Nat → Nat) × (Nat → Nat) × Nat} (h : v_C x y n Z) (h' : v_M x y n W) :
    Z.1.2.2.2.2 = W.2.1.2.2 ∧ (∀ k, k < Z.1.2.2.2.2 → Z.1.2.2.1 (k + 1) - Z.1.2.2.1 k = W.2.1.1 (W.2.2.1 k) ∧ 3 ≤ W.2.1.1 (W.2.2.1 k) ∧ (∀ i, i < W.2.1.1 (W.2.2.1 k) → Z.1.2.1 (Z.1.2.2.1 k + i) = W.2.1.2.1 (20 * W.2.2.1 k + i) ∧ Z.1.2.1 (Z.1.2.2.1 k + i) < n ∧ j_after Z.1.2.1 Z.1.2.2.1 k i = r_after W.2.1.1 W.2.1.2.1 (W.2.2.1 k) i ∧ j_after Z.1.2.1 Z.1.2.2.1 k i < n ∧ Z.1.2.2.2.1 (j_after Z.1.2.1 Z.1.2.2.1 k i * 20 + Z.1.2.1 (Z.1.2.2.1 k + i)) = r_ws W.2.2.1 W.2.1.1 W.2.1.2.1 W.2.1.2.2 (r_after W.2.1.1 W.2.1.2.1 (W.2.2.1 k) i) (W.2.1.2.1 (20 * W.2.2.1 k + i)) 0) ∧ 0 < g_t (w_X x) (w_X y) (Z.1.2.1 (Z.1.2.2.1 k + 0)) (Z.1.2.1 (Z.1.2.2.1 k + 1)) (Z.1.2.1 (Z.1.2.2.1 k + 2))) ∧ Z.2.2 = W.2.2.2.2 ∧ ∀ i, i < Z.2.2 → Z.2.1 i = nI (W.2.2.2.1 i) := by
  rcases h with ⟨A, B, h1, h2⟩ | ⟨g1, g2, g3, g4, g5⟩
  rotate_left
  · obtain ⟨A', B', h1', h2'⟩ := h'
    have hq0 : W.2.1.2.2 = 0 := by
      by_cases h9 : W.2.1.2.2 = 0
      · exact h9
      · have := g_P_n (h1'.1.1 0 (by omega)).1
        omega
    have hz0 : W.2.2.2.2 = 0 := by
      rcases h2' with ⟨_, h9⟩ | ⟨h9, _⟩
      · exact h9
      · exact absurd hq0 h9
    exact ⟨by omega, fun k hk => absurd hk (by omega), by omega, fun i hi => absurd hi (by omega)⟩
  obtain ⟨A', B', h1', h2'⟩ := h'
  obtain ⟨⟨K, rg, sr, ow, q⟩, rm, rc⟩ := Z
  obtain ⟨md, ⟨sz, rd, q'⟩, od, hu, hz⟩ := W
  dsimp only at h1 h2 h1' h2' ⊢
  have hl := w_list_eq hn h1.1 h1'.1
  have hl1 := hl.1
  dsimp only at hl1
  subst hl1
  have hq := w_list_q hb hd hn h1.1
  dsimp only at hq
  have hh := w_hul_eq h2 h2'
  refine ⟨rfl, fun k hk => ?_, hh.1, hh.2⟩
  have hAB := hl.2 k hk
  have r1 := (h1.2.2.2.1 k hk)
  dsimp only at r1
  have r2 := h1'.2.1 k hk
  rw [← hAB.1, ← hAB.2] at r2
  obtain ⟨c, hE⟩ := g_P_emp (h1.1.1 k hk).1
  have h3 := g_ring_3 hE r1.2
  have hu9 := g_ring_uq hE r1.2 r2.2.2
  have hm : sr (k + 1) - sr k = sz (od k) := by rw [r1.1, ← hu9.1]; omega
  have hsz3 : 3 ≤ sz (od k) := by rw [← hu9.1]; exact h3
  have hcn : g_cnt (g_S (w_X x) (w_X y) n (A k) (B k)) n = sz (od k) := hu9.1
  have hent : ∀ i, i < sz (od k) → rg (sr k + i) = rd (20 * od k + i) := fun i hi => hu9.2 i (by rw [hcn]; exact hi)
  have hltn : ∀ i, i < sz (od k) → rg (sr k + i) < n := fun i hi => (r1.2.2.1 i (by rw [hcn]; exact hi)).1
  have haf : ∀ i, i < sz (od k) → j_after rg sr k i = rg (sr k + (i + 1) % sz (od k)) := fun i hi => by
    unfold j_after
    rw [hm, g_nx hi]
  refine ⟨hm, hsz3, fun i hi => ?_, ?_⟩
  · have hnx : (i + 1) % sz (od k) < sz (od k) := Nat.mod_lt _ (by omega)
    refine ⟨hent i hi, hltn i hi, ?_, by rw [haf i hi]; exact hltn _ hnx, ?_⟩
    · rw [haf i hi, hent _ hnx]
      rfl
    · have e1 : r_after sz rd (od k) i = j_after rg sr k i := by
        rw [haf i hi, hent _ hnx]
        rfl
      rw [e1, ← hent i hi, haf i hi]
      have u1 := hltn _ hnx
      have u2 := hltn i hi
      generalize rg (sr k + (i + 1) % sz (od k)) = u at u1 ⊢
      generalize rg (sr k + i) = v at u2 ⊢
      -- both name the one cell with the side u, v
      rcases h1.2.2.2.2 u v (by omega) (by omega) with ⟨j, j1, j2, j3⟩ | ⟨j1, j2⟩
      · have s1 := w_cons_side h1 j1 j2
        dsimp only at j3
        rw [j3]
        rcases m_ws (od := od) (sz := sz) (rd := rd) (q := q) (u := u) (v := v) q 0 (by omega) with ⟨l, _, l1, l2, l3⟩ | ⟨l1, _⟩
        · rw [l3]
          have s2 := m_cons_side h1' l1 l2
          have hS : ∀ s, g_S (w_X x) (w_X y) n (A j) (B j) s ↔ g_S (w_X x) (w_X y) n (A' l) (B' l) s := fun s => (s1.2 s).symm.trans (s2.2 s)
          have hP := g_P_uq hd (h1.1.1 j j1).1 (h1'.1.1 l l1).1 hS
          have hl9 := hl.2 l l1
          rw [← hl9.1, ← hl9.2] at hP
          rcases Nat.lt_trichotomy j l with h9 | h9 | h9
          · have : 20 * A j + B j < 20 * A l + B l := h1.1.2.1 j l h9 l1
            omega
          · rw [h9]
          · have : 20 * A l + B l < 20 * A j + B j := h1.1.2.1 l j h9 j1
            omega
        · obtain ⟨l, l2, l3⟩ := m_side_cons hb hd hn h1' s1.1
          exact absurd l3 (l1 l (Nat.zero_le _) l2)
      · dsimp only at j2
        rw [j2]
        rcases m_ws (od := od) (sz := sz) (rd := rd) (q := q) (u := u) (v := v) q 0 (by omega) with ⟨l, _, l1, l2, l3⟩ | ⟨_, l2⟩
        · have s2 := m_cons_side h1' l1 l2
          obtain ⟨j, c2, c3⟩ := w_side_cons hb hd hn h1 s2.1
          exact absurd c3 (j1 j c2)
        · rw [l2]
  · exact g_ring_cv hE r1.2 (i := 0) (j := 1) (l := 2) (by omega) (by omega) (by omega)
end VS
