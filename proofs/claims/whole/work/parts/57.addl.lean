/-! The class's rings: what its insertions leave. -/
theorem w_ins {x y : Nat → Int32} {fi v : Nat} : ∀ (t : Nat) (rg : Nat → Nat), fi ≤ t → ∃ p, p ≤ t ∧ fi ≤ p ∧ (fi + 1 ≤ t → fi + 1 ≤ p) ∧ (∀ j, j_ins x y fi v rg t j = if j < p then rg j else if j = p then v else if j ≤ t then rg (j - 1) else rg j) ∧ (fi + 1 < p → 0 ≤ j_turn x y (rg fi) (rg (p - 1)) (x v) (y v)) ∧ ∀ j, p ≤ j → j < t → ¬ 0 ≤ j_turn x y (rg fi) (rg j) (x v) (y v) := by
  have base : ∀ (t : Nat) (rg : Nat → Nat) (j : Nat), updN rg t v j = if j < t then rg j else if j = t then v else if j ≤ t then rg (j - 1) else rg j := by
    intro t rg j
    unfold updN
    by_cases h1 : j = t
    · rw [if_pos h1, if_neg (by omega), if_pos h1]
    · rw [if_neg h1]
      by_cases h2 : j < t
      · rw [if_pos h2]
      · rw [if_neg h2, if_neg h1, if_neg (by omega)]
  intro t
  induction t with
  | zero =>
    intro rg h
    refine ⟨0, Nat.le_refl _, h, fun h9 => absurd h9 (by omega), fun j => ?_, fun h9 => absurd h9 (by omega), fun j h1 h2 => absurd h2 (by omega)⟩
    rw [j_ins, if_pos (by omega)]
    exact base 0 rg j
  | succ t ih =>
    intro rg h
    by_cases h1 : t + 1 ≤ fi + 1
    · refine ⟨t + 1, Nat.le_refl _, h, fun h9 => h9, fun j => ?_, fun h9 => absurd h9 (by omega), fun j h1 h2 => absurd h2 (by omega)⟩
      rw [j_ins, if_pos h1]
      exact base (t + 1) rg j
    · by_cases h2 : 0 ≤ j_turn x y (rg fi) (rg (t + 1 - 1)) (x v) (y v)
      · refine ⟨t + 1, Nat.le_refl _, h, fun h9 => h9, fun j => ?_, fun _ => h2, fun j h1 h2 => absurd h2 (by omega)⟩
        rw [j_ins, if_neg h1, if_pos h2]
        exact base (t + 1) rg j
      · obtain ⟨p, p1, p2, p3, p4, p5, p6⟩ := ih (updN rg (t + 1) (rg (t + 1 - 1))) (by omega)
        have e0 : ∀ j, j ≤ t → updN rg (t + 1) (rg (t + 1 - 1)) j = rg j := fun j hj => updN_n (by omega)
        refine ⟨p, by omega, p2, fun _ => p3 (by omega), fun j => ?_, fun h9 => ?_, fun j j1 j2 => ?_⟩
        · rw [j_ins, if_neg h1, if_neg h2]
          show j_ins x y fi v (updN rg (t + 1) (rg (t + 1 - 1))) t j = _
          rw [p4 j]
          by_cases c1 : j < p
          · rw [if_pos c1, if_pos c1, e0 j (by omega)]
          · rw [if_neg c1, if_neg c1]
            by_cases c2 : j = p
            · rw [if_pos c2, if_pos c2]
            · rw [if_neg c2, if_neg c2]
              by_cases c3 : j ≤ t
              · rw [if_pos c3, if_pos (by omega), e0 _ (by omega)]
              · rw [if_neg c3]
                by_cases c4 : j = t + 1
                · subst c4
                  rw [if_pos (Nat.le_refl _), updN_s]
                · rw [if_neg (by omega), updN_n c4]
        · have := p5 h9
          rw [e0 _ (by omega), e0 _ (by omega)] at this
          exact this
        · by_cases c1 : j < t
          · have := p6 j j1 c1
            rw [e0 _ (by omega), e0 _ (by omega)] at this
            exact this
          · have : j = t + 1 - 1 := by omega
            rw [this]
            exact h2
theorem g_ring_cg {X Y : Nat → Int} {S S' : Nat → Prop} {z m : Nat} {r r' : Nat → Nat} (hS : ∀ s, S s ↔ S' s) (hm : 0 < m) (hr : ∀ i, i < m → r i = r' i) (h : g_ring X Y S z r m) : g_ring X Y S' z r' m := by
  obtain ⟨h0, h1, h2, h3⟩ := h
  refine ⟨by rw [← hr 0 hm]; exact h0, fun i hi => by rw [← hr i hi]; exact (hS _).mp (h1 i hi), fun s hs => ?_, fun i j c1 c2 c3 => ?_⟩
  · obtain ⟨i, i1, i2⟩ := h2 s ((hS s).mpr hs)
    exact ⟨i, i1, by rw [← hr i i1]; exact i2⟩
  · rw [← hr i (by omega), ← hr j c3]
    exact h3 i j c1 c2 c3
theorem g_cnt_lt {P : Nat → Prop} {k s n : Nat} (h1 : k ≤ s) (h2 : s < n) (h : P s) : g_cnt P k < g_cnt P n := by
  have mono : ∀ d m, g_cnt P m ≤ g_cnt P (m + d) := by
    intro d
    induction d with
    | zero => intro m; exact Nat.le_refl _
    | succ d ih => intro m; exact Nat.le_trans (ih m) (Nat.le_add_right _ _)
  have e1 := mono (s - k) k
  have e2 := mono (n - (s + 1)) (s + 1)
  rw [show k + (s - k) = s by omega] at e1
  rw [show s + 1 + (n - (s + 1)) = n by omega] at e2
  have e3 := g_cnt_t h
  omega
section WA
variable {x y : Nat → Int32} {n : Nat}
theorem w_addl_go (hb : g_box (w_X x) (w_X y) n) (hd : g_dis (w_X x) (w_X y) n) {a b c z fi : Nat} (hE : g_emp (w_X x) (w_X y) n a b c) (hcap : fi + g_cnt (g_S (w_X x) (w_X y) n a b) n ≤ 105) : ∀ (f k en : Nat) (rg : Nat → Nat), n ≤ k + f → k ≤ n → z < k → g_S (w_X x) (w_X y) n a b z → en = fi + g_cnt (g_S (w_X x) (w_X y) n a b) k → 0 < g_cnt (g_S (w_X x) (w_X y) n a b) k → g_ring (w_X x) (w_X y) (fun s => g_S (w_X x) (w_X y) n a b s ∧ s < k) z (fun i => rg (fi + i)) (g_cnt (g_S (w_X x) (w_X y) n a b) k) → (∀ i, 0 < i → i < g_cnt (g_S (w_X x) (w_X y) n a b) k → ¬ rg (fi + i) = z) →
    (j_addl x y (j_lay x y a b c) n fi rg en k).2 = fi + g_cnt (g_S (w_X x) (w_X y) n a b) n ∧ (∀ j, j < fi → (j_addl x y (j_lay x y a b c) n fi rg en k).1 j = rg j) ∧ g_ring (w_X x) (w_X y) (g_S (w_X x) (w_X y) n a b) z (fun i => (j_addl x y (j_lay x y a b c) n fi rg en k).1 (fi + i)) (g_cnt (g_S (w_X x) (w_X y) n a b) n) := by
  intro f
  induction f with
  | zero =>
    intro k en rg h1 h2 hz hSz hen hm hr hne
    have hk : k = n := by omega
    subst hk
    rw [j_addl, if_neg (by omega)]
    exact ⟨hen, fun _ _ => rfl, g_ring_cg (fun s => ⟨fun h => h.1, fun h => ⟨h, h.1⟩⟩) hm (fun _ _ => rfl) hr⟩
  | succ f ih =>
    intro k en rg h1 h2 hz hSz hen hm hr hne
    by_cases hk : k < n
    · have hp : j_powC (j_lay x y a b c) (x k) (y k) = 0 ↔ g_S (w_X x) (w_X y) n a b k := by
        rw [w_l_z (w_pow hb hE.1 hE.2.1 hE.2.2.1 hk), g_S_iff hE]
        exact ⟨fun h => ⟨hk, by omega⟩, fun h => by rw [h.2]; rfl⟩
      rw [j_addl, if_pos hk]
      by_cases hS : g_S (w_X x) (w_X y) n a b k
      · have hlt := g_cnt_lt (Nat.le_refl k) hk hS
        rw [if_neg (by omega), if_neg (fun h9 => h9 (hp.mpr hS))]
        have hc1 := g_cnt_t hS
        obtain ⟨p, p1, p2, p3, p4, p5, p6⟩ := w_ins (x := x) (y := y) (fi := fi) (v := k) en rg (by omega)
        have p3 := p3 (by omega)
        obtain ⟨r0, r1, r2, r3⟩ := hr
        have r0 : rg fi = z := r0
        have hlt2 : ∀ i, i < g_cnt (g_S (w_X x) (w_X y) n a b) k → rg (fi + i) < k := fun i hi => (r1 i hi).2
        have rS : ∀ i, i < g_cnt (g_S (w_X x) (w_X y) n a b) k → rg (fi + i) < n ∧ g_i (w_X x) (w_X y) a b c (rg (fi + i)) = 0 := fun i hi => (g_S_iff hE _).mp (r1 i hi).1
        have kS := (g_S_iff hE _).mp hS
        have zS := (g_S_iff hE _).mp hSz
        have hK := hE.2.2.2.1
        have fB : ∀ j, p ≤ fi + j → j < g_cnt (g_S (w_X x) (w_X y) n a b) k → 0 < g_t (w_X x) (w_X y) z k (rg (fi + j)) := fun j j1 j2 => by
          have e1 := p6 (fi + j) j1 (by omega)
          rw [r0, w_i_ge (w_turn hb zS.1 (rS j j2).1 hk)] at e1
          rw [g_t_swap]
          omega
        have fA0 : fi + 1 < p → 0 < g_t (w_X x) (w_X y) z (rg (p - 1)) k := fun h9 => by
          have e0 : p - 1 = fi + (p - 1 - fi) := by omega
          have e1 := p5 h9
          have e2 := rS (p - 1 - fi) (by omega)
          have e3 := hlt2 (p - 1 - fi) (by omega)
          have e4 := hne (p - 1 - fi) (by omega) (by omega)
          rw [← e0] at e2 e3 e4
          rw [r0, w_i_ge (w_turn hb zS.1 e2.1 hk)] at e1
          have e5 : ¬ g_t (w_X x) (w_X y) z (rg (p - 1)) k = 0 := fun h8 => by
            rcases g_col (w_X x) (w_X y) (show ¬ g_t (w_X x) (w_X y) a b c = 0 by omega) (fun h7 => e4 (hd z _ zS.1 e2.1 h7).symm) zS.2 e2.2 kS.2 h8 with h7 | h7
            · have := hd k z hk zS.1 h7
              omega
            · have := hd k _ hk e2.1 h7
              omega
          omega
        have fA : ∀ i, 0 < i → fi + i < p → 0 < g_t (w_X x) (w_X y) z (rg (fi + i)) k := fun i i1 i2 => by
          have e1 := fA0 (by omega)
          by_cases h9 : fi + i = p - 1
          · rw [h9]; exact e1
          · have e0 : p - 1 = fi + (p - 1 - fi) := by omega
            have e2 : 0 < g_t (w_X x) (w_X y) z (rg (fi + i)) (rg (fi + (p - 1 - fi))) := r3 i (p - 1 - fi) i1 (by omega) (by omega)
            have e3 := rS (p - 1 - fi) (by omega)
            rw [← e0] at e2 e3
            exact g_trans (w_X x) (w_X y) hK zS.2 (rS i (by omega)).2 e3.2 kS.2 e2 e1
        have q1 : ∀ i, fi + i < p → j_ins x y fi k rg en (fi + i) = rg (fi + i) := fun i hi => by rw [p4, if_pos hi]
        have q2 : ∀ i, fi + i = p → j_ins x y fi k rg en (fi + i) = k := fun i hi => by rw [p4, if_neg (by omega), if_pos hi]
        have q3 : ∀ i, p < fi + i → fi + i ≤ en → j_ins x y fi k rg en (fi + i) = rg (fi + (i - 1)) := fun i hi hi2 => by rw [p4, if_neg (by omega), if_neg (by omega), if_pos hi2, show fi + i - 1 = fi + (i - 1) by omega]
        have res := ih (k + 1) (en + 1) (j_ins x y fi k rg en) (by omega) (by omega) (by omega) hSz (by omega) (by omega) (by
          rw [hc1]
          refine ⟨?_, fun i hi => ?_, fun s hs => ?_, fun i j c1 c2 c3 => ?_⟩
          · show j_ins x y fi k rg en (fi + 0) = z
            rw [q1 0 (by omega)]
            exact r0
          · show g_S (w_X x) (w_X y) n a b (j_ins x y fi k rg en (fi + i)) ∧ j_ins x y fi k rg en (fi + i) < k + 1
            rcases Nat.lt_trichotomy (fi + i) p with h9 | h9 | h9
            · rw [q1 i h9]
              have := r1 i (by omega)
              exact ⟨this.1, Nat.lt_succ_of_lt this.2⟩
            · rw [q2 i h9]
              exact ⟨hS, Nat.lt_succ_self k⟩
            · rw [q3 i h9 (by omega)]
              have := r1 (i - 1) (by omega)
              exact ⟨this.1, Nat.lt_succ_of_lt this.2⟩
          · by_cases h9 : s = k
            · refine ⟨p - fi, by omega, ?_⟩
              show j_ins x y fi k rg en (fi + (p - fi)) = s
              rw [q2 _ (by omega), h9]
            · obtain ⟨i, i1, i2⟩ := r2 s ⟨hs.1, by omega⟩
              by_cases h8 : fi + i < p
              · refine ⟨i, by omega, ?_⟩
                show j_ins x y fi k rg en (fi + i) = s
                rw [q1 i h8]
                exact i2
              · refine ⟨i + 1, by omega, ?_⟩
                show j_ins x y fi k rg en (fi + (i + 1)) = s
                rw [q3 (i + 1) (by omega) (by omega)]
                exact i2
          · show 0 < g_t (w_X x) (w_X y) z (j_ins x y fi k rg en (fi + i)) (j_ins x y fi k rg en (fi + j))
            rcases Nat.lt_trichotomy (fi + i) p with h9 | h9 | h9
            · rw [q1 i h9]
              rcases Nat.lt_trichotomy (fi + j) p with h8 | h8 | h8
              · rw [q1 j h8]
                exact r3 i j c1 c2 (by omega)
              · rw [q2 j h8]
                exact fA i c1 h9
              · rw [q3 j h8 (by omega)]
                exact r3 i (j - 1) c1 (by omega) (by omega)
            · rw [q2 i h9, q3 j (by omega) (by omega)]
              exact fB (j - 1) (by omega) (by omega)
            · rw [q3 i h9 (by omega), q3 j (by omega) (by omega)]
              exact r3 (i - 1) (j - 1) (by omega) (by omega) (by omega)) (by
          intro i i1 i2
          rcases Nat.lt_trichotomy (fi + i) p with h9 | h9 | h9
          · rw [q1 i h9]
            exact hne i i1 (by omega)
          · rw [q2 i h9]
            omega
          · rw [q3 i h9 (by omega)]
            exact hne (i - 1) (by omega) (by omega))
        refine ⟨res.1, fun j hj => ?_, res.2.2⟩
        rw [res.2.1 j hj, p4, if_pos (by omega)]
      · have hc0 := g_cnt_f hS
        by_cases h105 : 105 ≤ en
        · rw [if_pos h105]
          have hno : ∀ s, g_S (w_X x) (w_X y) n a b s → s < k := fun s hs => by
            by_cases h9 : s < k
            · exact h9
            · have := g_cnt_lt (P := g_S (w_X x) (w_X y) n a b) (Nat.le_of_not_lt h9) hs.1 hs
              omega
          have hcn : g_cnt (g_S (w_X x) (w_X y) n a b) n = g_cnt (g_S (w_X x) (w_X y) n a b) k := by
            have e1 : g_cnt (g_S (w_X x) (w_X y) n a b) k ≤ g_cnt (g_S (w_X x) (w_X y) n a b) n := by
              have : ∀ d m, g_cnt (g_S (w_X x) (w_X y) n a b) m ≤ g_cnt (g_S (w_X x) (w_X y) n a b) (m + d) := by
                intro d
                induction d with
                | zero => intro m; exact Nat.le_refl _
                | succ d ih => intro m; exact Nat.le_trans (ih m) (Nat.le_add_right _ _)
              have := this (n - k) k
              rw [show k + (n - k) = n by omega] at this
              exact this
            omega
          rw [hcn]
          exact ⟨hen, fun _ _ => rfl, g_ring_cg (fun s => ⟨fun h => h.1, fun h => ⟨h, hno s h⟩⟩) hm (fun _ _ => rfl) hr⟩
        · rw [if_neg h105, if_pos (fun h9 => hS (hp.mp h9))]
          refine ih (k + 1) en rg (by omega) (by omega) (by omega) hSz (by omega) (by omega) ?_ (by rw [hc0]; exact hne)
          rw [hc0]
          refine g_ring_cg (fun s => ⟨fun h => ⟨h.1, by omega⟩, fun h => ⟨h.1, ?_⟩⟩) hm (fun _ _ => rfl) hr
          have h3 := h.2
          by_cases h9 : s = k
          · subst h9; exact absurd h.1 hS
          · omega
    · have hk2 : k = n := by omega
      subst hk2
      rw [j_addl, if_neg (by omega)]
      exact ⟨hen, fun _ _ => rfl, g_ring_cg (fun s => ⟨fun h => h.1, fun h => ⟨h, h.1⟩⟩) hm (fun _ _ => rfl) hr⟩
theorem w_addl (hb : g_box (w_X x) (w_X y) n) (hd : g_dis (w_X x) (w_X y) n) {a b c z fi : Nat} (hE : g_emp (w_X x) (w_X y) n a b c) (hcap : fi + g_cnt (g_S (w_X x) (w_X y) n a b) n ≤ 105) (hz : g_S (w_X x) (w_X y) n a b z) (hlow : ∀ s, g_S (w_X x) (w_X y) n a b s → z ≤ s) (rg : Nat → Nat) : (j_addl x y (j_lay x y a b c) n fi rg fi z).2 = fi + g_cnt (g_S (w_X x) (w_X y) n a b) n ∧ (∀ j, j < fi → (j_addl x y (j_lay x y a b c) n fi rg fi z).1 j = rg j) ∧ g_ring (w_X x) (w_X y) (g_S (w_X x) (w_X y) n a b) z (fun i => (j_addl x y (j_lay x y a b c) n fi rg fi z).1 (fi + i)) (g_cnt (g_S (w_X x) (w_X y) n a b) n) := by
  have hzn : z < n := hz.1
  have hp : j_powC (j_lay x y a b c) (x z) (y z) = 0 := by
    rw [w_l_z (w_pow hb hE.1 hE.2.1 hE.2.2.1 hzn)]
    have := (g_S_iff hE _).mp hz
    rw [this.2]
    rfl
  have h0 : g_cnt (g_S (w_X x) (w_X y) n a b) z = 0 := g_cnt_0 z (fun s hs h9 => by have := hlow s h9; omega)
  have h1 : g_cnt (g_S (w_X x) (w_X y) n a b) (z + 1) = 1 := by rw [g_cnt_t hz, h0]
  have h2 := g_cnt_lt (Nat.le_refl z) hzn hz
  rw [j_addl, if_pos hzn, if_neg (by omega), if_neg (fun h9 => h9 hp), j_ins, if_pos (by omega)]
  have res := w_addl_go hb hd hE hcap n (z + 1) (fi + 1) (updN rg fi z) (by omega) (by omega) (by omega) hz (by omega) (by omega) (by
    rw [h1]
    refine ⟨updN_s, fun i hi => ?_, fun s hs => ⟨0, by omega, ?_⟩, fun i j c1 c2 c3 => absurd c3 (by omega)⟩
    · have : i = 0 := by omega
      subst this
      show g_S (w_X x) (w_X y) n a b (updN rg fi z (fi + 0)) ∧ updN rg fi z (fi + 0) < z + 1
      rw [show fi + 0 = fi from rfl, updN_s]
      exact ⟨hz, Nat.lt_succ_self z⟩
    · show updN rg fi z (fi + 0) = s
      rw [show fi + 0 = fi from rfl, updN_s]
      have := hlow s hs.1
      have := hs.2
      omega) (fun i i1 i2 => absurd i2 (by omega))
  refine ⟨res.1, fun j hj => ?_, res.2.2⟩
  rw [res.2.1 j hj, updN_n (by omega)]
/-- every cell has a ring -/
theorem w_ring_ex (hb : g_box (w_X x) (w_X y) n) (hd : g_dis (w_X x) (w_X y) n) (hn : n ≤ 20) {a b c : Nat} (hE : g_emp (w_X x) (w_X y) n a b c) : ∃ z r, g_ring (w_X x) (w_X y) (g_S (w_X x) (w_X y) n a b) z r (g_cnt (g_S (w_X x) (w_X y) n a b) n) ∧ g_S (w_X x) (w_X y) n a b z ∧ ∀ s, g_S (w_X x) (w_X y) n a b s → z ≤ s := by
  obtain ⟨z, _, z2, z3⟩ := g_least (g_S (w_X x) (w_X y) n a b) a a (Nat.le_refl _) ⟨hE.1, c, hE, g_i_a _ _ a b c⟩
  have hlow : ∀ s, g_S (w_X x) (w_X y) n a b s → z ≤ s := fun s hs => by
    by_cases h9 : z ≤ s
    · exact h9
    · exact absurd hs (z3 s (by omega))
  have hc := g_cnt_le (g_S (w_X x) (w_X y) n a b) n
  exact ⟨z, _, (w_addl hb hd (fi := 0) hE (by omega) z2 hlow (fun _ => 0)).2.2, z2, hlow⟩
theorem w_side_P (hb : g_box (w_X x) (w_X y) n) (hd : g_dis (w_X x) (w_X y) n) (hn : n ≤ 20) {u v : Nat} (h : g_side (w_X x) (w_X y) n u v) : ∃ a b, g_P (w_X x) (w_X y) n a b ∧ ∀ s, g_S (w_X x) (w_X y) n a b s ↔ g_S (w_X x) (w_X y) n u v s := by
  obtain ⟨c, hc, _⟩ := h
  obtain ⟨z, r, h1, _, h3⟩ := w_ring_ex hb hd hn hc
  exact ⟨z, r 1, g_ring_P hc h1 h3⟩
end WA
