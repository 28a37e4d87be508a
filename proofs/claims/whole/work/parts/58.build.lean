/-! The class's build: all cells in their order. -/
section WB
variable {x y : Nat → Int32} {n : Nat}
theorem w_left_go (hb : g_box (w_X x) (w_X y) n) {a b : Nat} (ha : a < n) (hb1 : b < n) : ∀ (f k : Nat) (t : Bool) (K : Int32 × Int32 × Int64 × Int64 × Int64), n ≤ k + f → ((t = false ∧ ∀ s, s < k → s < n → g_t (w_X x) (w_X y) a b s ≤ 0) ∨ (t = true ∧ ∃ c, c < n ∧ K = j_lay x y a b c ∧ 0 < g_t (w_X x) (w_X y) a b c ∧ ∀ s, s < k → s < n → 0 < g_t (w_X x) (w_X y) a b s → 0 ≤ g_i (w_X x) (w_X y) a b c s)) →
    ((j_left x y n a b t K k).1 = false ∧ ∀ s, s < n → g_t (w_X x) (w_X y) a b s ≤ 0) ∨ ((j_left x y n a b t K k).1 = true ∧ ∃ c, c < n ∧ (j_left x y n a b t K k).2 = j_lay x y a b c ∧ 0 < g_t (w_X x) (w_X y) a b c ∧ ∀ s, s < n → 0 < g_t (w_X x) (w_X y) a b s → 0 ≤ g_i (w_X x) (w_X y) a b c s) := by
  intro f
  induction f with
  | zero =>
    intro k t K h1 h
    rw [j_left, if_neg (by omega)]
    rcases h with ⟨h2, h3⟩ | ⟨h2, c, c1, c2, c3, c4⟩
    · exact Or.inl ⟨h2, fun s hs => h3 s (by omega) hs⟩
    · exact Or.inr ⟨h2, c, c1, c2, c3, fun s hs => c4 s (by omega) hs⟩
  | succ f ih =>
    intro k t K h1 h
    by_cases hk : k < n
    · rw [j_left, if_pos hk]
      have hT := w_turn hb ha hb1 hk
      by_cases h2 : j_turn x y a b (x k) (y k) ≤ 0
      · rw [if_pos h2]
        rw [w_i_le hT] at h2
        refine ih (k + 1) t K (by omega) ?_
        rcases h with ⟨h3, h4⟩ | ⟨h3, c, c1, c2, c3, c4⟩
        · exact Or.inl ⟨h3, fun s hs hn => by
            by_cases h9 : s = k
            · subst h9; exact h2
            · exact h4 s (by omega) hn⟩
        · exact Or.inr ⟨h3, c, c1, c2, c3, fun s hs hn h9 => by
            by_cases h8 : s = k
            · subst h8; omega
            · exact c4 s (by omega) hn h9⟩
      · rw [if_neg h2]
        rw [w_i_le hT] at h2
        rcases h with ⟨h3, h4⟩ | ⟨h3, c, c1, c2, c3, c4⟩
        · rw [if_pos h3]
          refine ih (k + 1) true (j_lay x y a b k) (by omega) (Or.inr ⟨rfl, k, hk, rfl, by omega, fun s hs hn h9 => ?_⟩)
          by_cases h8 : s = k
          · subst h8; rw [g_i_c]; exact Int.le_refl 0
          · have := h4 s (by omega) hn
            omega
        · rw [if_neg (by rw [h3]; exact fun h9 => Bool.noConfusion h9)]
          have hW := w_pow hb ha hb1 c1 hk
          rw [← c2] at hW
          by_cases h4 : 0 ≤ j_powC K (x k) (y k)
          · rw [if_pos h4]
            rw [w_l_ge hW] at h4
            refine ih (k + 1) t K (by omega) (Or.inr ⟨h3, c, c1, c2, c3, fun s hs hn h9 => ?_⟩)
            by_cases h8 : s = k
            · subst h8; omega
            · exact c4 s (by omega) hn h9
          · rw [if_neg h4]
            rw [w_l_ge hW] at h4
            refine ih (k + 1) true (j_lay x y a b k) (by omega) (Or.inr ⟨rfl, k, hk, rfl, by omega, fun s hs hn h9 => ?_⟩)
            by_cases h8 : s = k
            · subst h8; rw [g_i_c]; exact Int.le_refl 0
            · have e1 := c4 s (by omega) hn h9
              have e2 := g_pl (w_X x) (w_X y) a b c k s
              have e3 := Int.mul_nonneg (show 0 ≤ g_t (w_X x) (w_X y) a b k by omega) e1
              have e4 := Int.mul_neg_of_pos_of_neg h9 (show g_i (w_X x) (w_X y) a b c k < 0 by omega)
              exact g_nn c3 (by omega)
    · rw [j_left, if_neg hk]
      rcases h with ⟨h2, h3⟩ | ⟨h2, c, c1, c2, c3, c4⟩
      · exact Or.inl ⟨h2, fun s hs => h3 s (by omega) hs⟩
      · exact Or.inr ⟨h2, c, c1, c2, c3, fun s hs => c4 s (by omega) hs⟩
theorem w_begins_go (hb : g_box (w_X x) (w_X y) n) {a b c : Nat} (ha : a < n) (hb1 : b < n) (hc : c < n) (K : Int32 × Int32 × Int64 × Int64 × Int64) (hK : K = j_lay x y a b c) : ∀ (f k : Nat), n ≤ k + f → (j_begins x y K.1 K.2.1 K.2.2.1 K.2.2.2.1 K.2.2.2.2 n a b k = true ↔ ∀ s, k ≤ s → s < n → 0 ≤ g_i (w_X x) (w_X y) a b c s ∧ (g_i (w_X x) (w_X y) a b c s = 0 → a ≤ s ∧ 0 ≤ g_t (w_X x) (w_X y) a b s)) := by
  intro f
  induction f with
  | zero =>
    intro k h1
    rw [j_begins, if_neg (by omega)]
    exact ⟨fun _ s h2 h3 => absurd h3 (by omega), fun _ => rfl⟩
  | succ f ih =>
    intro k h1
    by_cases hk : k < n
    · have hW : w_l (j_pow K.1 K.2.1 K.2.2.1 K.2.2.2.1 K.2.2.2.2 (x k) (y k)) (2 * g_i (w_X x) (w_X y) a b c k) 9830400000000 := by
        have := w_pow hb ha hb1 hc hk
        rw [← hK] at this
        exact this
      have hT := w_turn hb ha hb1 hk
      have hI := ih (k + 1) (by omega)
      have hs : (∀ s, k ≤ s → s < n → 0 ≤ g_i (w_X x) (w_X y) a b c s ∧ (g_i (w_X x) (w_X y) a b c s = 0 → a ≤ s ∧ 0 ≤ g_t (w_X x) (w_X y) a b s)) ↔ (0 ≤ g_i (w_X x) (w_X y) a b c k ∧ (g_i (w_X x) (w_X y) a b c k = 0 → a ≤ k ∧ 0 ≤ g_t (w_X x) (w_X y) a b k)) ∧ ∀ s, k + 1 ≤ s → s < n → 0 ≤ g_i (w_X x) (w_X y) a b c s ∧ (g_i (w_X x) (w_X y) a b c s = 0 → a ≤ s ∧ 0 ≤ g_t (w_X x) (w_X y) a b s) := by
        constructor
        · intro h
          exact ⟨h k (Nat.le_refl _) hk, fun s h2 h3 => h s (by omega) h3⟩
        · rintro ⟨h2, h3⟩ s h4 h5
          by_cases h6 : s = k
          · subst h6; exact h2
          · exact h3 s (by omega) h5
      have bg : ∀ (bb : Bool), (j_bg (j_pow K.1 K.2.1 K.2.2.1 K.2.2.2.1 K.2.2.2.2 (x k) (y k)) bb (j_begins x y K.1 K.2.1 K.2.2.1 K.2.2.2.1 K.2.2.2.2 n a b (k + 1)) = true) ↔ (0 ≤ g_i (w_X x) (w_X y) a b c k ∧ (g_i (w_X x) (w_X y) a b c k = 0 → bb = false)) ∧ j_begins x y K.1 K.2.1 K.2.2.1 K.2.2.2.1 K.2.2.2.2 n a b (k + 1) = true := by
        intro bb
        unfold j_bg
        by_cases h2 : j_pow K.1 K.2.1 K.2.2.1 K.2.2.2.1 K.2.2.2.2 (x k) (y k) < 0
        · rw [if_pos h2]
          rw [w_l_lt hW] at h2
          exact ⟨fun h => Bool.noConfusion h, fun h => by have := h.1.1; omega⟩
        · rw [if_neg h2]
          rw [w_l_lt hW] at h2
          by_cases h3 : j_pow K.1 K.2.1 K.2.2.1 K.2.2.2.1 K.2.2.2.2 (x k) (y k) = 0
          · rw [if_neg (fun h => h h3)]
            rw [w_l_z hW] at h3
            cases bb with
            | false =>
              rw [if_pos rfl]
              exact ⟨fun h => ⟨⟨by omega, fun _ => rfl⟩, h⟩, fun h => h.2⟩
            | true =>
              rw [if_neg (fun h => Bool.noConfusion h)]
              exact ⟨fun h => Bool.noConfusion h, fun h => by have := h.1.2 (by omega); exact Bool.noConfusion this⟩
          · rw [if_pos h3]
            rw [w_l_z hW] at h3
            exact ⟨fun h => ⟨⟨by omega, fun h9 => absurd (by rw [h9]; rfl) h3⟩, h⟩, fun h => h.2⟩
      rw [j_begins, if_pos hk, hs, ← hI]
      by_cases h2 : k < a
      · rw [if_pos h2, bg]
        refine ⟨fun h => ⟨⟨h.1.1, fun h9 => Bool.noConfusion (h.1.2 h9)⟩, h.2⟩, fun h => ⟨⟨h.1.1, fun h9 => ?_⟩, h.2⟩⟩
        have := (h.1.2 h9).1
        omega
      · rw [if_neg h2]
        by_cases h3 : 0 ≤ j_turn x y a b (x k) (y k)
        · rw [if_pos h3, bg]
          rw [w_i_ge hT] at h3
          exact ⟨fun h => ⟨⟨h.1.1, fun _ => ⟨by omega, h3⟩⟩, h.2⟩, fun h => ⟨⟨h.1.1, fun _ => rfl⟩, h.2⟩⟩
        · rw [if_neg h3, bg]
          rw [w_i_ge hT] at h3
          exact ⟨fun h => ⟨⟨h.1.1, fun h9 => Bool.noConfusion (h.1.2 h9)⟩, h.2⟩, fun h => ⟨⟨h.1.1, fun h9 => absurd (h.1.2 h9).2 h3⟩, h.2⟩⟩
    · rw [j_begins, if_neg hk]
      exact ⟨fun _ s h2 h3 => absurd h3 (by omega), fun _ => rfl⟩
theorem w_step (hb : g_box (w_X x) (w_X y) n) {a b : Nat} (ha : a < n) (hb1 : b < n) (z : (Int32 × Int32 × Int64 × Int64 × Int64) × (Nat → Nat) × (Nat → Nat) × (Nat → Int32) × Nat) :
    (g_P (w_X x) (w_X y) n a b ∧ ∃ c, g_emp (w_X x) (w_X y) n a b c ∧ (j_step x y n a b z).2 = j_add x y (j_lay x y a b c) n a z.2.1 z.2.2.1 z.2.2.2.1 z.2.2.2.2) ∨ (¬ g_P (w_X x) (w_X y) n a b ∧ (j_step x y n a b z).2 = z.2) := by
  have hl := w_left_go hb ha hb1 n 0 false z.1 (by omega) (Or.inl ⟨rfl, fun s hs => absurd hs (by omega)⟩)
  unfold j_step
  generalize j_left x y n a b false z.1 0 = L at hl ⊢
  rcases hl with ⟨h1, h2⟩ | ⟨h1, c, c1, c2, c3, c4⟩
  · right
    rw [if_pos h1]
    refine ⟨fun h9 => ?_, rfl⟩
    obtain ⟨c, hc, _⟩ := h9
    have := h2 c hc.2.2.1
    have := hc.2.2.2.1
    omega
  · rw [if_neg (by rw [h1]; exact fun h9 => Bool.noConfusion h9)]
    have hg := w_begins_go hb ha hb1 c1 L.2 c2 n 0 (by omega)
    by_cases h3 : j_begins x y L.2.1 L.2.2.1 L.2.2.2.1 L.2.2.2.2.1 L.2.2.2.2.2 n a b 0 = true
    · left
      rw [if_neg (by rw [h3]; exact fun h9 => Bool.noConfusion h9)]
      have h4 := hg.mp h3
      have hE : g_emp (w_X x) (w_X y) n a b c := ⟨ha, hb1, c1, c3, fun s hs => (h4 s (by omega) hs).1⟩
      exact ⟨⟨c, hE, fun s hs h9 => (h4 s (by omega) hs).2 h9⟩, c, hE, by rw [c2]⟩
    · right
      rw [if_pos (by cases hq : j_begins x y L.2.1 L.2.2.1 L.2.2.2.1 L.2.2.2.2.1 L.2.2.2.2.2 n a b 0 with | false => rfl | true => exact absurd hq h3)]
      refine ⟨fun h9 => h3 (hg.mpr ?_), rfl⟩
      obtain ⟨d, hd, hd2⟩ := h9
      have e1 := c4 d hd.2.2.1 hd.2.2.2.1
      have e2 := hd.2.2.2.2 c c1
      have e3 : g_i (w_X x) (w_X y) a b d c = - g_i (w_X x) (w_X y) a b c d := by unfold g_i; grind
      have e4 := g_emp_tr hd ha hb1 c1 c3 (g_i_a _ _ a b d) (g_i_b _ _ a b d) (by omega)
      exact fun s _ hs => ⟨e4.1.2.2.2.2 s hs, fun h9 => hd2 s hs ((e4.2 s).mp h9)⟩
end WB
theorem w_claim {rg sr : Nat → Nat} {d : Nat} : ∀ (f i : Nat) (ow : Nat → Int32), sr (d + 1) - sr d ≤ i + f → ∀ t, ((∃ l, i ≤ l ∧ l < sr (d + 1) - sr d ∧ t = rg (sr d + l) * 20 + j_after rg sr d l) ∧ j_claim rg sr d ow i t = nI d) ∨ ((¬ ∃ l, i ≤ l ∧ l < sr (d + 1) - sr d ∧ t = rg (sr d + l) * 20 + j_after rg sr d l) ∧ j_claim rg sr d ow i t = ow t) := by
  intro f
  induction f with
  | zero =>
    intro i ow h t
    rw [j_claim, if_neg (by omega)]
    exact Or.inr ⟨fun ⟨l, l1, l2, _⟩ => by omega, rfl⟩
  | succ f ih =>
    intro i ow h t
    by_cases hi : i < sr (d + 1) - sr d
    · rw [j_claim, if_pos hi]
      rcases ih (i + 1) (upd ow (rg (sr d + i) * 20 + j_after rg sr d i) (nI d)) (by omega) t with ⟨⟨l, l1, l2, l3⟩, h2⟩ | ⟨h1, h2⟩
      · exact Or.inl ⟨⟨l, by omega, l2, l3⟩, h2⟩
      · by_cases h3 : t = rg (sr d + i) * 20 + j_after rg sr d i
        · refine Or.inl ⟨⟨i, Nat.le_refl _, hi, h3⟩, ?_⟩
          rw [h2, h3]
          exact if_pos rfl
        · refine Or.inr ⟨fun ⟨l, l1, l2, l3⟩ => ?_, ?_⟩
          · by_cases h4 : l = i
            · subst h4; exact h3 l3
            · exact h1 ⟨l, by omega, l2, l3⟩
          · rw [h2]
            exact if_neg h3
    · rw [j_claim, if_neg hi]
      exact Or.inr ⟨fun ⟨l, l1, l2, _⟩ => by omega, rfl⟩
theorem w_fill {v : Int32} {N : Nat} : ∀ (f k : Nat) (g : Nat → Int32), N ≤ k + f → ∀ t, k ≤ t → t < N → j_fill v N g k t = v := by
  have keep : ∀ (f k : Nat) (g : Nat → Int32), N ≤ k + f → ∀ t, t < k → j_fill v N g k t = g t := by
    intro f
    induction f with
    | zero => intro k g h t ht; rw [j_fill, if_neg (by omega)]
    | succ f ih =>
      intro k g h t ht
      by_cases hk : k < N
      · rw [j_fill, if_pos hk, ih (k + 1) _ (by omega) t (by omega)]
        exact if_neg (by omega)
      · rw [j_fill, if_neg hk]
  intro f
  induction f with
  | zero => intro k g h t h1 h2; exact absurd h2 (by omega)
  | succ f ih =>
    intro k g h t h1 h2
    rw [j_fill, if_pos (by omega)]
    by_cases h3 : t = k
    · subst h3
      rw [keep f (t + 1) _ (by omega) t (by omega)]
      exact if_pos rfl
    · exact ih (k + 1) _ (by omega) t (by omega) h2
