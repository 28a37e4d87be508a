/-! The class's build: its loops, and what stands at their end. -/
def w_list (X Y : Nat → Int) (n q : Nat) (A B : Nat → Nat) (co : Nat) : Prop := (∀ k, k < q → g_P X Y n (A k) (B k) ∧ 20 * A k + B k < co) ∧ (∀ i j, i < j → j < q → 20 * A i + B i < 20 * A j + B j) ∧ ∀ a b, g_P X Y n a b → 20 * a + b < co → ∃ k, k < q ∧ A k = a ∧ B k = b
def w_CI (x y : Nat → Int32) (n : Nat) (z : (Nat → Nat) × (Nat → Nat) × (Nat → Int32) × Nat) (A B : Nat → Nat) (co : Nat) : Prop :=
  w_list (w_X x) (w_X y) n z.2.2.2 A B co ∧ z.2.1 0 = 0 ∧ (∀ j, z.1 j < 20) ∧
  (∀ k, k < z.2.2.2 → z.2.1 (k + 1) = z.2.1 k + g_cnt (g_S (w_X x) (w_X y) n (A k) (B k)) n ∧ g_ring (w_X x) (w_X y) (g_S (w_X x) (w_X y) n (A k) (B k)) (A k) (fun i => z.1 (z.2.1 k + i)) (g_cnt (g_S (w_X x) (w_X y) n (A k) (B k)) n)) ∧
  ∀ u v, u < 20 → v < 20 → (∃ k, k < z.2.2.2 ∧ g_cons (fun i => z.1 (z.2.1 k + i)) (g_cnt (g_S (w_X x) (w_X y) n (A k) (B k)) n) u v ∧ z.2.2.1 (u * 20 + v) = nI k) ∨ ((∀ k, k < z.2.2.2 → ¬ g_cons (fun i => z.1 (z.2.1 k + i)) (g_cnt (g_S (w_X x) (w_X y) n (A k) (B k)) n) u v) ∧ z.2.2.1 (u * 20 + v) = -1)
theorem g_cons_cg {r r' : Nat → Nat} {m u v : Nat} (h : ∀ i, i < m → r i = r' i) : g_cons r m u v ↔ g_cons r' m u v := by
  constructor
  · rintro ⟨i, i1, i2, i3⟩
    refine ⟨i, i1, by rw [← h i i1]; exact i2, by rw [← h _ (Nat.mod_lt _ (by omega))]; exact i3⟩
  · rintro ⟨i, i1, i2, i3⟩
    refine ⟨i, i1, by rw [h i i1]; exact i2, by rw [h _ (Nat.mod_lt _ (by omega))]; exact i3⟩
theorem g_P_n {X Y : Nat → Int} {n a b : Nat} (h : g_P X Y n a b) : a < n ∧ b < n := g_side_lt (g_P_side h)
section WB
variable {x y : Nat → Int32} {n : Nat}
theorem w_sr_mono {sr : Nat → Nat} {q : Nat} {c : Nat → Nat} (h : ∀ k, k < q → sr (k + 1) = sr k + c k) : ∀ d k, k + d ≤ q → sr k ≤ sr (k + d) := by
  intro d
  induction d with
  | zero => intro k _; exact Nat.le_refl _
  | succ d ih =>
    intro k hk
    have h1 := ih k (by omega)
    have h2 := h (k + d) (by omega)
    show sr k ≤ sr (k + d + 1)
    omega
theorem w_CI_up {z : (Nat → Nat) × (Nat → Nat) × (Nat → Int32) × Nat} {A B : Nat → Nat} {co co' : Nat} (h : w_CI x y n z A B co) (h1 : co ≤ co') (h2 : ∀ a b, g_P (w_X x) (w_X y) n a b → ¬ (co ≤ 20 * a + b ∧ 20 * a + b < co')) : w_CI x y n z A B co' := by
  obtain ⟨⟨l1, l2, l3⟩, h3, h4⟩ := h
  refine ⟨⟨fun k hk => ⟨(l1 k hk).1, by have := (l1 k hk).2; omega⟩, l2, fun a b hp hc => l3 a b hp ?_⟩, h3, h4⟩
  have := h2 a b hp
  omega
theorem w_add_CI (hb : g_box (w_X x) (w_X y) n) (hd : g_dis (w_X x) (w_X y) n) (hn : n ≤ 20) {z : (Nat → Nat) × (Nat → Nat) × (Nat → Int32) × Nat} {A B : Nat → Nat} {a b c : Nat} (h : w_CI x y n z A B (20 * a + b)) (hP : g_P (w_X x) (w_X y) n a b) (hE : g_emp (w_X x) (w_X y) n a b c) : w_CI x y n (j_add x y (j_lay x y a b c) n a z.1 z.2.1 z.2.2.1 z.2.2.2) (updN A z.2.2.2 a) (updN B z.2.2.2 b) (20 * a + b + 1) := by
  obtain ⟨rg, sr, ow, q⟩ := z
  obtain ⟨⟨l1, l2, l3⟩, h0, hlt, hrg, how⟩ := h
  dsimp only at l1 l2 l3 h0 hlt hrg how ⊢
  have hPn := g_P_n hP
  have eA : ∀ k, k < q → updN A q a k = A k := fun k hk => updN_n (by omega)
  have eB : ∀ k, k < q → updN B q b k = B k := fun k hk => updN_n (by omega)
  have hlist : ∀ k, k < q + 1 → g_P (w_X x) (w_X y) n (updN A q a k) (updN B q b k) ∧ 20 * updN A q a k + updN B q b k < 20 * a + b + 1 := fun k hk => by
    by_cases h9 : k = q
    · subst h9
      rw [updN_s, updN_s]
      exact ⟨hP, Nat.lt_succ_self _⟩
    · rw [eA k (by omega), eB k (by omega)]
      have := l1 k (by omega)
      exact ⟨this.1, by omega⟩
  have hsort : ∀ i j, i < j → j < q + 1 → 20 * updN A q a i + updN B q b i < 20 * updN A q a j + updN B q b j := fun i j hi hj => by
    rw [eA i (by omega), eB i (by omega)]
    by_cases h9 : j = q
    · subst h9
      rw [updN_s, updN_s]
      exact (l1 i hi).2
    · rw [eA j (by omega), eB j (by omega)]
      exact l2 i j hi (by omega)
  have hsz := g_sizes hb hd (updN A q a) (updN B q b) (updN sr (q + 1) (sr q + g_cnt (g_S (w_X x) (w_X y) n a b) n)) (q + 1) (fun k hk => (hlist k hk).1) (fun i j hi hj h9 => by
    have := hsort i j hi hj
    rw [h9.1, h9.2] at this
    omega) (by rw [updN_n (by omega)]; exact h0) (fun k hk => by
    by_cases h9 : k = q
    · subst h9
      rw [updN_s, updN_s, updN_s, updN_n (by omega)]
    · rw [updN_n (show ¬ k + 1 = q + 1 by omega), updN_n (show ¬ k = q + 1 by omega), eA k (by omega), eB k (by omega)]
      exact (hrg k (by omega)).1) hn
  rw [updN_s] at hsz
  have hW := w_addl hb hd (fi := sr q) hE (by omega) (g_S_l (g_P_side hP)) (fun s hs => g_P_low hP hs) rg
  have hlt2 := (j_addl_ok (x := x) (y := y) (K := j_lay x y a b c) (fi := sr q) hn n a (sr q) rg (by omega) hlt (by omega)).1
  unfold j_add
  rw [if_pos (by omega)]
  unfold j_fin
  generalize j_addl x y (j_lay x y a b c) n (sr q) rg (sr q) a = R at hW hlt2 ⊢
  obtain ⟨rg', en⟩ := R
  obtain ⟨w1, w2, w3⟩ := hW
  dsimp only at w1 w2 w3 hlt2 ⊢
  subst w1
  have hmono := w_sr_mono (fun k hk => (hrg k hk).1)
  have hcn3 := g_ring_3 hE w3
  have esr : ∀ k, k ≤ q → updN sr (q + 1) (sr q + g_cnt (g_S (w_X x) (w_X y) n a b) n) k = sr k := fun k hk => updN_n (by omega)
  have erg : ∀ k, k < q → ∀ i, i < g_cnt (g_S (w_X x) (w_X y) n (A k) (B k)) n → rg (sr k + i) = rg' (updN sr (q + 1) (sr q + g_cnt (g_S (w_X x) (w_X y) n a b) n) k + i) := fun k hk i hi => by
    rw [esr k (by omega), w2]
    have e1 := hmono (q - (k + 1)) (k + 1) (by omega)
    rw [show k + 1 + (q - (k + 1)) = q by omega] at e1
    have e2 := (hrg k hk).1
    omega
  refine ⟨⟨hlist, hsort, fun a' b' hp' hc' => ?_⟩, (esr 0 (by omega)).trans h0, hlt2, fun k hk => ?_, fun u v hu hv => ?_⟩
  · by_cases h9 : 20 * a' + b' < 20 * a + b
    · obtain ⟨k, k1, k2, k3⟩ := l3 a' b' hp' h9
      exact ⟨k, Nat.lt_succ_of_lt k1, by rw [eA k k1]; exact k2, by rw [eB k k1]; exact k3⟩
    · have hn' := g_P_n hp'
      refine ⟨q, Nat.lt_succ_self q, ?_, ?_⟩
      · rw [updN_s]; omega
      · rw [updN_s]; omega
  · by_cases h9 : k = q
    · subst h9
      dsimp only at hk ⊢
      rw [updN_s, updN_s, updN_s, updN_n (by omega)]
      exact ⟨rfl, w3⟩
    · have hk0 : k < q + 1 := hk
      have hk : k < q := by omega
      have e1 := hrg k hk
      dsimp only
      rw [esr k (by omega), esr (k + 1) (by omega), eA k hk, eB k hk]
      refine ⟨e1.1, ?_⟩
      obtain ⟨d, hd9⟩ := g_P_emp (l1 k hk).1
      have e3 := g_ring_3 hd9 e1.2
      refine g_ring_cg (fun s => Iff.rfl) (by omega) (fun i hi => ?_) e1.2
      have := erg k hk i hi
      rw [esr k (by omega)] at this
      exact this
  · have hcl := w_claim (rg := rg') (sr := updN sr (q + 1) (sr q + g_cnt (g_S (w_X x) (w_X y) n a b) n)) (d := q) (updN sr (q + 1) (sr q + g_cnt (g_S (w_X x) (w_X y) n a b) n) (q + 1)) 0 ow (by omega) (u * 20 + v)
    have eM : updN sr (q + 1) (sr q + g_cnt (g_S (w_X x) (w_X y) n a b) n) (q + 1) - updN sr (q + 1) (sr q + g_cnt (g_S (w_X x) (w_X y) n a b) n) q = g_cnt (g_S (w_X x) (w_X y) n a b) n := by rw [updN_s, esr q (by omega)]; omega
    have eq1 : ∀ l, l < g_cnt (g_S (w_X x) (w_X y) n a b) n → j_after rg' (updN sr (q + 1) (sr q + g_cnt (g_S (w_X x) (w_X y) n a b) n)) q l = rg' (sr q + (l + 1) % g_cnt (g_S (w_X x) (w_X y) n a b) n) := fun l hl => by
      unfold j_after
      rw [eM, esr q (by omega), g_nx hl]
    rw [eM, esr q (by omega)] at hcl
    have new : (∃ l, 0 ≤ l ∧ l < g_cnt (g_S (w_X x) (w_X y) n a b) n ∧ u * 20 + v = rg' (sr q + l) * 20 + j_after rg' (updN sr (q + 1) (sr q + g_cnt (g_S (w_X x) (w_X y) n a b) n)) q l) ↔ g_cons (fun i => rg' (updN sr (q + 1) (sr q + g_cnt (g_S (w_X x) (w_X y) n a b) n) q + i)) (g_cnt (g_S (w_X x) (w_X y) n (updN A q a q) (updN B q b q)) n) u v := by
      rw [updN_s, updN_s, esr q (by omega)]
      constructor
      · rintro ⟨l, _, l2, l3⟩
        rw [eq1 l l2] at l3
        have e1 := hlt2 (sr q + l)
        have e2 := hlt2 (sr q + (l + 1) % g_cnt (g_S (w_X x) (w_X y) n a b) n)
        exact ⟨l, l2, by show rg' (sr q + l) = u; omega, by show rg' (sr q + (l + 1) % g_cnt (g_S (w_X x) (w_X y) n a b) n) = v; omega⟩
      · rintro ⟨l, l1, l2, l3⟩
        have l2 : rg' (sr q + l) = u := l2
        have l3 : rg' (sr q + (l + 1) % g_cnt (g_S (w_X x) (w_X y) n a b) n) = v := l3
        refine ⟨l, Nat.zero_le _, l1, ?_⟩
        rw [eq1 l l1, l2, l3]
    have old : ∀ k, k < q → (g_cons (fun i => rg (sr k + i)) (g_cnt (g_S (w_X x) (w_X y) n (A k) (B k)) n) u v ↔ g_cons (fun i => rg' (updN sr (q + 1) (sr q + g_cnt (g_S (w_X x) (w_X y) n a b) n) k + i)) (g_cnt (g_S (w_X x) (w_X y) n (updN A q a k) (updN B q b k)) n) u v) := fun k hk => by
      rw [eA k hk, eB k hk]
      exact g_cons_cg (erg k hk)
    rcases hcl with ⟨c1, c2⟩ | ⟨c1, c2⟩
    · exact Or.inl ⟨q, Nat.lt_succ_self q, new.mp c1, c2⟩
    · rcases how u v hu hv with ⟨k, k1, k2, k3⟩ | ⟨k1, k2⟩
      · exact Or.inl ⟨k, Nat.lt_succ_of_lt k1, (old k k1).mp k2, c2.trans k3⟩
      · refine Or.inr ⟨fun k hk h9 => ?_, c2.trans k2⟩
        have hk : k < q + 1 := hk
        by_cases h8 : k = q
        · subst h8; exact c1 (new.mpr h9)
        · exact k1 k (by omega) ((old k (by omega)).mpr h9)
theorem w_step_CI (hb : g_box (w_X x) (w_X y) n) (hd : g_dis (w_X x) (w_X y) n) (hn : n ≤ 20) {z : (Int32 × Int32 × Int64 × Int64 × Int64) × (Nat → Nat) × (Nat → Nat) × (Nat → Int32) × Nat} {a b : Nat} (ha : a < n) (hb1 : b < n) (h : ∃ A B, w_CI x y n z.2 A B (20 * a + b)) : ∃ A B, w_CI x y n (j_step x y n a b z).2 A B (20 * a + (b + 1)) := by
  obtain ⟨A, B, h⟩ := h
  rcases w_step hb ha hb1 z with ⟨hP, c, hE, e⟩ | ⟨hP, e⟩
  · rw [e]
    exact ⟨_, _, w_add_CI hb hd hn h hP hE⟩
  · rw [e]
    refine ⟨A, B, w_CI_up h (by omega) (fun a' b' hp' h9 => ?_)⟩
    have hn' := g_P_n hp'
    have e1 : a' = a := by omega
    have e2 : b' = b := by omega
    subst e1
    subst e2
    exact hP hp'
theorem w_bb_CI (hb : g_box (w_X x) (w_X y) n) (hd : g_dis (w_X x) (w_X y) n) (hn : n ≤ 20) {a : Nat} (ha : a < n) : ∀ (f b : Nat) (z : (Int32 × Int32 × Int64 × Int64 × Int64) × (Nat → Nat) × (Nat → Nat) × (Nat → Int32) × Nat), n ≤ b + f → b ≤ n → (∃ A B, w_CI x y n z.2 A B (20 * a + b)) → ∃ A B, w_CI x y n (j_bb x y n a z b).2 A B (20 * a + n) := by
  intro f
  induction f with
  | zero =>
    intro b z h1 h2 h
    have : b = n := by omega
    subst this
    rw [j_bb, if_neg (by omega)]
    exact h
  | succ f ih =>
    intro b z h1 h2 h
    by_cases h3 : b < n
    · rw [j_bb, if_pos h3]
      exact ih (b + 1) _ (by omega) (by omega) (w_step_CI hb hd hn ha h3 h)
    · have : b = n := by omega
      subst this
      rw [j_bb, if_neg (by omega)]
      exact h
theorem w_ba_CI (hb : g_box (w_X x) (w_X y) n) (hd : g_dis (w_X x) (w_X y) n) (hn : n ≤ 20) : ∀ (f a : Nat) (z : (Int32 × Int32 × Int64 × Int64 × Int64) × (Nat → Nat) × (Nat → Nat) × (Nat → Int32) × Nat), n ≤ a + f → a ≤ n → (∃ A B, w_CI x y n z.2 A B (20 * a + (a + 1))) → ∃ A B, w_CI x y n (j_ba x y n z a).2 A B 1000 := by
  have last : ∀ (z : (Int32 × Int32 × Int64 × Int64 × Int64) × (Nat → Nat) × (Nat → Nat) × (Nat → Int32) × Nat), (∃ A B, w_CI x y n z.2 A B (20 * n + (n + 1))) → ∃ A B, w_CI x y n z.2 A B 1000 := fun z h => by
    obtain ⟨A, B, h⟩ := h
    refine ⟨A, B, w_CI_up h (by omega) (fun a' b' hp' h9 => ?_)⟩
    have := g_P_n hp'
    omega
  intro f
  induction f with
  | zero =>
    intro a z h1 h2 h
    have : a = n := by omega
    subst this
    rw [j_ba, if_neg (by omega)]
    exact last z h
  | succ f ih =>
    intro a z h1 h2 h
    by_cases h3 : a < n
    · rw [j_ba, if_pos h3]
      refine ih (a + 1) _ (by omega) (by omega) ?_
      obtain ⟨A, B, h4⟩ := w_bb_CI hb hd hn h3 n (a + 1) z (by omega) (by omega) h
      refine ⟨A, B, w_CI_up h4 (by omega) (fun a' b' hp' h9 => ?_)⟩
      have e1 := g_P_n hp'
      have e2 := g_P_lt hp'
      omega
    · have : a = n := by omega
      subst this
      rw [j_ba, if_neg (by omega)]
      exact last z h
/-- what build leaves -/
theorem w_built (hb : g_box (w_X x) (w_X y) n) (hd : g_dis (w_X x) (w_X y) n) (hn : n ≤ 20) {z : (Int32 × Int32 × Int64 × Int64 × Int64) × (Nat → Nat) × (Nat → Nat) × (Nat → Int32) × Nat} (h0 : z.2.2.1 0 = 0) (hlt : ∀ j, z.2.1 j < 20) : ∃ A B, w_CI x y n (j_ba x y n (z.1, z.2.1, z.2.2.1, j_fill (-1) 400 z.2.2.2.1 0, 0) 0).2 A B 1000 := by
  refine w_ba_CI hb hd hn n 0 _ (by omega) (by omega) ⟨fun _ => 0, fun _ => 0, ⟨fun k hk => absurd hk (Nat.not_lt_zero _), fun i j _ hj => absurd hj (Nat.not_lt_zero _), fun a b hp hc => ?_⟩, h0, hlt, fun k hk => absurd hk (Nat.not_lt_zero _), fun u v hu hv => Or.inr ⟨fun k hk => absurd hk (Nat.not_lt_zero _), ?_⟩⟩
  · have := g_P_lt hp
    omega
  · exact w_fill 400 0 _ (by omega) _ (by omega) (by omega)
end WB
