/-! The reference's masks and rounds. (The first rows are out of the kit's laws on bits.) -/
def bt (x : Int32) (i : Nat) : Bool := x.toBitVec.getLsbD i
theorem b_ext {x y : Int32} (h : ∀ i, i < 32 → bt x i = bt y i) : x = y := Int32.toBitVec_inj.mp (BitVec.eq_of_getLsbD_eq (fun i hi => h i hi))
theorem b_or (x y : Int32) (i : Nat) : bt (x ||| y) i = (bt x i || bt y i) := by unfold bt; rw [Int32.toBitVec_or, BitVec.getLsbD_or]
theorem b_and (x y : Int32) (i : Nat) : bt (x &&& y) i = (bt x i && bt y i) := by unfold bt; rw [Int32.toBitVec_and, BitVec.getLsbD_and]
theorem b_xor (x y : Int32) (i : Nat) : bt (x ^^^ y) i = (bt x i ^^ bt y i) := by unfold bt; rw [Int32.toBitVec_xor, BitVec.getLsbD_xor]
theorem b_m1 : ∀ i, i < 32 → bt (-1) i = true := by decide +kernel
theorem b_0 (i : Nat) : bt 0 i = false := BitVec.getLsbD_zero
theorem b_one : ∀ i, i < 32 → bt 1 i = decide (i = 0) := by decide +kernel
theorem s_l : ∀ n, n < 32 → ((nI n &&& 31).toBitVec.smod 32).toNat = n := by decide +kernel
theorem b_sshr (n : Nat) (hn : n < 32) (x : Int32) {i : Nat} (hi : i < 32) : bt (x >>> (nI n &&& 31)) i = if n + i < 32 then bt x (n + i) else bt x 31 := by
  unfold bt
  rw [Int32.toBitVec_shiftRight]
  show (x.toBitVec.sshiftRight ((nI n &&& 31).toBitVec.smod 32).toNat).getLsbD i = _
  rw [s_l n hn, BitVec.getLsbD_sshiftRight, BitVec.msb_eq_getLsbD_last]
  simp [hi]
theorem m_one : ∀ k, k < 20 → ∀ i, i < 32 → bt ((1 : Int32) <<< (nI k &&& 31)) i = decide (i = k) := by decide +kernel
theorem m_dec : ∀ k, k < 20 → ∀ i, i < 32 → bt (((1 : Int32) <<< (nI k &&& 31)) - 1) i = decide (i < k) := by decide +kernel
theorem m_bit (mk : Int32) {k : Nat} (hk : k < 20) : (mk >>> (nI k &&& 31)) &&& 1 = 0 ↔ bt mk k = false := by
  constructor
  · intro h
    have h1 := congrArg (fun v => bt v 0) h
    simp only [b_and, b_0] at h1
    rw [b_sshr k (by omega) mk (by omega), if_pos (by omega), b_one 0 (by omega)] at h1
    simpa using h1
  · intro h
    apply b_ext
    intro i hi
    rw [b_and, b_0, b_one i hi]
    by_cases h0 : i = 0
    · subst h0
      rw [b_sshr k (by omega) mk (by omega), if_pos (by omega), Nat.add_zero, h]
      rfl
    · rw [decide_eq_false h0, Bool.and_false]
theorem m_low {a b d : Nat} (ha : a < 20) (hb : b < 20) (hd : d < 20) {i : Nat} (hi : i < 32) : bt (r_low a b d) i = (decide (i < d) && !decide (i = a) && !decide (i = b)) := by
  unfold r_low
  rw [b_and, b_and, b_xor, b_xor, m_dec d hd i hi, m_one a ha i hi, m_one b hb i hi, b_m1 i hi, Bool.xor_true, Bool.xor_true]
section WM
variable {x y : Nat → Int32} {n : Nat}
theorem m_on_go (hn : n ≤ 20) {a b d : Nat} : ∀ (f k : Nat) (mk : Int32), n ≤ k + f → ((∀ s, k ≤ s → s < n → r_pow x y a b d s ≤ 0) → ∀ i, i < 32 → bt (r_on x y n a b d mk k) i = (bt mk i || decide (k ≤ i ∧ i < n ∧ r_pow x y a b d i = 0))) ∧ ((∃ s, k ≤ s ∧ s < n ∧ ¬ r_pow x y a b d s ≤ 0) → r_on x y n a b d mk k = 0) := by
  intro f
  induction f with
  | zero =>
    intro k mk h
    refine ⟨fun _ i _ => ?_, fun ⟨s, s1, s2, _⟩ => by omega⟩
    rw [r_on, if_neg (by omega), decide_eq_false (by omega), Bool.or_false]
  | succ f ih =>
    intro k mk h
    by_cases hk : k < n
    · rw [r_on, if_pos hk]
      by_cases h1 : r_pow x y a b d k ≤ 0
      · rw [if_pos h1]
        by_cases h2 : r_pow x y a b d k = 0
        · rw [if_neg (fun h9 => h9 h2)]
          have := ih (k + 1) (mk ||| ((1 : Int32) <<< (nI k &&& 31))) (by omega)
          refine ⟨fun h3 i hi => ?_, fun ⟨s, s1, s2, s3⟩ => this.2 ⟨s, ?_, s2, s3⟩⟩
          · rw [this.1 (fun s s1 s2 => h3 s (by omega) s2) i hi, b_or, m_one k (by omega) i hi, Bool.or_assoc, ← Bool.decide_or]
            congr 1
            apply decide_eq_decide.mpr
            constructor
            · rintro (h4 | h4)
              · subst h4; exact ⟨Nat.le_refl _, hk, h2⟩
              · exact ⟨by omega, h4.2⟩
            · rintro ⟨h4, h5⟩
              by_cases h6 : i = k
              · exact Or.inl h6
              · exact Or.inr ⟨by omega, h5⟩
          · by_cases h6 : s = k
            · subst h6; exact absurd h1 s3
            · omega
        · rw [if_pos h2]
          have := ih (k + 1) mk (by omega)
          refine ⟨fun h3 i hi => ?_, fun ⟨s, s1, s2, s3⟩ => this.2 ⟨s, ?_, s2, s3⟩⟩
          · rw [this.1 (fun s s1 s2 => h3 s (by omega) s2) i hi]
            congr 1
            apply decide_eq_decide.mpr
            constructor
            · rintro ⟨h4, h5⟩
              exact ⟨by omega, h5⟩
            · rintro ⟨h4, h5⟩
              by_cases h6 : i = k
              · subst h6; exact absurd h5.2 h2
              · exact ⟨by omega, h5⟩
          · by_cases h6 : s = k
            · subst h6; exact absurd h1 s3
            · omega
      · rw [if_neg h1]
        exact ⟨fun h3 => absurd (h3 k (Nat.le_refl _) hk) h1, fun _ => rfl⟩
    · rw [r_on, if_neg hk]
      refine ⟨fun _ i _ => ?_, fun ⟨s, s1, s2, _⟩ => by omega⟩
      rw [decide_eq_false (by omega), Bool.or_false]
/-- the three in the hand in which they go left -/
def m_or (X Y : Nat → Int) (a b d p q : Nat) : Prop := (0 < g_t X Y a b d ∧ p = b ∧ q = d) ∨ (g_t X Y a b d < 0 ∧ p = d ∧ q = b)
theorem m_or_ex {X Y : Nat → Int} {a b d : Nat} (h : ¬ g_t X Y a b d = 0) : ∃ p q, m_or X Y a b d p q := by
  by_cases h0 : 0 < g_t X Y a b d
  · exact ⟨b, d, Or.inl ⟨h0, rfl, rfl⟩⟩
  · exact ⟨d, b, Or.inr ⟨by omega, rfl, rfl⟩⟩
theorem m_pow (hb : g_box (w_X x) (w_X y) n) {a b d p q : Nat} (ha : a < n) (hb1 : b < n) (hd : d < n) (ho : m_or (w_X x) (w_X y) a b d p q) {s : Nat} (hs : s < n) : (r_pow x y a b d s ≤ 0 ↔ 0 ≤ g_i (w_X x) (w_X y) a p q s) ∧ (r_pow x y a b d s = 0 ↔ g_i (w_X x) (w_X y) a p q s = 0) := by
  have hW := w_rpow hb ha hb1 hd hs
  rw [w_l_le hW, w_l_z hW]
  rcases ho with ⟨h0, rfl, rfl⟩ | ⟨h0, rfl, rfl⟩
  · rw [if_neg (by omega)]
    constructor <;> constructor <;> intro h <;> omega
  · rw [if_pos (by omega), g_i_swap]
    constructor <;> constructor <;> intro h <;> omega
/-- what the mask of three sites tells -/
theorem m_on (hb : g_box (w_X x) (w_X y) n) (hn : n ≤ 20) {a b d p q : Nat} (ha : a < n) (hb1 : b < n) (hd : d < n) (ho : m_or (w_X x) (w_X y) a b d p q) :
    (g_emp (w_X x) (w_X y) n a p q ∧ ∀ i, i < 32 → (bt (r_on x y n a b d 0 0) i = true ↔ g_S (w_X x) (w_X y) n a p i)) ∨ (¬ g_emp (w_X x) (w_X y) n a p q ∧ r_on x y n a b d 0 0 = 0) := by
  have hg := m_on_go (x := x) (y := y) hn (a := a) (b := b) (d := d) n 0 0 (by omega)
  have hpq : p < n ∧ q < n ∧ 0 < g_t (w_X x) (w_X y) a p q := by
    rcases ho with ⟨h0, rfl, rfl⟩ | ⟨h0, rfl, rfl⟩
    · exact ⟨hb1, hd, h0⟩
    · exact ⟨hd, hb1, by rw [g_t_swap]; omega⟩
  by_cases h1 : ∀ s, 0 ≤ s → s < n → r_pow x y a b d s ≤ 0
  · left
    have hE : g_emp (w_X x) (w_X y) n a p q := ⟨ha, hpq.1, hpq.2.1, hpq.2.2, fun s hs => (m_pow hb ha hb1 hd ho hs).1.mp (h1 s (by omega) hs)⟩
    refine ⟨hE, fun i hi => ?_⟩
    rw [hg.1 h1 i hi, b_0, Bool.false_or, decide_eq_true_iff, g_S_iff hE]
    constructor
    · rintro ⟨_, h2, h3⟩
      exact ⟨h2, (m_pow hb ha hb1 hd ho h2).2.mp h3⟩
    · rintro ⟨h2, h3⟩
      exact ⟨Nat.zero_le _, h2, (m_pow hb ha hb1 hd ho h2).2.mpr h3⟩
  · right
    refine ⟨fun hE => h1 (fun s _ hs => (m_pow hb ha hb1 hd ho hs).1.mpr (hE.2.2.2.2 s hs)), hg.2 ?_⟩
    by_cases h2 : ∃ s, 0 ≤ s ∧ s < n ∧ ¬ r_pow x y a b d s ≤ 0
    · exact h2
    · refine absurd (fun s h3 h4 => ?_) h1
      by_cases h5 : r_pow x y a b d s ≤ 0
      · exact h5
      · exact absurd ⟨s, h3, h4, h5⟩ h2
theorem m_gd (hb : g_box (w_X x) (w_X y) n) (hn : n ≤ 20) {mk : Int32} {a k : Nat} (ha : a < n) (hk : k < n) : ∀ (f i : Nat) (t : Bool), n ≤ i + f → (r_gd x y n mk a k t i = true ↔ t = true ∧ ∀ s, i ≤ s → s < n → bt mk s = true → 0 ≤ g_t (w_X x) (w_X y) a k s) := by
  intro f
  induction f with
  | zero =>
    intro i t h
    rw [r_gd, if_neg (by omega)]
    exact ⟨fun h1 => ⟨h1, fun s s1 s2 => absurd s2 (by omega)⟩, fun h1 => h1.1⟩
  | succ f ih =>
    intro i t h
    by_cases hi : i < n
    · rw [r_gd, if_pos hi]
      have hT := w_rturn hb ha hk hi
      by_cases ht : t = false
      · rw [if_pos ht, ih (i + 1) false (by omega), ht]
        exact ⟨fun h9 => Bool.noConfusion h9.1, fun h9 => Bool.noConfusion h9.1⟩
      · rw [if_neg ht]
        have ht : t = true := by cases t with | false => exact absurd rfl ht | true => rfl
        subst ht
        by_cases h1 : (mk >>> (nI i &&& 31)) &&& 1 = 0
        · rw [if_pos h1, ih (i + 1) true (by omega)]
          rw [m_bit mk (by omega)] at h1
          refine ⟨fun h2 => ⟨rfl, fun s s1 s2 s3 => ?_⟩, fun h2 => ⟨rfl, fun s s1 s2 s3 => h2.2 s (by omega) s2 s3⟩⟩
          by_cases h3 : s = i
          · subst h3; rw [h1] at s3; exact Bool.noConfusion s3
          · exact h2.2 s (by omega) s2 s3
        · rw [if_neg h1]
          have h1 : bt mk i = true := by
            rw [m_bit mk (by omega)] at h1
            cases h9 : bt mk i with
            | false => exact absurd h9 h1
            | true => rfl
          by_cases h2 : r_turn x y a k (x i) (y i) < 0
          · rw [if_pos h2, ih (i + 1) false (by omega)]
            rw [w_l_lt hT] at h2
            refine ⟨fun h9 => Bool.noConfusion h9.1, fun h9 => ?_⟩
            have := h9.2 i (Nat.le_refl _) hi h1
            omega
          · rw [if_neg h2, ih (i + 1) true (by omega)]
            rw [w_l_lt hT] at h2
            refine ⟨fun h3 => ⟨rfl, fun s s1 s2 s3 => ?_⟩, fun h3 => ⟨rfl, fun s s1 s2 s3 => h3.2 s (by omega) s2 s3⟩⟩
            by_cases h4 : s = i
            · subst h4; omega
            · exact h3.2 s (by omega) s2 s3
    · rw [r_gd, if_neg hi]
      exact ⟨fun h1 => ⟨h1, fun s s1 s2 => absurd s2 (by omega)⟩, fun h1 => h1.1⟩
theorem m_behind (hb : g_box (w_X x) (w_X y) n) (hn : n ≤ 20) {mk : Int32} {a : Nat} (ha : a < n) : ∀ (f k : Nat), n ≤ k + f → (∃ v, v < n ∧ bt mk v = true ∧ ¬ v = a ∧ (∀ s, s < n → bt mk s = true → 0 ≤ g_t (w_X x) (w_X y) a v s) ∧ r_behind x y n mk a k = v) ∨ (∀ v, k ≤ v → v < n → bt mk v = true → ¬ v = a → ¬ ∀ s, s < n → bt mk s = true → 0 ≤ g_t (w_X x) (w_X y) a v s) := by
  intro f
  induction f with
  | zero => intro k h; exact Or.inr (fun v v1 v2 => absurd v2 (by omega))
  | succ f ih =>
    intro k h
    by_cases hk : k < n
    · have skip : (bt mk k = true → ¬ k = a → ¬ ∀ s, s < n → bt mk s = true → 0 ≤ g_t (w_X x) (w_X y) a k s) → r_behind x y n mk a k = r_behind x y n mk a (k + 1) → (∃ v, v < n ∧ bt mk v = true ∧ ¬ v = a ∧ (∀ s, s < n → bt mk s = true → 0 ≤ g_t (w_X x) (w_X y) a v s) ∧ r_behind x y n mk a k = v) ∨ (∀ v, k ≤ v → v < n → bt mk v = true → ¬ v = a → ¬ ∀ s, s < n → bt mk s = true → 0 ≤ g_t (w_X x) (w_X y) a v s) := fun h1 h2 => by
        rw [h2]
        rcases ih (k + 1) (by omega) with h3 | h3
        · exact Or.inl h3
        · refine Or.inr (fun v v1 v2 v3 v4 => ?_)
          by_cases h4 : v = k
          · subst h4; exact h1 v3 v4
          · exact h3 v (by omega) v2 v3 v4
      by_cases h1 : (mk >>> (nI k &&& 31)) &&& 1 = 0
      · refine skip (fun h2 => ?_) (by rw [r_behind, if_pos hk, if_pos h1])
        rw [m_bit mk (by omega)] at h1
        rw [h1] at h2
        exact Bool.noConfusion h2
      · by_cases h2 : k = a
        · exact skip (fun _ h9 => absurd h2 h9) (by rw [r_behind, if_pos hk, if_neg h1, if_pos h2])
        · have hg := m_gd hb hn (mk := mk) ha hk n 0 true (by omega)
          by_cases h3 : r_gd x y n mk a k true 0 = false
          · refine skip (fun _ _ h9 => ?_) (by rw [r_behind, if_pos hk, if_neg h1, if_neg h2, if_pos h3])
            have := hg.mpr ⟨rfl, fun s _ s2 s3 => h9 s s2 s3⟩
            rw [h3] at this
            exact Bool.noConfusion this
          · have h1' : bt mk k = true := by
              rw [m_bit mk (by omega)] at h1
              cases h9 : bt mk k with
              | false => exact absurd h9 h1
              | true => rfl
            have h3' : r_gd x y n mk a k true 0 = true := by
              cases h9 : r_gd x y n mk a k true 0 with
              | false => exact absurd h9 h3
              | true => rfl
            exact Or.inl ⟨k, hk, h1', h2, fun s s1 s2 => (hg.mp h3').2 s (by omega) s1 s2, by rw [r_behind, if_pos hk, if_neg h1, if_neg h2, if_neg h3]⟩
    · exact Or.inr (fun v v1 v2 => absurd v2 (by omega))
/-- the walk behind goes round the ring -/
theorem m_walk (hb : g_box (w_X x) (w_X y) n) (hn : n ≤ 20) {mk : Int32} {a p q z m : Nat} {r : Nat → Nat} (hE : g_emp (w_X x) (w_X y) n a p q) (hr : g_ring (w_X x) (w_X y) (g_S (w_X x) (w_X y) n a p) z r m) (hm : ∀ i, i < 32 → (bt mk i = true ↔ g_S (w_X x) (w_X y) n a p i)) {i : Nat} (hi : i < m) : r_behind x y n mk (r i) 0 = r ((i + 1) % m) := by
  have h3 := g_ring_3 hE hr
  have hnx : (i + 1) % m < m := Nat.mod_lt _ (by omega)
  have si := hr.2.1 i hi
  have sn := hr.2.1 _ hnx
  have hlt : ∀ s, g_S (w_X x) (w_X y) n a p s → s < 32 := fun s hs => by have := hs.1; omega
  rcases m_behind hb hn (mk := mk) si.1 n 0 (by omega) with ⟨v, v1, v2, v3, v4, v5⟩ | h1
  · obtain ⟨j, j1, j2, j3⟩ := g_ring_cons hE hr si ((hm v (by omega)).mp v2) (fun h9 => v3 h9.symm) (fun s hs => v4 s hs.1 ((hm s (hlt s hs)).mpr hs))
    have := g_ring_inj2 hE hr j1 hi j2
    subst this
    rw [v5, j3]
  · exfalso
    refine h1 (r ((i + 1) % m)) (Nat.zero_le _) sn.1 ((hm _ (hlt _ sn)).mpr sn) (fun h9 => ?_) (fun s s1 s2 => g_ring_ge hE hr hi ((hm s (by omega)).mp s2))
    have := g_ring_inj2 hE hr hnx hi h9
    rw [g_nx hi] at this
    split at this <;> omega
theorem m_it (hb : g_box (w_X x) (w_X y) n) (hn : n ≤ 20) {mk : Int32} {a p q z m : Nat} {r : Nat → Nat} (hE : g_emp (w_X x) (w_X y) n a p q) (hr : g_ring (w_X x) (w_X y) (g_S (w_X x) (w_X y) n a p) z r m) (hm : ∀ i, i < 32 → (bt mk i = true ↔ g_S (w_X x) (w_X y) n a p i)) : ∀ u, r_it x y n mk z u = r (u % m) := by
  have h3 := g_ring_3 hE hr
  intro u
  induction u with
  | zero => rw [Nat.zero_mod]; exact hr.1.symm
  | succ u ih =>
    show r_behind x y n mk (r_it x y n mk z u) 0 = _
    rw [ih, m_walk hb hn hE hr hm (Nat.mod_lt u (by omega)), Nat.mod_add_mod]
theorem m_len (hb : g_box (w_X x) (w_X y) n) (hn : n ≤ 20) {mk : Int32} {a p q z m : Nat} {r : Nat → Nat} (hE : g_emp (w_X x) (w_X y) n a p q) (hr : g_ring (w_X x) (w_X y) (g_S (w_X x) (w_X y) n a p) z r m) (hm : ∀ i, i < 32 → (bt mk i = true ↔ g_S (w_X x) (w_X y) n a p i)) (hm20 : m ≤ 20) : ∀ f u, m ≤ u + f → 0 < u → u ≤ m → r_len x y n mk z u = m := by
  have h3 := g_ring_3 hE hr
  have hit := m_it hb hn hE hr hm
  intro f
  induction f with
  | zero =>
    intro u h1 h2 h4
    have : u = m := by omega
    subst this
    rw [r_len]
    split
    · rw [if_pos (by rw [hit, Nat.mod_self]; exact hr.1)]
    · omega
  | succ f ih =>
    intro u h1 h2 h4
    by_cases h5 : u = m
    · subst h5
      rw [r_len]
      split
      · rw [if_pos (by rw [hit, Nat.mod_self]; exact hr.1)]
      · omega
    · rw [r_len, if_pos (by omega), if_neg (fun h9 => ?_)]
      · exact ih (u + 1) (by omega) (by omega) (by omega)
      · rw [hit, Nat.mod_eq_of_lt (by omega)] at h9
        have := g_ring_inj2 hE hr (i := u) (j := 0) (by omega) (by omega) (h9.trans hr.1.symm)
        omega
end WM
