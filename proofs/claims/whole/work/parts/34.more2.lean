/-! A natural against nought; the reference's rounds: pure words. -/
section QN
variable {p : Program} {l : Launch} {e : Env} {R : Room} {s : State} {m : MethodId} {args : Array Value} {below : List Frame} {meth : Method} {c : Code} {H : Heap} {locs : List Loc} {cells slots : Nat} {Q : State → Prop}
variable {cc : ByteArray} {pc : Nat} {ls : Array Slot} {rest : List Value}
theorem q_ifn_eq {x : Nat} {off : Int} {tgt : Nat} (hx9 : x < 2 ^ 31) (hexec : p.tables.exec = Jvm.exec) (hb : c.code = cc) (hdg : decode cc pc = .ok (.ifCond .eq off, 3)) (ht : (pc : Int) + off = (tgt : Int)) (kt : x = 0 → W p l e R s m args below meth c H locs cells slots Q (F0 m tgt ls rest)) (kf : ¬ x = 0 → W p l e R s m args below meth c H locs cells slots Q (F0 m (pc + 3) ls rest)) : W p l e R s m args below meth c H locs cells slots Q (F0 m pc ls (.int (nI x) :: rest)) :=
  lv_if_eq hexec hb hdg ht (fun h => kt ((nI_eq hx9 (by decide)).mp (show nI x = nI 0 from h))) (fun h => kf (fun h2 => h (by rw [h2]; rfl)))
theorem q_ifn_ne {x : Nat} {off : Int} {tgt : Nat} (hx9 : x < 2 ^ 31) (hexec : p.tables.exec = Jvm.exec) (hb : c.code = cc) (hdg : decode cc pc = .ok (.ifCond .ne off, 3)) (ht : (pc : Int) + off = (tgt : Int)) (kt : ¬ x = 0 → W p l e R s m args below meth c H locs cells slots Q (F0 m tgt ls rest)) (kf : x = 0 → W p l e R s m args below meth c H locs cells slots Q (F0 m (pc + 3) ls rest)) : W p l e R s m args below meth c H locs cells slots Q (F0 m pc ls (.int (nI x) :: rest)) :=
  lv_if_ne hexec hb hdg ht (fun h => kt (fun h2 => h (by rw [h2]; rfl))) (fun h => kf ((nI_eq hx9 (by decide)).mp (show nI x = nI 0 from h)))
end QN
def r_it (x y : Nat → Int32) (n : Nat) (mk : Int32) (fi : Nat) : Nat → Nat
  | 0 => fi
  | u + 1 => r_behind x y n mk (r_it x y n mk fi u) 0
def r_row (x y : Nat → Int32) (n : Nat) (mk : Int32) (fi : Nat) (rd : Nat → Nat) (q u : Nat) : Nat → Nat := fun p => if 20 * q ≤ p ∧ p < 20 * q + u then r_it x y n mk fi (p - 20 * q) else rd p
theorem r_row_0 (x y : Nat → Int32) (n : Nat) (mk : Int32) (fi : Nat) (rd : Nat → Nat) (q : Nat) : r_row x y n mk fi rd q 0 = rd := by
  funext p
  exact if_neg (by omega)
theorem r_row_s (x y : Nat → Int32) (n : Nat) (mk : Int32) (fi : Nat) (rd : Nat → Nat) (q u : Nat) : updN (r_row x y n mk fi rd q u) (20 * q + u) (r_it x y n mk fi u) = r_row x y n mk fi rd q (u + 1) := by
  funext p
  unfold updN r_row
  by_cases h : p = 20 * q + u
  · subst h
    rw [if_pos rfl, if_pos (by omega), Nat.add_sub_cancel_left]
  · rw [if_neg h]
    by_cases h2 : 20 * q ≤ p ∧ p < 20 * q + u
    · rw [if_pos h2, if_pos (by omega)]
    · rw [if_neg h2, if_neg (by omega)]
theorem r_behind_lt {x y : Nat → Int32} {n : Nat} {mk : Int32} {a : Nat} (ha : a < n) : ∀ (f k : Nat), n ≤ k + f → r_behind x y n mk a k < n := by
  intro f
  induction f with
  | zero => intro k h; rw [r_behind, if_neg (by omega)]; exact ha
  | succ f ih =>
    intro k h
    rw [r_behind]
    split
    · split
      · exact ih (k + 1) (by omega)
      · split
        · exact ih (k + 1) (by omega)
        · split
          · exact ih (k + 1) (by omega)
          · assumption
    · exact ha
theorem r_it_lt {x y : Nat → Int32} {n : Nat} {mk : Int32} {fi : Nat} (h : fi < n) : ∀ u, r_it x y n mk fi u < n := by
  intro u
  induction u with
  | zero => exact h
  | succ u ih => exact r_behind_lt ih n 0 (by omega)
theorem r_row_lt {x y : Nat → Int32} {n : Nat} {mk : Int32} {fi : Nat} {rd : Nat → Nat} {q u : Nat} (hn : n ≤ 20) (h : fi < n) (hr : ∀ j, rd j < 20) : ∀ j, r_row x y n mk fi rd q u j < 20 := by
  intro j
  unfold r_row
  split
  · exact Nat.lt_of_lt_of_le (r_it_lt h _) hn
  · exact hr j
def r_len (x y : Nat → Int32) (n : Nat) (mk : Int32) (fi u : Nat) : Nat := if u < 20 then (if r_it x y n mk fi u = fi then u else r_len x y n mk fi (u + 1)) else 20
termination_by 20 - u
theorem r_len_le (x y : Nat → Int32) (n : Nat) (mk : Int32) (fi : Nat) : ∀ (f u : Nat), u ≤ 20 → 20 ≤ u + f → u ≤ r_len x y n mk fi u ∧ r_len x y n mk fi u ≤ 20 := by
  intro f
  induction f with
  | zero => intro u h1 h2; rw [r_len, if_neg (by omega)]; omega
  | succ f ih =>
    intro u h1 h2
    rw [r_len]
    split
    · split
      · omega
      · have := ih (u + 1) (by omega) (by omega)
        omega
    · omega
theorem r_len_min (x y : Nat → Int32) (n : Nat) (mk : Int32) (fi : Nat) : ∀ (f u : Nat), 20 ≤ u + f → ∀ j, u ≤ j → j < r_len x y n mk fi u → ¬ r_it x y n mk fi j = fi := by
  intro f
  induction f with
  | zero => intro u h2 j h3 h4; rw [r_len, if_neg (by omega)] at h4; omega
  | succ f ih =>
    intro u h2 j h3 h4
    rw [r_len] at h4
    split at h4
    · split at h4
      · omega
      · rename_i h5
        by_cases h6 : j = u
        · rw [h6]; exact h5
        · exact ih (u + 1) (by omega) j (by omega) h4
    · omega
/-- the hull's rounds -/
def r_beg (od sz rd : Nat → Nat) (q n b : Nat) : Nat := if b < n then (if 0 ≤ r_oh od sz rd q b 0 then b else r_beg od sz rd q n (b + 1)) else b
termination_by n - b
def r_hit (od sz rd : Nat → Nat) (q b : Nat) : Nat → Nat
  | 0 => b
  | u + 1 => (r_oh od sz rd q (r_hit od sz rd q b u) 0).toNatClampNeg
def r_hrow (od sz rd : Nat → Nat) (q b : Nat) (hu : Nat → Nat) (u : Nat) : Nat → Nat := fun p => if p < u then r_hit od sz rd q b p else hu p
theorem r_hrow_0 (od sz rd : Nat → Nat) (q b : Nat) (hu : Nat → Nat) : r_hrow od sz rd q b hu 0 = hu := by
  funext p
  exact if_neg (by omega)
theorem r_hrow_s (od sz rd : Nat → Nat) (q b : Nat) (hu : Nat → Nat) (u : Nat) : updN (r_hrow od sz rd q b hu u) u (r_hit od sz rd q b u) = r_hrow od sz rd q b hu (u + 1) := by
  funext p
  unfold updN r_hrow
  by_cases h : p = u
  · subst h
    rw [if_pos rfl, if_pos (by omega)]
  · rw [if_neg h]
    by_cases h2 : p < u
    · rw [if_pos h2, if_pos (by omega)]
    · rw [if_neg h2, if_neg (by omega)]
def r_hok (od sz rd : Nat → Nat) (q n N : Nat) : Prop := r_beg od sz rd q n 0 < n ∧ 0 < N ∧ N ≤ 20 ∧ (∀ u, u < N → r_hit od sz rd q (r_beg od sz rd q n 0) u < 20 ∧ r_oh od sz rd q (r_hit od sz rd q (r_beg od sz rd q n 0) u) 0 = nI (r_hit od sz rd q (r_beg od sz rd q n 0) (u + 1))) ∧ r_hit od sz rd q (r_beg od sz rd q n 0) N = r_beg od sz rd q n 0 ∧ ∀ u, 0 < u → u < N → ¬ r_hit od sz rd q (r_beg od sz rd q n 0) u = r_beg od sz rd q n 0
def r_surR (od sz rd : Nat → Nat) (q n : Nat) (hu : Nat → Nat) (N : Nat) : (Nat → Nat) × Nat := if q = 0 then (hu, 0) else (r_hrow od sz rd q (r_beg od sz rd q n 0) hu N, N)
/-- make -/
def r_low (a b d : Nat) : Int32 := ((((1 : Int32) <<< (nI d &&& 31)) - 1) &&& (((1 : Int32) <<< (nI a &&& 31)) ^^^ (-1))) &&& (((1 : Int32) <<< (nI b &&& 31)) ^^^ (-1))
def r_mS (x y : Nat → Int32) (n a b d : Nat) (z : (Nat → Nat) × (Nat → Nat) × Nat) : (Nat → Nat) × (Nat → Nat) × Nat :=
  if r_turn x y a b (x d) (y d) = 0 then z else if r_on x y n a b d 0 0 = 0 then z else if ¬ r_on x y n a b d 0 0 &&& r_low a b d = 0 then z else (updN z.1 z.2.2 (r_len x y n (r_on x y n a b d 0 0) a 1), r_row x y n (r_on x y n a b d 0 0) a z.2.1 z.2.2 (r_len x y n (r_on x y n a b d 0 0) a 1), z.2.2 + 1)
def r_mc (x y : Nat → Int32) (n a b : Nat) (z : (Nat → Nat) × (Nat → Nat) × Nat) (d : Nat) : (Nat → Nat) × (Nat → Nat) × Nat := if d < n then r_mc x y n a b (r_mS x y n a b d z) (d + 1) else z
termination_by n - d
def r_mb (x y : Nat → Int32) (n a : Nat) (z : (Nat → Nat) × (Nat → Nat) × Nat) (b : Nat) : (Nat → Nat) × (Nat → Nat) × Nat := if b < n then r_mb x y n a (r_mc x y n a b z (b + 1)) (b + 1) else z
termination_by n - b
def r_ma (x y : Nat → Int32) (n : Nat) (z : (Nat → Nat) × (Nat → Nat) × Nat) (a : Nat) : (Nat → Nat) × (Nat → Nat) × Nat := if a < n then r_ma x y n (r_mb x y n a z (a + 1)) (a + 1) else z
termination_by n - a
theorem r_mS_mono (x y : Nat → Int32) (n a b d : Nat) (z : (Nat → Nat) × (Nat → Nat) × Nat) : z.2.2 ≤ (r_mS x y n a b d z).2.2 := by
  unfold r_mS
  split
  · exact Nat.le_refl _
  · split
    · exact Nat.le_refl _
    · split
      · exact Nat.le_refl _
      · exact Nat.le_succ _
theorem r_mc_mono (x y : Nat → Int32) (n a b : Nat) : ∀ (f d : Nat) (z : (Nat → Nat) × (Nat → Nat) × Nat), n ≤ d + f → z.2.2 ≤ (r_mc x y n a b z d).2.2 := by
  intro f
  induction f with
  | zero => intro d z h; rw [r_mc, if_neg (by omega)]; exact Nat.le_refl _
  | succ f ih =>
    intro d z h
    rw [r_mc]
    split
    · exact Nat.le_trans (r_mS_mono x y n a b d z) (ih (d + 1) _ (by omega))
    · exact Nat.le_refl _
theorem r_mb_mono (x y : Nat → Int32) (n a : Nat) : ∀ (f b : Nat) (z : (Nat → Nat) × (Nat → Nat) × Nat), n ≤ b + f → z.2.2 ≤ (r_mb x y n a z b).2.2 := by
  intro f
  induction f with
  | zero => intro d z h; rw [r_mb, if_neg (by omega)]; exact Nat.le_refl _
  | succ f ih =>
    intro d z h
    rw [r_mb]
    split
    · exact Nat.le_trans (r_mc_mono x y n a d n (d + 1) z (by omega)) (ih (d + 1) _ (by omega))
    · exact Nat.le_refl _
theorem r_ma_mono (x y : Nat → Int32) (n : Nat) : ∀ (f a : Nat) (z : (Nat → Nat) × (Nat → Nat) × Nat), n ≤ a + f → z.2.2 ≤ (r_ma x y n z a).2.2 := by
  intro f
  induction f with
  | zero => intro d z h; rw [r_ma, if_neg (by omega)]; exact Nat.le_refl _
  | succ f ih =>
    intro d z h
    rw [r_ma]
    split
    · exact Nat.le_trans (r_mb_mono x y n d n (d + 1) z (by omega)) (ih (d + 1) _ (by omega))
    · exact Nat.le_refl _
def r_less (sz rd : Nat → Nat) (q k t i : Nat) : Nat := if i < q then (if r_bef sz rd i k 0 = false then r_less sz rd q k t (i + 1) else r_less sz rd q k (t + 1) (i + 1)) else t
termination_by q - i
def r_ord (sz rd : Nat → Nat) (q : Nat) (od : Nat → Nat) (k : Nat) : Nat → Nat := if k < q then r_ord sz rd q (updN od (r_less sz rd q k 0 0) k) (k + 1) else od
termination_by q - k
def r_zok (z : (Nat → Nat) × (Nat → Nat) × Nat) : Prop := (∀ j, z.1 j ≤ 20) ∧ ∀ j, z.2.1 j < 20
theorem updN_le {g : Nat → Nat} {k v N : Nat} (h : ∀ j, g j ≤ N) (hv : v ≤ N) : ∀ j, updN g k v j ≤ N := fun j => by
  unfold updN
  split
  · exact hv
  · exact h j
/-- what the arrays must bear for make to go through -/
def r_good (x y : Nat → Int32) (n : Nat) (sz rd od : Nat → Nat) (N : Nat) : Prop :=
  (∀ a b d, a < b → b < d → d < n → ¬ r_turn x y a b (x d) (y d) = 0 → ¬ r_on x y n a b d 0 0 = 0 → r_on x y n a b d 0 0 &&& r_low a b d = 0 → r_it x y n (r_on x y n a b d 0 0) a (r_len x y n (r_on x y n a b d 0 0) a 1) = a) ∧
  (r_ma x y n (sz, rd, 0) 0).2.2 ≤ 59 ∧
  (¬ (r_ma x y n (sz, rd, 0) 0).2.2 = 0 → r_hok (r_ord (r_ma x y n (sz, rd, 0) 0).1 (r_ma x y n (sz, rd, 0) 0).2.1 (r_ma x y n (sz, rd, 0) 0).2.2 od 0) (r_ma x y n (sz, rd, 0) 0).1 (r_ma x y n (sz, rd, 0) 0).2.1 (r_ma x y n (sz, rd, 0) 0).2.2 n N)
def r_fin (n : Nat) (od hu : Nat → Nat) (N : Nat) (z : (Nat → Nat) × (Nat → Nat) × Nat) : Int32 × ((Nat → Nat) × (Nat → Nat) × Nat) × (Nat → Nat) × (Nat → Nat) × Nat := (1, z, r_ord z.1 z.2.1 z.2.2 od 0, r_surR (r_ord z.1 z.2.1 z.2.2 od 0) z.1 z.2.1 z.2.2 n hu N)
def r_mkR (x y : Nat → Int32) (n : Nat) (md : Int32) (sz rd : Nat → Nat) (q : Nat) (od hu : Nat → Nat) (hz N : Nat) : Int32 × ((Nat → Nat) × (Nat → Nat) × Nat) × (Nat → Nat) × (Nat → Nat) × Nat :=
  if md = 0 then r_fin n od hu N (r_ma x y n (sz, rd, 0) 0) else (md, (sz, rd, q), od, hu, hz)
