/-! Mosaic: addCell, walkRim, build, circleOf -/
theorem updN_s {g : Nat → Nat} {k v : Nat} : updN g k v k = v := if_pos rfl
theorem updN_n {g : Nat → Nat} {k v j : Nat} (h : ¬ j = k) : updN g k v j = g j := if_neg h
def j_addl (x y : Nat → Int32) (K : Int32 × Int32 × Int64 × Int64 × Int64) (n fi : Nat) (rg : Nat → Nat) (en k : Nat) : (Nat → Nat) × Nat :=
  if k < n then (if 105 ≤ en then (rg, en) else if ¬ j_powC K (x k) (y k) = 0 then j_addl x y K n fi rg en (k + 1) else j_addl x y K n fi (j_ins x y fi k rg en) (en + 1) (k + 1)) else (rg, en)
termination_by n - k
def j_fin (sr : Nat → Nat) (ow : Nat → Int32) (q : Nat) (z : (Nat → Nat) × Nat) : (Nat → Nat) × (Nat → Nat) × (Nat → Int32) × Nat := (z.1, updN sr (q + 1) z.2, j_claim z.1 (updN sr (q + 1) z.2) q ow 0, q + 1)
def j_add (x y : Nat → Int32) (K : Int32 × Int32 × Int64 × Int64 × Int64) (n a : Nat) (rg sr : Nat → Nat) (ow : Nat → Int32) (q : Nat) : (Nat → Nat) × (Nat → Nat) × (Nat → Int32) × Nat :=
  if q < 35 then j_fin sr ow q (j_addl x y K n (sr q) rg (sr q) a) else (rg, sr, ow, q)
def j_rim (ow : Nat → Int32) (n : Nat) (fs : Int32) (rm : Nat → Int32) (rc : Nat) (w : Int32) : (Nat → Int32) × Nat :=
  if w = -1 then (rm, rc) else if 20 ≤ rc then (rm, rc) else j_rim ow n fs (upd rm rc w) (rc + 1) (if j_next ow n w.toNatClampNeg 0 = fs then -1 else j_next ow n w.toNatClampNeg 0)
termination_by 20 - rc
theorem j_ins_lt {x y : Nat → Int32} {fi v : Nat} (hv : v < 20) : ∀ (t : Nat) (rg : Nat → Nat), (∀ j, rg j < 20) → ∀ j, j_ins x y fi v rg t j < 20 := by
  intro t
  induction t with
  | zero => intro rg h; rw [j_ins, if_pos (by omega)]; exact updN_lt h hv
  | succ t ih =>
    intro rg h
    rw [j_ins]
    split
    · exact updN_lt h hv
    · split
      · exact updN_lt h hv
      · exact ih _ (updN_lt h (h _))
theorem j_addl_ok {x y : Nat → Int32} {K : Int32 × Int32 × Int64 × Int64 × Int64} {n fi : Nat} (hn : n ≤ 20) : ∀ (f k en : Nat) (rg : Nat → Nat), n ≤ k + f → (∀ j, rg j < 20) → en ≤ 105 → (∀ j, (j_addl x y K n fi rg en k).1 j < 20) ∧ en ≤ (j_addl x y K n fi rg en k).2 ∧ (j_addl x y K n fi rg en k).2 ≤ 105 := by
  intro f
  induction f with
  | zero => intro k en rg h1 h2 h3; rw [j_addl, if_neg (by omega)]; exact ⟨h2, Nat.le_refl _, h3⟩
  | succ f ih =>
    intro k en rg h1 h2 h3
    rw [j_addl]
    split
    · split
      · exact ⟨h2, Nat.le_refl _, h3⟩
      · split
        · exact ih (k + 1) en rg (by omega) h2 h3
        · have := ih (k + 1) (en + 1) (j_ins x y fi k rg en) (by omega) (j_ins_lt (by omega) en rg h2) (by omega)
          exact ⟨this.1, by omega, this.2.2⟩
    · exact ⟨h2, Nat.le_refl _, h3⟩
/-- what keeps the cells' arrays in their bounds -/
def j_ok (z : (Nat → Nat) × (Nat → Nat) × (Nat → Int32) × Nat) : Prop := (∀ j, z.1 j < 20) ∧ z.2.2.2 ≤ 35 ∧ z.2.1 z.2.2.2 ≤ 105
theorem j_add_ok {x y : Nat → Int32} {K : Int32 × Int32 × Int64 × Int64 × Int64} {n a : Nat} (hn : n ≤ 20) {z : (Nat → Nat) × (Nat → Nat) × (Nat → Int32) × Nat} (h : j_ok z) : j_ok (j_add x y K n a z.1 z.2.1 z.2.2.1 z.2.2.2) := by
  obtain ⟨h1, h2, h3⟩ := h
  unfold j_add
  split
  · have := j_addl_ok (x := x) (y := y) (K := K) (fi := z.2.1 z.2.2.2) hn n a (z.2.1 z.2.2.2) z.1 (by omega) h1 h3
    refine ⟨this.1, by show z.2.2.2 + 1 ≤ 35; omega, ?_⟩
    show updN _ (z.2.2.2 + 1) _ (z.2.2.2 + 1) ≤ 105
    rw [updN_s]
    exact this.2.2
  · exact ⟨h1, h2, h3⟩
theorem j_next_c (ow : Nat → Int32) (n a : Nat) : ∀ (f k : Nat), n ≤ k + f → j_next ow n a k = -1 ∨ ∃ v, v < n ∧ j_next ow n a k = nI v := by
  intro f
  induction f with
  | zero => intro k h; rw [j_next, if_neg (by omega)]; exact Or.inl rfl
  | succ f ih =>
    intro k h
    rw [j_next]
    split
    · split
      · exact ih (k + 1) (by omega)
      · split
        · exact Or.inr ⟨k, by omega, rfl⟩
        · exact ih (k + 1) (by omega)
    · exact Or.inl rfl
theorem j_frim_c (ow : Nat → Int32) (n : Nat) : ∀ (f k : Nat), n ≤ k + f → j_frim ow n k = -1 ∨ ∃ v, v < n ∧ j_frim ow n k = nI v := by
  intro f
  induction f with
  | zero => intro k h; rw [j_frim, if_neg (by omega)]; exact Or.inl rfl
  | succ f ih =>
    intro k h
    rw [j_frim]
    split
    · split
      · exact ih (k + 1) (by omega)
      · exact Or.inr ⟨k, by omega, rfl⟩
    · exact Or.inl rfl
def j_step (x y : Nat → Int32) (n a b : Nat) (z : (Int32 × Int32 × Int64 × Int64 × Int64) × (Nat → Nat) × (Nat → Nat) × (Nat → Int32) × Nat) : (Int32 × Int32 × Int64 × Int64 × Int64) × (Nat → Nat) × (Nat → Nat) × (Nat → Int32) × Nat :=
  if (j_left x y n a b false z.1 0).1 = false then ((j_left x y n a b false z.1 0).2, z.2) else if j_begins x y (j_left x y n a b false z.1 0).2.1 (j_left x y n a b false z.1 0).2.2.1 (j_left x y n a b false z.1 0).2.2.2.1 (j_left x y n a b false z.1 0).2.2.2.2.1 (j_left x y n a b false z.1 0).2.2.2.2.2 n a b 0 = false then ((j_left x y n a b false z.1 0).2, z.2) else ((j_left x y n a b false z.1 0).2, j_add x y (j_left x y n a b false z.1 0).2 n a z.2.1 z.2.2.1 z.2.2.2.1 z.2.2.2.2)
def j_bb (x y : Nat → Int32) (n a : Nat) (z : (Int32 × Int32 × Int64 × Int64 × Int64) × (Nat → Nat) × (Nat → Nat) × (Nat → Int32) × Nat) (b : Nat) : (Int32 × Int32 × Int64 × Int64 × Int64) × (Nat → Nat) × (Nat → Nat) × (Nat → Int32) × Nat :=
  if b < n then j_bb x y n a (j_step x y n a b z) (b + 1) else z
termination_by n - b
def j_ba (x y : Nat → Int32) (n : Nat) (z : (Int32 × Int32 × Int64 × Int64 × Int64) × (Nat → Nat) × (Nat → Nat) × (Nat → Int32) × Nat) (a : Nat) : (Int32 × Int32 × Int64 × Int64 × Int64) × (Nat → Nat) × (Nat → Nat) × (Nat → Int32) × Nat :=
  if a < n then j_ba x y n (j_bb x y n a z (a + 1)) (a + 1) else z
termination_by n - a
def j_tail (rm : Nat → Int32) (n : Nat) (z : (Int32 × Int32 × Int64 × Int64 × Int64) × (Nat → Nat) × (Nat → Nat) × (Nat → Int32) × Nat) : ((Int32 × Int32 × Int64 × Int64 × Int64) × (Nat → Nat) × (Nat → Nat) × (Nat → Int32) × Nat) × (Nat → Int32) × Nat := (z, j_rim z.2.2.2.1 n (j_frim z.2.2.2.1 n 0) rm 0 (j_frim z.2.2.2.1 n 0))
set_option maxHeartbeats 4000000 in
set_option maxRecDepth 100000 in
theorem c_X1_addCell (l : Launch) (dC : Nat → ClassId) (dI : Nat → Nat → Nat) (m0 s0 g0 ra sa oa ma : Nat) (cI : ClassId) (xa ya : Nat) (rc : Int32) (x y : Nat → Int32) (fx fy : Int32) (ax ay sp : Int64) (rg sr : Nat → Nat) (ow : Nat → Int32) (q n a : Nat) (ln : n ≤ 20) (la : a ≤ n) (lq : sr q ≤ 105) (lq2 : q ≤ 35) (lr : ∀ j, rg j < 20) (R : (Nat → Nat) × (Nat → Nat) × (Nat → Int32) × Nat) (hR : j_add x y (fx, fy, ax, ay, sp) n a rg sr ow q = R) : Met l yX1_addCell wsX1_addCell ({ frames := 3, cells := 0, slots := 0, locals := 71 }) (q_Pm (dC, dI) [.ref m0, .int (nI a)] [(m0, .inr (1, [.ref s0, .ref g0, .ref ra, .ref sa, .ref oa, .int (nI q), .ref ma, .int rc])), (g0, .inr (0, [.int fx, .int fy, .long ax, .long ay, .long sp])), (s0, .inr (2, [.ref xa, .ref ya, .int (nI n)])), (xa, .inl (cI, 20, .inl x)), (ya, .inl (cI, 20, .inl y)), (ra, .inl (cI, 105, .inl (fun j9 => nI (rg j9)))), (sa, .inl (cI, 36, .inl (fun j9 => nI (sr j9)))), (oa, .inl (cI, 400, .inl ow))] [(cI, .int)]) (q_Qm (dC, dI) (q_in [(m0, .inr (1, [.ref s0, .ref g0, .ref ra, .ref sa, .ref oa, .int (nI q), .ref ma, .int rc])), (g0, .inr (0, [.int fx, .int fy, .long ax, .long ay, .long sp])), (s0, .inr (2, [.ref xa, .ref ya, .int (nI n)])), (xa, .inl (cI, 20, .inl x)), (ya, .inl (cI, 20, .inl y)), (ra, .inl (cI, 105, .inl (fun j9 => nI (rg j9)))), (sa, .inl (cI, 36, .inl (fun j9 => nI (sr j9)))), (oa, .inl (cI, 400, .inl ow))]) none [(m0, .inr (1, [.ref s0, .ref g0, .ref ra, .ref sa, .ref oa, .int (nI R.2.2.2), .ref ma, .int rc])), (g0, .inr (0, [.int fx, .int fy, .long ax, .long ay, .long sp])), (s0, .inr (2, [.ref xa, .ref ya, .int (nI n)])), (xa, .inl (cI, 20, .inl x)), (ya, .inl (cI, 20, .inl y)), (ra, .inl (cI, 105, .inl (fun j9 => nI (R.1 j9)))), (sa, .inl (cI, 36, .inl (fun j9 => nI (R.2.1 j9)))), (oa, .inl (cI, 400, .inl R.2.2.1))]) 0 0 (q_in [(m0, .inr (1, [.ref s0, .ref g0, .ref ra, .ref sa, .ref oa, .int (nI q), .ref ma, .int rc])), (g0, .inr (0, [.int fx, .int fy, .long ax, .long ay, .long sp])), (s0, .inr (2, [.ref xa, .ref ya, .int (nI n)])), (xa, .inl (cI, 20, .inl x)), (ya, .inl (cI, 20, .inl y)), (ra, .inl (cI, 105, .inl (fun j9 => nI (rg j9)))), (sa, .inl (cI, 36, .inl (fun j9 => nI (sr j9)))), (oa, .inl (cI, 400, .inl ow))]) := by
  refine Met.ofW (cc := cX1_addCell) (maxL := 5) (ret := none) (by decide) rfl ?_
  intro p e s m args below meth c s₁ B hml hv
  obtain ⟨rfl, hP, hK, hD0⟩ := hv
  have hx := B.exec
  have hb := B.bytes
  have hr := B.returns
  have hts := atoms_spec (ws := wsX1_addCell) B.pre
  have hown : s.vm.findClass RX1 = some m.cls := findClass_of_methodNamed B.named
  have hlocks := B.notSynchronized
  have hD := q_inD hD0
  generalize hAe : q_in [(m0, .inr (1, [.ref s0, .ref g0, .ref ra, .ref sa, .ref oa, .int (nI q), .ref ma, .int rc])), (g0, .inr (0, [.int fx, .int fy, .long ax, .long ay, .long sp])), (s0, .inr (2, [.ref xa, .ref ya, .int (nI n)])), (xa, .inl (cI, 20, .inl x)), (ya, .inl (cI, 20, .inl y)), (ra, .inl (cI, 105, .inl (fun j9 => nI (rg j9)))), (sa, .inl (cI, 36, .inl (fun j9 => nI (sr j9)))), (oa, .inl (cI, 400, .inl ow))] = A at hD ⊢
  have hS : va_S A s.heap s.heap [] := va_S.rf
  have hP : va_P (dC, dI) vwCl [(m0, .inr (1, [.ref s0, .ref g0, .ref ra, .ref sa, .ref oa, .int (nI q), .ref ma, .int rc])), (g0, .inr (0, [.int fx, .int fy, .long ax, .long ay, .long sp])), (s0, .inr (2, [.ref xa, .ref ya, .int (nI n)])), (xa, .inl (cI, 20, .inl x)), (ya, .inl (cI, 20, .inl y)), (ra, .inl (cI, 105, .inl (fun j9 => nI (rg j9)))), (sa, .inl (cI, 36, .inl (fun j9 => nI (sr j9)))), (oa, .inl (cI, 400, .inl ow))] s.heap := hP
  have hl := lv_entry ([.ref m0, .int (nI a)]) (n := 5) (Nat.le_of_ble_eq_true rfl)
  rw [lg_entry_eq]
  generalize (lg_sl ([.ref m0, .int (nI a)]) ++ List.replicate (5 - (lg_sl ([.ref m0, .int (nI a)])).length) Slot.unset).toArray = ls at hl ⊢
  have hl : lv_has ls 5 [(0, .ref m0), (1, .int (nI a))] := hl
  refine lv_aload_n hx hb dX1_addCell_0 rfl (lv_at hl 0 rfl) ?_
  refine va_get (D := (dC, dI)) (ci := 1) (v := .int (nI q)) (C := RX1) (T := TX1) (N := 8) hx hb hts (by decide +kernel) hown hK hP 0 rfl rfl 5 (by decide) (hts (.fieldLink RX1 28 "CircleCells$Mosaic" "cellCount" "I") (by decide +kernel)) (fun _ h9 => h9) rfl dX1_addCell_1 ?_
  refine lv_bipush (v := nI 35) hx hb dX1_addCell_4 (by decide) ?_
  refine q_icmp_lt (tgt := 10) (by omega) (by omega) hx hb dX1_addCell_6 (by decide) (fun c6 => ?_) (fun c6 => ?_)
  · rw [j_add, if_pos c6] at hR
    refine lv_aload_n hx hb dX1_addCell_10 rfl (lv_at hl 0 rfl) ?_
    refine va_get (D := (dC, dI)) (ci := 1) (v := .ref sa) (C := RX1) (T := TX1) (N := 8) hx hb hts (by decide +kernel) hown hK hP 0 rfl rfl 3 (by decide) (hts (.fieldLink RX1 22 "CircleCells$Mosaic" "start" "[I") (by decide +kernel)) (fun _ h9 => h9) rfl dX1_addCell_11 ?_
    refine lv_aload_n hx hb dX1_addCell_14 rfl (lv_at hl 0 rfl) ?_
    refine va_get (D := (dC, dI)) (ci := 1) (v := .int (nI q)) (C := RX1) (T := TX1) (N := 8) hx hb hts (by decide +kernel) hown hK hP 0 rfl rfl 5 (by decide) (hts (.fieldLink RX1 28 "CircleCells$Mosaic" "cellCount" "I") (by decide +kernel)) (fun _ h9 => h9) rfl dX1_addCell_15 ?_
    refine q_iald hx hb hK hP 6 0 rfl rfl (q) rfl (by omega) (by decide) dX1_addCell_18 ?_
    refine lv_istore_n (lv' := [(2, .int (nI (sr q))), (0, .ref m0), (1, .int (nI a))]) hx hb dX1_addCell_19 rfl hl (by decide) rfl (fun ls hl => ?_)
    refine lv_iload_n hx hb dX1_addCell_20 rfl (lv_at hl 0 rfl) ?_
    refine lv_istore_n (lv' := [(3, .int (nI (sr q))), (2, .int (nI (sr q))), (0, .ref m0), (1, .int (nI a))]) hx hb dX1_addCell_21 rfl hl (by decide) rfl (fun ls hl => ?_)
    refine lv_iload_n hx hb dX1_addCell_22 rfl (lv_at hl 3 rfl) ?_
    refine lv_istore (lv' := [(4, .int (nI a)), (3, .int (nI (sr q))), (2, .int (nI (sr q))), (0, .ref m0), (1, .int (nI a))]) hx hb dX1_addCell_23 hl (by decide) rfl (fun ls hl => ?_)
    have loop : ∀ (f : Nat) (rg : Nat → Nat) (en : Nat) (k : Nat) (R : (Nat → Nat) × (Nat → Nat) × (Nat → Int32) × Nat) (H : Heap) (locs : List Loc) (ls : Array Slot), (k ≤ n) → (n + 1 ≤ k + f) → (sr q ≤ en) → (en ≤ 105) → (∀ j, rg j < 20) → j_fin sr ow q (j_addl x y (fx, fy, ax, ay, sp) n (sr q) rg en k) = R → va_P (dC, dI) vwCl [(m0, .inr (1, [.ref s0, .ref g0, .ref ra, .ref sa, .ref oa, .int (nI q), .ref ma, .int rc])), (g0, .inr (0, [.int fx, .int fy, .long ax, .long ay, .long sp])), (s0, .inr (2, [.ref xa, .ref ya, .int (nI n)])), (xa, .inl (cI, 20, .inl x)), (ya, .inl (cI, 20, .inl y)), (ra, .inl (cI, 105, .inl (fun j9 => nI (rg j9)))), (sa, .inl (cI, 36, .inl (fun j9 => nI (sr j9)))), (oa, .inl (cI, 400, .inl ow))] H → va_D A [(m0, .inr (1, [.ref s0, .ref g0, .ref ra, .ref sa, .ref oa, .int (nI q), .ref ma, .int rc])), (g0, .inr (0, [.int fx, .int fy, .long ax, .long ay, .long sp])), (s0, .inr (2, [.ref xa, .ref ya, .int (nI n)])), (xa, .inl (cI, 20, .inl x)), (ya, .inl (cI, 20, .inl y)), (ra, .inl (cI, 105, .inl (fun j9 => nI (rg j9)))), (sa, .inl (cI, 36, .inl (fun j9 => nI (sr j9)))), (oa, .inl (cI, 400, .inl ow))] → va_S A s.heap H locs → lv_has ls 5 [(0, .ref m0), (1, .int (nI a)), (2, .int (nI (sr q))), (3, .int (nI en)), (4, .int (nI k))] → W p l e (headSpec wsX1_addCell ({ frames := 3, cells := 0, slots := 0, locals := 71 })).room s m ([.ref m0, .int (nI a)] : List Value).toArray below meth c H locs 0 0 (MQ below (q_Qm (dC, dI) A none [(m0, .inr (1, [.ref s0, .ref g0, .ref ra, .ref sa, .ref oa, .int (nI R.2.2.2), .ref ma, .int rc])), (g0, .inr (0, [.int fx, .int fy, .long ax, .long ay, .long sp])), (s0, .inr (2, [.ref xa, .ref ya, .int (nI n)])), (xa, .inl (cI, 20, .inl x)), (ya, .inl (cI, 20, .inl y)), (ra, .inl (cI, 105, .inl (fun j9 => nI (R.1 j9)))), (sa, .inl (cI, 36, .inl (fun j9 => nI (R.2.1 j9)))), (oa, .inl (cI, 400, .inl R.2.2.1))]) ([.ref m0, .int (nI a)] : List Value).toArray s 0 0 A) (F0 m 25 ls []) := by
      intro f
      induction f with
      | zero =>
        intro rg en k R H locs ls h1 h2 h3 h4 h5
        omega
      | succ f ih_loop =>
        intro rg en k R H locs ls h1 h2 h3 h4 h5 hF hP hD hS hl
        refine lv_iload hx hb dX1_addCell_25 (lv_at hl 4 rfl) ?_
        refine lv_aload_n hx hb dX1_addCell_27 rfl (lv_at hl 0 rfl) ?_
        refine va_get (D := (dC, dI)) (ci := 1) (v := .ref s0) (C := RX1) (T := TX1) (N := 8) hx hb hts (by decide +kernel) hown hK hP 0 rfl rfl 0 (by decide) (hts (.fieldLink RX1 38 "CircleCells$Mosaic" "sites" "LCircleCells$Sites;") (by decide +kernel)) (fun _ h9 => h9) rfl dX1_addCell_28 ?_
        refine va_get (D := (dC, dI)) (ci := 2) (v := .int (nI n)) (C := RX2) (T := TX2) (N := 3) hx hb hts (by decide +kernel) hown hK hP 2 rfl rfl 2 (by decide) (hts (.fieldLink RX1 48 "CircleCells$Sites" "size" "I") (by decide +kernel)) (fun _ h9 => h9) rfl dX1_addCell_31 ?_
        refine q_icmp_ge (tgt := 71) (by omega) (by omega) hx hb dX1_addCell_34 (by decide) (fun c34 => ?_) (fun c34 => ?_)
        · rw [j_addl, if_neg (by omega)] at hF
          have hF : (rg, updN sr (q + 1) en, j_claim rg (updN sr (q + 1) en) q ow 0, q + 1) = R := hF
          refine lv_aload_n hx hb dX1_addCell_71 rfl (lv_at hl 0 rfl) ?_
          refine va_get (D := (dC, dI)) (ci := 1) (v := .ref sa) (C := RX1) (T := TX1) (N := 8) hx hb hts (by decide +kernel) hown hK hP 0 rfl rfl 3 (by decide) (hts (.fieldLink RX1 22 "CircleCells$Mosaic" "start" "[I") (by decide +kernel)) (fun _ h9 => h9) rfl dX1_addCell_72 ?_
          refine lv_aload_n hx hb dX1_addCell_75 rfl (lv_at hl 0 rfl) ?_
          refine va_get (D := (dC, dI)) (ci := 1) (v := .int (nI q)) (C := RX1) (T := TX1) (N := 8) hx hb hts (by decide +kernel) hown hK hP 0 rfl rfl 5 (by decide) (hts (.fieldLink RX1 28 "CircleCells$Mosaic" "cellCount" "I") (by decide +kernel)) (fun _ h9 => h9) rfl dX1_addCell_76 ?_
          refine lv_iconst (v := nI 1) hx hb dX1_addCell_79 (by decide) ?_
          refine q_iadd hx hb dX1_addCell_80 ?_
          refine lv_iload_n hx hb dX1_addCell_81 rfl (lv_at hl 3 rfl) ?_
          refine q_iast (ws' := [(m0, .inr (1, [.ref s0, .ref g0, .ref ra, .ref sa, .ref oa, .int (nI q), .ref ma, .int rc])), (g0, .inr (0, [.int fx, .int fy, .long ax, .long ay, .long sp])), (s0, .inr (2, [.ref xa, .ref ya, .int (nI n)])), (xa, .inl (cI, 20, .inl x)), (ya, .inl (cI, 20, .inl y)), (ra, .inl (cI, 105, .inl (fun j9 => nI (rg j9)))), (sa, .inl (cI, 36, .inl (fun j9 => nI ((updN sr (q + 1) en) j9)))), (oa, .inl (cI, 400, .inl ow))]) hx hb hK hP hD hS 6 0 rfl rfl (q + 1) rfl (by omega) (by decide) dX1_addCell_82 (by rw [upd_nI]; rfl) (fun H locs hP hD hS => ?_)
          refine lv_aload_n hx hb dX1_addCell_83 rfl (lv_at hl 0 rfl) ?_
          refine lv_aload_n hx hb dX1_addCell_84 rfl (lv_at hl 0 rfl) ?_
          refine va_get (D := (dC, dI)) (ci := 1) (v := .int (nI q)) (C := RX1) (T := TX1) (N := 8) hx hb hts (by decide +kernel) hown hK hP 0 rfl rfl 5 (by decide) (hts (.fieldLink RX1 28 "CircleCells$Mosaic" "cellCount" "I") (by decide +kernel)) (fun _ h9 => h9) rfl dX1_addCell_85 ?_
          obtain ⟨o2, ho2⟩ : ∃ r : Nat → Int32, j_claim rg (updN sr (q + 1) en) q ow 0 = r := ⟨_, rfl⟩
          refine q_mV (wc' := [(m0, .inr (1, [.ref s0, .ref g0, .ref ra, .ref sa, .ref oa, .int (nI q), .ref ma, .int rc])), (ra, .inl (cI, 105, .inl (fun j9 => nI (rg j9)))), (sa, .inl (cI, 36, .inl (fun j9 => nI ((updN sr (q + 1) en) j9)))), (oa, .inl (cI, 400, .inl o2))]) (wsN := [(m0, .inr (1, [.ref s0, .ref g0, .ref ra, .ref sa, .ref oa, .int (nI q), .ref ma, .int rc])), (g0, .inr (0, [.int fx, .int fy, .long ax, .long ay, .long sp])), (s0, .inr (2, [.ref xa, .ref ya, .int (nI n)])), (xa, .inl (cI, 20, .inl x)), (ya, .inl (cI, 20, .inl y)), (ra, .inl (cI, 105, .inl (fun j9 => nI (rg j9)))), (sa, .inl (cI, 36, .inl (fun j9 => nI ((updN sr (q + 1) en) j9)))), (oa, .inl (cI, 400, .inl o2))]) (As := [.int (nI q)]) (rest := []) ⟨hx, hb, hml, hown, hts⟩ (c_X1_claimSides l dC dI m0 s0 g0 ra sa oa ma cI (nI q) rc rg (updN sr (q + 1) en) ow q (by omega) (by rw [updN_s, updN_n (by omega)]; omega) (by rw [updN_s]; omega) h5 o2 ho2) (cwV 1 hts gX1_addCell_X1_claimSides rfl rfl rfl (by decide +kernel) ⟨Nat.le_of_ble_eq_true rfl, Nat.le_of_ble_eq_true rfl⟩) hK hP hD hS [0, 5, 6, 7] [0] 1 0 rfl rfl rfl rfl rfl rfl rfl rfl rfl hl.1 rfl (Nat.le_of_ble_eq_true rfl) ⟨Nat.zero_le _, Nat.zero_le _⟩ dX1_addCell_88 rfl (fun H locs hP hD hS => ?_)
          refine W.eq (g2 := F0 m 91 ls []) rfl ?_
          rw [ho2] at hF
          subst hF
          refine lv_aload_n hx hb dX1_addCell_91 rfl (lv_at hl 0 rfl) ?_
          refine lv_dup hx hb dX1_addCell_92 rfl ?_
          refine va_get (D := (dC, dI)) (ci := 1) (v := .int (nI q)) (C := RX1) (T := TX1) (N := 8) hx hb hts (by decide +kernel) hown hK hP 0 rfl rfl 5 (by decide) (hts (.fieldLink RX1 28 "CircleCells$Mosaic" "cellCount" "I") (by decide +kernel)) (fun _ h9 => h9) rfl dX1_addCell_93 ?_
          refine lv_iconst (v := nI 1) hx hb dX1_addCell_96 (by decide) ?_
          refine q_iadd hx hb dX1_addCell_97 ?_
          refine va_put (D := (dC, dI)) (ci := 1) (v := .int (nI (q + 1))) (ty := .int) (C := RX1) (T := TX1) (N := 8) hx hb hts (by decide +kernel) tyX1 tyX1_ok nmX1 hown hK hP hD hS 0 rfl rfl 5 (by decide) (hts (.fieldLink RX1 28 "CircleCells$Mosaic" "cellCount" "I") (by decide +kernel)) (fun _ h9 => h9) rfl (by decide +kernel) rfl rfl (Nat.le_of_ble_eq_true rfl) dX1_addCell_98 (fun H locs hP hD hS => ?_)
          have hP : va_P (dC, dI) vwCl [(m0, .inr (1, [.ref s0, .ref g0, .ref ra, .ref sa, .ref oa, .int (nI (q + 1)), .ref ma, .int rc])), (g0, .inr (0, [.int fx, .int fy, .long ax, .long ay, .long sp])), (s0, .inr (2, [.ref xa, .ref ya, .int (nI n)])), (xa, .inl (cI, 20, .inl x)), (ya, .inl (cI, 20, .inl y)), (ra, .inl (cI, 105, .inl (fun j9 => nI (rg j9)))), (sa, .inl (cI, 36, .inl (fun j9 => nI ((updN sr (q + 1) en) j9)))), (oa, .inl (cI, 400, .inl o2))] H := hP
          have hD : va_D A [(m0, .inr (1, [.ref s0, .ref g0, .ref ra, .ref sa, .ref oa, .int (nI (q + 1)), .ref ma, .int rc])), (g0, .inr (0, [.int fx, .int fy, .long ax, .long ay, .long sp])), (s0, .inr (2, [.ref xa, .ref ya, .int (nI n)])), (xa, .inl (cI, 20, .inl x)), (ya, .inl (cI, 20, .inl y)), (ra, .inl (cI, 105, .inl (fun j9 => nI (rg j9)))), (sa, .inl (cI, 36, .inl (fun j9 => nI ((updN sr (q + 1) en) j9)))), (oa, .inl (cI, 400, .inl o2))] := hD
          exact W.vret hx hb hr (q_retm hP hS) hS.2.2 dX1_addCell_101
        · rw [j_addl, if_pos c34] at hF
          refine lv_iload_n hx hb dX1_addCell_37 rfl (lv_at hl 3 rfl) ?_
          refine lv_bipush (v := nI 105) hx hb dX1_addCell_38 (by decide) ?_
          refine q_icmp_ge (tgt := 71) (by omega) (by omega) hx hb dX1_addCell_40 (by decide) (fun c40 => ?_) (fun c40 => ?_)
          · rw [if_pos c40] at hF
            have hF : (rg, updN sr (q + 1) en, j_claim rg (updN sr (q + 1) en) q ow 0, q + 1) = R := hF
            refine lv_aload_n hx hb dX1_addCell_71 rfl (lv_at hl 0 rfl) ?_
            refine va_get (D := (dC, dI)) (ci := 1) (v := .ref sa) (C := RX1) (T := TX1) (N := 8) hx hb hts (by decide +kernel) hown hK hP 0 rfl rfl 3 (by decide) (hts (.fieldLink RX1 22 "CircleCells$Mosaic" "start" "[I") (by decide +kernel)) (fun _ h9 => h9) rfl dX1_addCell_72 ?_
            refine lv_aload_n hx hb dX1_addCell_75 rfl (lv_at hl 0 rfl) ?_
            refine va_get (D := (dC, dI)) (ci := 1) (v := .int (nI q)) (C := RX1) (T := TX1) (N := 8) hx hb hts (by decide +kernel) hown hK hP 0 rfl rfl 5 (by decide) (hts (.fieldLink RX1 28 "CircleCells$Mosaic" "cellCount" "I") (by decide +kernel)) (fun _ h9 => h9) rfl dX1_addCell_76 ?_
            refine lv_iconst (v := nI 1) hx hb dX1_addCell_79 (by decide) ?_
            refine q_iadd hx hb dX1_addCell_80 ?_
            refine lv_iload_n hx hb dX1_addCell_81 rfl (lv_at hl 3 rfl) ?_
            refine q_iast (ws' := [(m0, .inr (1, [.ref s0, .ref g0, .ref ra, .ref sa, .ref oa, .int (nI q), .ref ma, .int rc])), (g0, .inr (0, [.int fx, .int fy, .long ax, .long ay, .long sp])), (s0, .inr (2, [.ref xa, .ref ya, .int (nI n)])), (xa, .inl (cI, 20, .inl x)), (ya, .inl (cI, 20, .inl y)), (ra, .inl (cI, 105, .inl (fun j9 => nI (rg j9)))), (sa, .inl (cI, 36, .inl (fun j9 => nI ((updN sr (q + 1) en) j9)))), (oa, .inl (cI, 400, .inl ow))]) hx hb hK hP hD hS 6 0 rfl rfl (q + 1) rfl (by omega) (by decide) dX1_addCell_82 (by rw [upd_nI]; rfl) (fun H locs hP hD hS => ?_)
            refine lv_aload_n hx hb dX1_addCell_83 rfl (lv_at hl 0 rfl) ?_
            refine lv_aload_n hx hb dX1_addCell_84 rfl (lv_at hl 0 rfl) ?_
            refine va_get (D := (dC, dI)) (ci := 1) (v := .int (nI q)) (C := RX1) (T := TX1) (N := 8) hx hb hts (by decide +kernel) hown hK hP 0 rfl rfl 5 (by decide) (hts (.fieldLink RX1 28 "CircleCells$Mosaic" "cellCount" "I") (by decide +kernel)) (fun _ h9 => h9) rfl dX1_addCell_85 ?_
            obtain ⟨o2, ho2⟩ : ∃ r : Nat → Int32, j_claim rg (updN sr (q + 1) en) q ow 0 = r := ⟨_, rfl⟩
            refine q_mV (wc' := [(m0, .inr (1, [.ref s0, .ref g0, .ref ra, .ref sa, .ref oa, .int (nI q), .ref ma, .int rc])), (ra, .inl (cI, 105, .inl (fun j9 => nI (rg j9)))), (sa, .inl (cI, 36, .inl (fun j9 => nI ((updN sr (q + 1) en) j9)))), (oa, .inl (cI, 400, .inl o2))]) (wsN := [(m0, .inr (1, [.ref s0, .ref g0, .ref ra, .ref sa, .ref oa, .int (nI q), .ref ma, .int rc])), (g0, .inr (0, [.int fx, .int fy, .long ax, .long ay, .long sp])), (s0, .inr (2, [.ref xa, .ref ya, .int (nI n)])), (xa, .inl (cI, 20, .inl x)), (ya, .inl (cI, 20, .inl y)), (ra, .inl (cI, 105, .inl (fun j9 => nI (rg j9)))), (sa, .inl (cI, 36, .inl (fun j9 => nI ((updN sr (q + 1) en) j9)))), (oa, .inl (cI, 400, .inl o2))]) (As := [.int (nI q)]) (rest := []) ⟨hx, hb, hml, hown, hts⟩ (c_X1_claimSides l dC dI m0 s0 g0 ra sa oa ma cI (nI q) rc rg (updN sr (q + 1) en) ow q (by omega) (by rw [updN_s, updN_n (by omega)]; omega) (by rw [updN_s]; omega) h5 o2 ho2) (cwV 1 hts gX1_addCell_X1_claimSides rfl rfl rfl (by decide +kernel) ⟨Nat.le_of_ble_eq_true rfl, Nat.le_of_ble_eq_true rfl⟩) hK hP hD hS [0, 5, 6, 7] [0] 1 0 rfl rfl rfl rfl rfl rfl rfl rfl rfl hl.1 rfl (Nat.le_of_ble_eq_true rfl) ⟨Nat.zero_le _, Nat.zero_le _⟩ dX1_addCell_88 rfl (fun H locs hP hD hS => ?_)
            refine W.eq (g2 := F0 m 91 ls []) rfl ?_
            rw [ho2] at hF
            subst hF
            refine lv_aload_n hx hb dX1_addCell_91 rfl (lv_at hl 0 rfl) ?_
            refine lv_dup hx hb dX1_addCell_92 rfl ?_
            refine va_get (D := (dC, dI)) (ci := 1) (v := .int (nI q)) (C := RX1) (T := TX1) (N := 8) hx hb hts (by decide +kernel) hown hK hP 0 rfl rfl 5 (by decide) (hts (.fieldLink RX1 28 "CircleCells$Mosaic" "cellCount" "I") (by decide +kernel)) (fun _ h9 => h9) rfl dX1_addCell_93 ?_
            refine lv_iconst (v := nI 1) hx hb dX1_addCell_96 (by decide) ?_
            refine q_iadd hx hb dX1_addCell_97 ?_
            refine va_put (D := (dC, dI)) (ci := 1) (v := .int (nI (q + 1))) (ty := .int) (C := RX1) (T := TX1) (N := 8) hx hb hts (by decide +kernel) tyX1 tyX1_ok nmX1 hown hK hP hD hS 0 rfl rfl 5 (by decide) (hts (.fieldLink RX1 28 "CircleCells$Mosaic" "cellCount" "I") (by decide +kernel)) (fun _ h9 => h9) rfl (by decide +kernel) rfl rfl (Nat.le_of_ble_eq_true rfl) dX1_addCell_98 (fun H locs hP hD hS => ?_)
            have hP : va_P (dC, dI) vwCl [(m0, .inr (1, [.ref s0, .ref g0, .ref ra, .ref sa, .ref oa, .int (nI (q + 1)), .ref ma, .int rc])), (g0, .inr (0, [.int fx, .int fy, .long ax, .long ay, .long sp])), (s0, .inr (2, [.ref xa, .ref ya, .int (nI n)])), (xa, .inl (cI, 20, .inl x)), (ya, .inl (cI, 20, .inl y)), (ra, .inl (cI, 105, .inl (fun j9 => nI (rg j9)))), (sa, .inl (cI, 36, .inl (fun j9 => nI ((updN sr (q + 1) en) j9)))), (oa, .inl (cI, 400, .inl o2))] H := hP
            have hD : va_D A [(m0, .inr (1, [.ref s0, .ref g0, .ref ra, .ref sa, .ref oa, .int (nI (q + 1)), .ref ma, .int rc])), (g0, .inr (0, [.int fx, .int fy, .long ax, .long ay, .long sp])), (s0, .inr (2, [.ref xa, .ref ya, .int (nI n)])), (xa, .inl (cI, 20, .inl x)), (ya, .inl (cI, 20, .inl y)), (ra, .inl (cI, 105, .inl (fun j9 => nI (rg j9)))), (sa, .inl (cI, 36, .inl (fun j9 => nI ((updN sr (q + 1) en) j9)))), (oa, .inl (cI, 400, .inl o2))] := hD
            exact W.vret hx hb hr (q_retm hP hS) hS.2.2 dX1_addCell_101
          · rw [if_neg (by omega)] at hF
            refine lv_aload_n hx hb dX1_addCell_43 rfl (lv_at hl 0 rfl) ?_
            refine lv_iload hx hb dX1_addCell_44 (lv_at hl 4 rfl) ?_
            refine q_cV (As := [.int (nI k)]) (rest := []) ⟨hx, hb, hml, hown, hts⟩ (c_X1_powerOf l dC dI m0 s0 g0 ra sa oa ma cI xa ya (nI n) (nI q) rc x y fx fy ax ay sp k (by omega)) (cwV 1 hts gX1_addCell_X1_powerOf rfl rfl rfl (by decide +kernel) ⟨Nat.le_of_ble_eq_true rfl, Nat.le_of_ble_eq_true rfl⟩) (q_pV hK hP [0, 1, 2, 3, 4] [0] 1 0 rfl rfl rfl rfl rfl rfl) rfl hl.1 rfl (Nat.le_of_ble_eq_true rfl) ⟨Nat.zero_le _, Nat.zero_le _⟩ dX1_addCell_46 ?_
            refine lv_lconst (v := 0) hx hb dX1_addCell_49 (by decide) ?_
            refine q_lcmp_ne (tgt := 65) hx hb dX1_addCell_50 dX1_addCell_51 (by decide) (fun c51 => ?_) (fun c51 => ?_)
            · rw [if_pos (show ¬ j_powC (fx, fy, ax, ay, sp) (x k) (y k) = 0 from c51)] at hF
              refine lv_iinc (v := nI (k + 1)) (lv' := [(4, .int (nI (k + 1))), (0, .ref m0), (1, .int (nI a)), (2, .int (nI (sr q))), (3, .int (nI en))]) hx hb dX1_addCell_65 hl (k := 4) rfl (by rw [show Int32.ofInt 1 = 1 from rfl]; exact nI_1 _) (by decide) rfl (fun ls hl => ?_)
              refine lv_goto (tgt := 25) hx hb dX1_addCell_68 (by decide) ?_
              exact ih_loop rg en (k + 1) R H locs ls (by omega) (by omega) (by omega) (by omega) (by first | exact h5 | (rw [← hr3]; exact j_ins_lt (by omega) _ _ h5)) hF hP hD hS (lv_sub hl [1, 2, 3, 4, 0] rfl)
            · rw [if_neg (fun h => h (show j_powC (fx, fy, ax, ay, sp) (x k) (y k) = 0 from c51))] at hF
              refine lv_aload_n hx hb dX1_addCell_54 rfl (lv_at hl 0 rfl) ?_
              refine lv_iload_n hx hb dX1_addCell_55 rfl (lv_at hl 2 rfl) ?_
              refine lv_iload_n hx hb dX1_addCell_56 rfl (lv_at hl 3 rfl) ?_
              refine lv_iload hx hb dX1_addCell_57 (lv_at hl 4 rfl) ?_
              obtain ⟨r3, hr3⟩ : ∃ r : Nat → Nat, j_ins x y (sr q) k rg en = r := ⟨_, rfl⟩
              refine q_mV (wc' := [(m0, .inr (1, [.ref s0, .ref g0, .ref ra, .ref sa, .ref oa, .int (nI q), .ref ma, .int rc])), (ra, .inl (cI, 105, .inl (fun j9 => nI (r3 j9)))), (s0, .inr (2, [.ref xa, .ref ya, .int (nI n)])), (xa, .inl (cI, 20, .inl x)), (ya, .inl (cI, 20, .inl y))]) (wsN := [(m0, .inr (1, [.ref s0, .ref g0, .ref ra, .ref sa, .ref oa, .int (nI q), .ref ma, .int rc])), (g0, .inr (0, [.int fx, .int fy, .long ax, .long ay, .long sp])), (s0, .inr (2, [.ref xa, .ref ya, .int (nI n)])), (xa, .inl (cI, 20, .inl x)), (ya, .inl (cI, 20, .inl y)), (ra, .inl (cI, 105, .inl (fun j9 => nI (r3 j9)))), (sa, .inl (cI, 36, .inl (fun j9 => nI (sr j9)))), (oa, .inl (cI, 400, .inl ow))]) (As := [.int (nI (sr q)), .int (nI en), .int (nI k)]) (rest := []) ⟨hx, hb, hml, hown, hts⟩ (c_X1_insertRound l dC dI m0 s0 g0 ra sa oa ma cI xa ya (nI q) rc x y (nI n) rg (sr q) en k (by omega) (by omega) (by omega) h5 r3 hr3) (cwV 3 hts gX1_addCell_X1_insertRound rfl rfl rfl (by decide +kernel) ⟨Nat.le_of_ble_eq_true rfl, Nat.le_of_ble_eq_true rfl⟩) hK hP hD hS [0, 5, 2, 3, 4] [0] 1 0 rfl rfl rfl rfl rfl rfl rfl rfl rfl hl.1 rfl (Nat.le_of_ble_eq_true rfl) ⟨Nat.zero_le _, Nat.zero_le _⟩ dX1_addCell_59 rfl (fun H locs hP hD hS => ?_)
              refine W.eq (g2 := F0 m 62 ls []) rfl ?_
              rw [hr3] at hF
              refine lv_iinc (v := nI (en + 1)) (lv' := [(3, .int (nI (en + 1))), (0, .ref m0), (1, .int (nI a)), (2, .int (nI (sr q))), (4, .int (nI k))]) hx hb dX1_addCell_62 hl (k := 3) rfl (by rw [show Int32.ofInt 1 = 1 from rfl]; exact nI_1 _) (by decide) rfl (fun ls hl => ?_)
              refine lv_iinc (v := nI (k + 1)) (lv' := [(4, .int (nI (k + 1))), (3, .int (nI (en + 1))), (0, .ref m0), (1, .int (nI a)), (2, .int (nI (sr q)))]) hx hb dX1_addCell_65 hl (k := 4) rfl (by rw [show Int32.ofInt 1 = 1 from rfl]; exact nI_1 _) (by decide) rfl (fun ls hl => ?_)
              refine lv_goto (tgt := 25) hx hb dX1_addCell_68 (by decide) ?_
              exact ih_loop r3 (en + 1) (k + 1) R H locs ls (by omega) (by omega) (by omega) (by omega) (by first | exact h5 | (rw [← hr3]; exact j_ins_lt (by omega) _ _ h5)) hF hP hD hS (lv_sub hl [2, 3, 4, 1, 0] rfl)
    exact loop (n + 1) rg (sr q) a R _ _ ls (by omega) (by omega) (by omega) (by omega) lr hR hP hD hS (lv_sub hl [3, 4, 2, 1, 0] rfl)
  · rw [j_add, if_neg (by omega)] at hR
    subst hR
    exact W.vret hx hb hr (q_retm hP hS) hS.2.2 dX1_addCell_9
set_option maxHeartbeats 4000000 in
set_option maxRecDepth 100000 in
theorem c_X1_walkRim (l : Launch) (dC : Nat → ClassId) (dI : Nat → Nat → Nat) (m0 s0 g0 ra sa oa ma : Nat) (cI : ClassId) (xa ya : Nat) (cc rc : Int32) (x y : Nat → Int32) (ow rm : Nat → Int32) (n : Nat) (ln : n ≤ 20) (R : (Nat → Int32) × Nat) (hR : j_rim ow n (j_frim ow n 0) rm 0 (j_frim ow n 0) = R) : Met l yX1_walkRim wsX1_walkRim ({ frames := 3, cells := 0, slots := 0, locals := 64 }) (q_Pm (dC, dI) [.ref m0] [(m0, .inr (1, [.ref s0, .ref g0, .ref ra, .ref sa, .ref oa, .int cc, .ref ma, .int rc])), (ma, .inl (cI, 20, .inl rm)), (oa, .inl (cI, 400, .inl ow)), (s0, .inr (2, [.ref xa, .ref ya, .int (nI n)]))] [(cI, .int)]) (q_Qm (dC, dI) (q_in [(m0, .inr (1, [.ref s0, .ref g0, .ref ra, .ref sa, .ref oa, .int cc, .ref ma, .int rc])), (ma, .inl (cI, 20, .inl rm)), (oa, .inl (cI, 400, .inl ow)), (s0, .inr (2, [.ref xa, .ref ya, .int (nI n)]))]) none [(m0, .inr (1, [.ref s0, .ref g0, .ref ra, .ref sa, .ref oa, .int cc, .ref ma, .int (nI R.2)])), (ma, .inl (cI, 20, .inl R.1)), (oa, .inl (cI, 400, .inl ow)), (s0, .inr (2, [.ref xa, .ref ya, .int (nI n)]))]) 0 0 (q_in [(m0, .inr (1, [.ref s0, .ref g0, .ref ra, .ref sa, .ref oa, .int cc, .ref ma, .int rc])), (ma, .inl (cI, 20, .inl rm)), (oa, .inl (cI, 400, .inl ow)), (s0, .inr (2, [.ref xa, .ref ya, .int (nI n)]))]) := by
  refine Met.ofW (cc := cX1_walkRim) (maxL := 4) (ret := none) (by decide) rfl ?_
  intro p e s m args below meth c s₁ B hml hv
  obtain ⟨rfl, hP, hK, hD0⟩ := hv
  have hx := B.exec
  have hb := B.bytes
  have hr := B.returns
  have hts := atoms_spec (ws := wsX1_walkRim) B.pre
  have hown : s.vm.findClass RX1 = some m.cls := findClass_of_methodNamed B.named
  have hlocks := B.notSynchronized
  have hD := q_inD hD0
  generalize hAe : q_in [(m0, .inr (1, [.ref s0, .ref g0, .ref ra, .ref sa, .ref oa, .int cc, .ref ma, .int rc])), (ma, .inl (cI, 20, .inl rm)), (oa, .inl (cI, 400, .inl ow)), (s0, .inr (2, [.ref xa, .ref ya, .int (nI n)]))] = A at hD ⊢
  have hS : va_S A s.heap s.heap [] := va_S.rf
  have hP : va_P (dC, dI) vwCl [(m0, .inr (1, [.ref s0, .ref g0, .ref ra, .ref sa, .ref oa, .int cc, .ref ma, .int rc])), (ma, .inl (cI, 20, .inl rm)), (oa, .inl (cI, 400, .inl ow)), (s0, .inr (2, [.ref xa, .ref ya, .int (nI n)]))] s.heap := hP
  have hl := lv_entry ([.ref m0]) (n := 4) (Nat.le_of_ble_eq_true rfl)
  rw [lg_entry_eq]
  generalize (lg_sl ([.ref m0]) ++ List.replicate (4 - (lg_sl ([.ref m0])).length) Slot.unset).toArray = ls at hl ⊢
  have hl : lv_has ls 4 [(0, .ref m0)] := hl
  refine lv_aload_n hx hb dX1_walkRim_0 rfl (lv_at hl 0 rfl) ?_
  refine lv_iconst (v := nI 0) hx hb dX1_walkRim_1 (by decide) ?_
  refine va_put (D := (dC, dI)) (ci := 1) (v := .int (nI 0)) (ty := .int) (C := RX1) (T := TX1) (N := 8) hx hb hts (by decide +kernel) tyX1 tyX1_ok nmX1 hown hK hP hD hS 0 rfl rfl 7 (by decide) (hts (.fieldLink RX1 35 "CircleCells$Mosaic" "rimCount" "I") (by decide +kernel)) (fun _ h9 => h9) rfl (by decide +kernel) rfl rfl (Nat.le_of_ble_eq_true rfl) dX1_walkRim_2 (fun H locs hP hD hS => ?_)
  have hP : va_P (dC, dI) vwCl [(m0, .inr (1, [.ref s0, .ref g0, .ref ra, .ref sa, .ref oa, .int cc, .ref ma, .int (nI 0)])), (ma, .inl (cI, 20, .inl rm)), (oa, .inl (cI, 400, .inl ow)), (s0, .inr (2, [.ref xa, .ref ya, .int (nI n)]))] H := hP
  have hD : va_D A [(m0, .inr (1, [.ref s0, .ref g0, .ref ra, .ref sa, .ref oa, .int cc, .ref ma, .int (nI 0)])), (ma, .inl (cI, 20, .inl rm)), (oa, .inl (cI, 400, .inl ow)), (s0, .inr (2, [.ref xa, .ref ya, .int (nI n)]))] := hD
  refine lv_aload_n hx hb dX1_walkRim_5 rfl (lv_at hl 0 rfl) ?_
  refine q_cV (As := []) (rest := []) ⟨hx, hb, hml, hown, hts⟩ (c_X1_firstOnRim l dC dI m0 s0 g0 ra sa oa ma cI xa ya cc (nI 0) x y ow n (by omega)) (cwV 0 hts gX1_walkRim_X1_firstOnRim rfl rfl rfl (by decide +kernel) ⟨Nat.le_of_ble_eq_true rfl, Nat.le_of_ble_eq_true rfl⟩) (q_pV hK hP [0, 2, 3] [0] 1 0 rfl rfl rfl rfl rfl rfl) rfl hl.1 rfl (Nat.le_of_ble_eq_true rfl) ⟨Nat.zero_le _, Nat.zero_le _⟩ dX1_walkRim_6 ?_
  refine lv_istore_n (lv' := [(1, .int (j_frim ow n 0)), (0, .ref m0)]) hx hb dX1_walkRim_9 rfl hl (by decide) rfl (fun ls hl => ?_)
  refine lv_iload_n hx hb dX1_walkRim_10 rfl (lv_at hl 0 rfl) ?_
  refine lv_istore_n (lv' := [(2, .int (j_frim ow n 0)), (1, .int (j_frim ow n 0)), (0, .ref m0)]) hx hb dX1_walkRim_11 rfl hl (by decide) rfl (fun ls hl => ?_)
  have loop : ∀ (f : Nat) (rm : Nat → Int32) (rc : Nat) (w : Int32) (R : (Nat → Int32) × Nat) (H : Heap) (locs : List Loc) (ls : Array Slot), (rc ≤ 20) → (20 + 1 ≤ rc + f) → (w = -1 ∨ ∃ v, v < n ∧ w = nI v) → j_rim ow n (j_frim ow n 0) rm rc w = R → va_P (dC, dI) vwCl [(m0, .inr (1, [.ref s0, .ref g0, .ref ra, .ref sa, .ref oa, .int cc, .ref ma, .int (nI rc)])), (ma, .inl (cI, 20, .inl rm)), (oa, .inl (cI, 400, .inl ow)), (s0, .inr (2, [.ref xa, .ref ya, .int (nI n)]))] H → va_D A [(m0, .inr (1, [.ref s0, .ref g0, .ref ra, .ref sa, .ref oa, .int cc, .ref ma, .int (nI rc)])), (ma, .inl (cI, 20, .inl rm)), (oa, .inl (cI, 400, .inl ow)), (s0, .inr (2, [.ref xa, .ref ya, .int (nI n)]))] → va_S A s.heap H locs → lv_has ls 4 [(0, .ref m0), (1, .int (j_frim ow n 0)), (2, .int w)] → W p l e (headSpec wsX1_walkRim ({ frames := 3, cells := 0, slots := 0, locals := 64 })).room s m ([.ref m0] : List Value).toArray below meth c H locs 0 0 (MQ below (q_Qm (dC, dI) A none [(m0, .inr (1, [.ref s0, .ref g0, .ref ra, .ref sa, .ref oa, .int cc, .ref ma, .int (nI R.2)])), (ma, .inl (cI, 20, .inl R.1)), (oa, .inl (cI, 400, .inl ow)), (s0, .inr (2, [.ref xa, .ref ya, .int (nI n)]))]) ([.ref m0] : List Value).toArray s 0 0 A) (F0 m 12 ls []) := by
    intro f
    induction f with
    | zero =>
      intro rm rc w R H locs ls h1 h2 hw
      omega
    | succ f ih_loop =>
      intro rm rc w R H locs ls h1 h2 hw hF hP hD hS hl
      refine lv_iload_n hx hb dX1_walkRim_12 rfl (lv_at hl 2 rfl) ?_
      refine lv_iconst (v := (-1)) hx hb dX1_walkRim_13 (by decide) ?_
      refine lv_icmp_eq (tgt := 66) hx hb dX1_walkRim_14 (by decide) (fun c14 => ?_) (fun c14 => ?_)
      · rw [j_rim, if_pos c14] at hF
        subst hF
        exact W.vret hx hb hr (q_retm hP hS) hS.2.2 dX1_walkRim_66
      · rw [j_rim, if_neg c14] at hF
        obtain ⟨v, hv, e9⟩ := hw.resolve_left c14
        subst e9
        refine lv_aload_n hx hb dX1_walkRim_17 rfl (lv_at hl 0 rfl) ?_
        refine va_get (D := (dC, dI)) (ci := 1) (v := .int (nI rc)) (C := RX1) (T := TX1) (N := 8) hx hb hts (by decide +kernel) hown hK hP 0 rfl rfl 7 (by decide) (hts (.fieldLink RX1 35 "CircleCells$Mosaic" "rimCount" "I") (by decide +kernel)) (fun _ h9 => h9) rfl dX1_walkRim_18 ?_
        refine lv_bipush (v := nI 20) hx hb dX1_walkRim_21 (by decide) ?_
        refine q_icmp_ge (tgt := 66) (by omega) (by omega) hx hb dX1_walkRim_23 (by decide) (fun c23 => ?_) (fun c23 => ?_)
        · rw [if_pos c23] at hF
          subst hF
          exact W.vret hx hb hr (q_retm hP hS) hS.2.2 dX1_walkRim_66
        · rw [if_neg (by omega), nI_clamp (by omega)] at hF
          refine lv_aload_n hx hb dX1_walkRim_26 rfl (lv_at hl 0 rfl) ?_
          refine va_get (D := (dC, dI)) (ci := 1) (v := .ref ma) (C := RX1) (T := TX1) (N := 8) hx hb hts (by decide +kernel) hown hK hP 0 rfl rfl 6 (by decide) (hts (.fieldLink RX1 32 "CircleCells$Mosaic" "rim" "[I") (by decide +kernel)) (fun _ h9 => h9) rfl dX1_walkRim_27 ?_
          refine lv_aload_n hx hb dX1_walkRim_30 rfl (lv_at hl 0 rfl) ?_
          refine va_get (D := (dC, dI)) (ci := 1) (v := .int (nI rc)) (C := RX1) (T := TX1) (N := 8) hx hb hts (by decide +kernel) hown hK hP 0 rfl rfl 7 (by decide) (hts (.fieldLink RX1 35 "CircleCells$Mosaic" "rimCount" "I") (by decide +kernel)) (fun _ h9 => h9) rfl dX1_walkRim_31 ?_
          refine lv_iload_n hx hb dX1_walkRim_34 rfl (lv_at hl 2 rfl) ?_
          refine q_iast (ws' := [(m0, .inr (1, [.ref s0, .ref g0, .ref ra, .ref sa, .ref oa, .int cc, .ref ma, .int (nI rc)])), (ma, .inl (cI, 20, .inl (upd rm rc (nI v)))), (oa, .inl (cI, 400, .inl ow)), (s0, .inr (2, [.ref xa, .ref ya, .int (nI n)]))]) hx hb hK hP hD hS 1 0 rfl rfl (rc) rfl (by omega) (by decide) dX1_walkRim_35 rfl (fun H locs hP hD hS => ?_)
          refine lv_aload_n hx hb dX1_walkRim_36 rfl (lv_at hl 0 rfl) ?_
          refine lv_dup hx hb dX1_walkRim_37 rfl ?_
          refine va_get (D := (dC, dI)) (ci := 1) (v := .int (nI rc)) (C := RX1) (T := TX1) (N := 8) hx hb hts (by decide +kernel) hown hK hP 0 rfl rfl 7 (by decide) (hts (.fieldLink RX1 35 "CircleCells$Mosaic" "rimCount" "I") (by decide +kernel)) (fun _ h9 => h9) rfl dX1_walkRim_38 ?_
          refine lv_iconst (v := nI 1) hx hb dX1_walkRim_41 (by decide) ?_
          refine q_iadd hx hb dX1_walkRim_42 ?_
          refine va_put (D := (dC, dI)) (ci := 1) (v := .int (nI (rc + 1))) (ty := .int) (C := RX1) (T := TX1) (N := 8) hx hb hts (by decide +kernel) tyX1 tyX1_ok nmX1 hown hK hP hD hS 0 rfl rfl 7 (by decide) (hts (.fieldLink RX1 35 "CircleCells$Mosaic" "rimCount" "I") (by decide +kernel)) (fun _ h9 => h9) rfl (by decide +kernel) rfl rfl (Nat.le_of_ble_eq_true rfl) dX1_walkRim_43 (fun H locs hP hD hS => ?_)
          have hP : va_P (dC, dI) vwCl [(m0, .inr (1, [.ref s0, .ref g0, .ref ra, .ref sa, .ref oa, .int cc, .ref ma, .int (nI (rc + 1))])), (ma, .inl (cI, 20, .inl (upd rm rc (nI v)))), (oa, .inl (cI, 400, .inl ow)), (s0, .inr (2, [.ref xa, .ref ya, .int (nI n)]))] H := hP
          have hD : va_D A [(m0, .inr (1, [.ref s0, .ref g0, .ref ra, .ref sa, .ref oa, .int cc, .ref ma, .int (nI (rc + 1))])), (ma, .inl (cI, 20, .inl (upd rm rc (nI v)))), (oa, .inl (cI, 400, .inl ow)), (s0, .inr (2, [.ref xa, .ref ya, .int (nI n)]))] := hD
          refine lv_aload_n hx hb dX1_walkRim_46 rfl (lv_at hl 0 rfl) ?_
          refine lv_iload_n hx hb dX1_walkRim_47 rfl (lv_at hl 2 rfl) ?_
          refine q_cV (As := [.int (nI v)]) (rest := []) ⟨hx, hb, hml, hown, hts⟩ (c_X1_nextOnRim l dC dI m0 s0 g0 ra sa oa ma cI xa ya cc (nI (rc + 1)) x y ow n v (by omega) (by omega)) (cwV 1 hts gX1_walkRim_X1_nextOnRim rfl rfl rfl (by decide +kernel) ⟨Nat.le_of_ble_eq_true rfl, Nat.le_of_ble_eq_true rfl⟩) (q_pV hK hP [0, 2, 3] [0] 1 0 rfl rfl rfl rfl rfl rfl) rfl hl.1 rfl (Nat.le_of_ble_eq_true rfl) ⟨Nat.zero_le _, Nat.zero_le _⟩ dX1_walkRim_48 ?_
          refine lv_istore_n (lv' := [(3, .int (j_next ow n v 0)), (0, .ref m0), (1, .int (j_frim ow n 0)), (2, .int (nI v))]) hx hb dX1_walkRim_51 rfl hl (by decide) rfl (fun ls hl => ?_)
          refine lv_iload_n hx hb dX1_walkRim_52 rfl (lv_at hl 0 rfl) ?_
          refine lv_iload_n hx hb dX1_walkRim_53 rfl (lv_at hl 2 rfl) ?_
          refine lv_icmp_ne (tgt := 61) hx hb dX1_walkRim_54 (by decide) (fun c54 => ?_) (fun c54 => ?_)
          · rw [if_neg c54] at hF
            refine lv_iload_n hx hb dX1_walkRim_61 rfl (lv_at hl 0 rfl) ?_
            refine lv_istore_n (lv' := [(2, .int (j_next ow n v 0)), (3, .int (j_next ow n v 0)), (0, .ref m0), (1, .int (j_frim ow n 0))]) hx hb dX1_walkRim_62 rfl hl (by decide) rfl (fun ls hl => ?_)
            refine lv_goto (tgt := 12) hx hb dX1_walkRim_63 (by decide) ?_
            exact ih_loop (upd rm rc (nI v)) (rc + 1) (j_next ow n v 0) R H locs ls (by omega) (by omega) (by first | exact Or.inl rfl | exact j_next_c ow n _ n 0 (by omega)) hF hP hD hS (lv_sub hl [2, 3, 0] rfl)
          · rw [if_pos c54] at hF
            refine lv_iconst (v := (-1)) hx hb dX1_walkRim_57 (by decide) ?_
            refine lv_goto (tgt := 62) hx hb dX1_walkRim_58 (by decide) ?_
            refine lv_istore_n (lv' := [(2, .int (-1)), (3, .int (j_next ow n v 0)), (0, .ref m0), (1, .int (j_frim ow n 0))]) hx hb dX1_walkRim_62 rfl hl (by decide) rfl (fun ls hl => ?_)
            refine lv_goto (tgt := 12) hx hb dX1_walkRim_63 (by decide) ?_
            exact ih_loop (upd rm rc (nI v)) (rc + 1) (-1) R H locs ls (by omega) (by omega) (by first | exact Or.inl rfl | exact j_next_c ow n _ n 0 (by omega)) hF hP hD hS (lv_sub hl [2, 3, 0] rfl)
  exact loop (20 + 1) rm 0 (j_frim ow n 0) R _ _ ls (by omega) (by omega) (j_frim_c ow n n 0 (by omega)) hR hP hD hS (lv_sub hl [2, 1, 0] rfl)
set_option maxHeartbeats 4000000 in
set_option maxRecDepth 100000 in
theorem c_X1_build (l : Launch) (dC : Nat → ClassId) (dI : Nat → Nat → Nat) (m0 s0 g0 ra sa oa ma : Nat) (cI : ClassId) (xa ya : Nat) (rc : Int32) (x y : Nat → Int32) (fx fy : Int32) (ax ay sp : Int64) (rg sr : Nat → Nat) (ow rm : Nat → Int32) (cc : Int32) (n : Nat) (ln : n ≤ 20) (lr : ∀ j, rg j < 20) (ls0 : sr 0 = 0) (R : ((Int32 × Int32 × Int64 × Int64 × Int64) × (Nat → Nat) × (Nat → Nat) × (Nat → Int32) × Nat) × (Nat → Int32) × Nat) (hR : j_tail rm n (j_ba x y n ((fx, fy, ax, ay, sp), rg, sr, j_fill (-1) 400 ow 0, 0) 0) = R) : Met l yX1_build wsX1_build ({ frames := 4, cells := 0, slots := 0, locals := 95 }) (q_Pm (dC, dI) [.ref m0] [(m0, .inr (1, [.ref s0, .ref g0, .ref ra, .ref sa, .ref oa, .int cc, .ref ma, .int rc])), (g0, .inr (0, [.int fx, .int fy, .long ax, .long ay, .long sp])), (s0, .inr (2, [.ref xa, .ref ya, .int (nI n)])), (xa, .inl (cI, 20, .inl x)), (ya, .inl (cI, 20, .inl y)), (ra, .inl (cI, 105, .inl (fun j9 => nI (rg j9)))), (sa, .inl (cI, 36, .inl (fun j9 => nI (sr j9)))), (oa, .inl (cI, 400, .inl ow)), (ma, .inl (cI, 20, .inl rm))] [(cI, .int)]) (q_Qm (dC, dI) (q_in [(m0, .inr (1, [.ref s0, .ref g0, .ref ra, .ref sa, .ref oa, .int cc, .ref ma, .int rc])), (g0, .inr (0, [.int fx, .int fy, .long ax, .long ay, .long sp])), (s0, .inr (2, [.ref xa, .ref ya, .int (nI n)])), (xa, .inl (cI, 20, .inl x)), (ya, .inl (cI, 20, .inl y)), (ra, .inl (cI, 105, .inl (fun j9 => nI (rg j9)))), (sa, .inl (cI, 36, .inl (fun j9 => nI (sr j9)))), (oa, .inl (cI, 400, .inl ow)), (ma, .inl (cI, 20, .inl rm))]) none [(m0, .inr (1, [.ref s0, .ref g0, .ref ra, .ref sa, .ref oa, .int (nI R.1.2.2.2.2), .ref ma, .int (nI R.2.2)])), (g0, .inr (0, [.int R.1.1.1, .int R.1.1.2.1, .long R.1.1.2.2.1, .long R.1.1.2.2.2.1, .long R.1.1.2.2.2.2])), (s0, .inr (2, [.ref xa, .ref ya, .int (nI n)])), (xa, .inl (cI, 20, .inl x)), (ya, .inl (cI, 20, .inl y)), (ra, .inl (cI, 105, .inl (fun j9 => nI (R.1.2.1 j9)))), (sa, .inl (cI, 36, .inl (fun j9 => nI (R.1.2.2.1 j9)))), (oa, .inl (cI, 400, .inl R.1.2.2.2.1)), (ma, .inl (cI, 20, .inl R.2.1))]) 0 0 (q_in [(m0, .inr (1, [.ref s0, .ref g0, .ref ra, .ref sa, .ref oa, .int cc, .ref ma, .int rc])), (g0, .inr (0, [.int fx, .int fy, .long ax, .long ay, .long sp])), (s0, .inr (2, [.ref xa, .ref ya, .int (nI n)])), (xa, .inl (cI, 20, .inl x)), (ya, .inl (cI, 20, .inl y)), (ra, .inl (cI, 105, .inl (fun j9 => nI (rg j9)))), (sa, .inl (cI, 36, .inl (fun j9 => nI (sr j9)))), (oa, .inl (cI, 400, .inl ow)), (ma, .inl (cI, 20, .inl rm))]) := by
  refine Met.ofW (cc := cX1_build) (maxL := 3) (ret := none) (by decide) rfl ?_
  intro p e s m args below meth c s₁ B hml hv
  obtain ⟨rfl, hP, hK, hD0⟩ := hv
  have hx := B.exec
  have hb := B.bytes
  have hr := B.returns
  have hts := atoms_spec (ws := wsX1_build) B.pre
  have hown : s.vm.findClass RX1 = some m.cls := findClass_of_methodNamed B.named
  have hlocks := B.notSynchronized
  have hD := q_inD hD0
  generalize hAe : q_in [(m0, .inr (1, [.ref s0, .ref g0, .ref ra, .ref sa, .ref oa, .int cc, .ref ma, .int rc])), (g0, .inr (0, [.int fx, .int fy, .long ax, .long ay, .long sp])), (s0, .inr (2, [.ref xa, .ref ya, .int (nI n)])), (xa, .inl (cI, 20, .inl x)), (ya, .inl (cI, 20, .inl y)), (ra, .inl (cI, 105, .inl (fun j9 => nI (rg j9)))), (sa, .inl (cI, 36, .inl (fun j9 => nI (sr j9)))), (oa, .inl (cI, 400, .inl ow)), (ma, .inl (cI, 20, .inl rm))] = A at hD ⊢
  have hS : va_S A s.heap s.heap [] := va_S.rf
  have hP : va_P (dC, dI) vwCl [(m0, .inr (1, [.ref s0, .ref g0, .ref ra, .ref sa, .ref oa, .int cc, .ref ma, .int rc])), (g0, .inr (0, [.int fx, .int fy, .long ax, .long ay, .long sp])), (s0, .inr (2, [.ref xa, .ref ya, .int (nI n)])), (xa, .inl (cI, 20, .inl x)), (ya, .inl (cI, 20, .inl y)), (ra, .inl (cI, 105, .inl (fun j9 => nI (rg j9)))), (sa, .inl (cI, 36, .inl (fun j9 => nI (sr j9)))), (oa, .inl (cI, 400, .inl ow)), (ma, .inl (cI, 20, .inl rm))] s.heap := hP
  have hl := lv_entry ([.ref m0]) (n := 3) (Nat.le_of_ble_eq_true rfl)
  rw [lg_entry_eq]
  generalize (lg_sl ([.ref m0]) ++ List.replicate (3 - (lg_sl ([.ref m0])).length) Slot.unset).toArray = ls at hl ⊢
  have hl : lv_has ls 3 [(0, .ref m0)] := hl
  refine lv_aload_n hx hb dX1_build_0 rfl (lv_at hl 0 rfl) ?_
  refine lv_iconst (v := nI 0) hx hb dX1_build_1 (by decide) ?_
  refine va_put (D := (dC, dI)) (ci := 1) (v := .int (nI 0)) (ty := .int) (C := RX1) (T := TX1) (N := 8) hx hb hts (by decide +kernel) tyX1 tyX1_ok nmX1 hown hK hP hD hS 0 rfl rfl 5 (by decide) (hts (.fieldLink RX1 28 "CircleCells$Mosaic" "cellCount" "I") (by decide +kernel)) (fun _ h9 => h9) rfl (by decide +kernel) rfl rfl (Nat.le_of_ble_eq_true rfl) dX1_build_2 (fun H locs hP hD hS => ?_)
  have hP : va_P (dC, dI) vwCl [(m0, .inr (1, [.ref s0, .ref g0, .ref ra, .ref sa, .ref oa, .int (nI 0), .ref ma, .int rc])), (g0, .inr (0, [.int fx, .int fy, .long ax, .long ay, .long sp])), (s0, .inr (2, [.ref xa, .ref ya, .int (nI n)])), (xa, .inl (cI, 20, .inl x)), (ya, .inl (cI, 20, .inl y)), (ra, .inl (cI, 105, .inl (fun j9 => nI (rg j9)))), (sa, .inl (cI, 36, .inl (fun j9 => nI (sr j9)))), (oa, .inl (cI, 400, .inl ow)), (ma, .inl (cI, 20, .inl rm))] H := hP
  have hD : va_D A [(m0, .inr (1, [.ref s0, .ref g0, .ref ra, .ref sa, .ref oa, .int (nI 0), .ref ma, .int rc])), (g0, .inr (0, [.int fx, .int fy, .long ax, .long ay, .long sp])), (s0, .inr (2, [.ref xa, .ref ya, .int (nI n)])), (xa, .inl (cI, 20, .inl x)), (ya, .inl (cI, 20, .inl y)), (ra, .inl (cI, 105, .inl (fun j9 => nI (rg j9)))), (sa, .inl (cI, 36, .inl (fun j9 => nI (sr j9)))), (oa, .inl (cI, 400, .inl ow)), (ma, .inl (cI, 20, .inl rm))] := hD
  refine lv_aload_n hx hb dX1_build_5 rfl (lv_at hl 0 rfl) ?_
  refine va_get (D := (dC, dI)) (ci := 1) (v := .ref oa) (C := RX1) (T := TX1) (N := 8) hx hb hts (by decide +kernel) hown hK hP 0 rfl rfl 4 (by decide) (hts (.fieldLink RX1 25 "CircleCells$Mosaic" "owner" "[I") (by decide +kernel)) (fun _ h9 => h9) rfl dX1_build_6 ?_
  refine lv_iconst (v := (-1)) hx hb dX1_build_9 (by decide) ?_
  obtain ⟨o1, ho1⟩ : ∃ r : Nat → Int32, j_fill (-1) 400 ow 0 = r := ⟨_, rfl⟩
  refine q_mS (wc' := [(oa, .inl (cI, 400, .inl o1))]) (wsN := [(m0, .inr (1, [.ref s0, .ref g0, .ref ra, .ref sa, .ref oa, .int (nI 0), .ref ma, .int rc])), (g0, .inr (0, [.int fx, .int fy, .long ax, .long ay, .long sp])), (s0, .inr (2, [.ref xa, .ref ya, .int (nI n)])), (xa, .inl (cI, 20, .inl x)), (ya, .inl (cI, 20, .inl y)), (ra, .inl (cI, 105, .inl (fun j9 => nI (rg j9)))), (sa, .inl (cI, 36, .inl (fun j9 => nI (sr j9)))), (oa, .inl (cI, 400, .inl o1)), (ma, .inl (cI, 20, .inl rm))]) (As := [.ref oa, .int (-1)]) (rest := []) ⟨hx, hb, hml, hown, hts⟩ (c_J7_fill_53178 l dC dI oa cI 400 ow (-1) (by decide) o1 ho1) (va_cwS 2 hts gX1_build_J7_fill_53178 rfl rfl rfl (by decide +kernel) ⟨Nat.le_of_ble_eq_true rfl, Nat.le_of_ble_eq_true rfl⟩) hK hP hD hS [7] [0] rfl rfl rfl rfl rfl rfl hl.1 rfl (Nat.le_of_ble_eq_true rfl) ⟨Nat.zero_le _, Nat.zero_le _⟩ dX1_build_10 rfl (fun H locs hP hD hS => ?_)
  refine W.eq (g2 := F0 m 13 ls []) rfl ?_
  rw [ho1] at hR
  refine lv_iconst (v := nI 0) hx hb dX1_build_13 (by decide) ?_
  refine lv_istore_n (lv' := [(1, .int (nI 0)), (0, .ref m0)]) hx hb dX1_build_14 rfl hl (by decide) rfl (fun ls hl => ?_)
  have loopA : ∀ (f : Nat) (z : (Int32 × Int32 × Int64 × Int64 × Int64) × (Nat → Nat) × (Nat → Nat) × (Nat → Int32) × Nat) (a : Nat) (R : ((Int32 × Int32 × Int64 × Int64 × Int64) × (Nat → Nat) × (Nat → Nat) × (Nat → Int32) × Nat) × (Nat → Int32) × Nat) (H : Heap) (locs : List Loc) (ls : Array Slot), (a ≤ n) → (n + 1 ≤ a + f) → (j_ok z.2) → j_tail rm n (j_ba x y n z a) = R → va_P (dC, dI) vwCl [(m0, .inr (1, [.ref s0, .ref g0, .ref ra, .ref sa, .ref oa, .int (nI z.2.2.2.2), .ref ma, .int rc])), (g0, .inr (0, [.int z.1.1, .int z.1.2.1, .long z.1.2.2.1, .long z.1.2.2.2.1, .long z.1.2.2.2.2])), (s0, .inr (2, [.ref xa, .ref ya, .int (nI n)])), (xa, .inl (cI, 20, .inl x)), (ya, .inl (cI, 20, .inl y)), (ra, .inl (cI, 105, .inl (fun j9 => nI (z.2.1 j9)))), (sa, .inl (cI, 36, .inl (fun j9 => nI (z.2.2.1 j9)))), (oa, .inl (cI, 400, .inl z.2.2.2.1)), (ma, .inl (cI, 20, .inl rm))] H → va_D A [(m0, .inr (1, [.ref s0, .ref g0, .ref ra, .ref sa, .ref oa, .int (nI z.2.2.2.2), .ref ma, .int rc])), (g0, .inr (0, [.int z.1.1, .int z.1.2.1, .long z.1.2.2.1, .long z.1.2.2.2.1, .long z.1.2.2.2.2])), (s0, .inr (2, [.ref xa, .ref ya, .int (nI n)])), (xa, .inl (cI, 20, .inl x)), (ya, .inl (cI, 20, .inl y)), (ra, .inl (cI, 105, .inl (fun j9 => nI (z.2.1 j9)))), (sa, .inl (cI, 36, .inl (fun j9 => nI (z.2.2.1 j9)))), (oa, .inl (cI, 400, .inl z.2.2.2.1)), (ma, .inl (cI, 20, .inl rm))] → va_S A s.heap H locs → lv_has ls 3 [(0, .ref m0), (1, .int (nI a))] → W p l e (headSpec wsX1_build ({ frames := 4, cells := 0, slots := 0, locals := 95 })).room s m ([.ref m0] : List Value).toArray below meth c H locs 0 0 (MQ below (q_Qm (dC, dI) A none [(m0, .inr (1, [.ref s0, .ref g0, .ref ra, .ref sa, .ref oa, .int (nI R.1.2.2.2.2), .ref ma, .int (nI R.2.2)])), (g0, .inr (0, [.int R.1.1.1, .int R.1.1.2.1, .long R.1.1.2.2.1, .long R.1.1.2.2.2.1, .long R.1.1.2.2.2.2])), (s0, .inr (2, [.ref xa, .ref ya, .int (nI n)])), (xa, .inl (cI, 20, .inl x)), (ya, .inl (cI, 20, .inl y)), (ra, .inl (cI, 105, .inl (fun j9 => nI (R.1.2.1 j9)))), (sa, .inl (cI, 36, .inl (fun j9 => nI (R.1.2.2.1 j9)))), (oa, .inl (cI, 400, .inl R.1.2.2.2.1)), (ma, .inl (cI, 20, .inl R.2.1))]) ([.ref m0] : List Value).toArray s 0 0 A) (F0 m 15 ls []) := by
    intro f
    induction f with
    | zero =>
      intro z a R H locs ls h1 h2 hk
      omega
    | succ f ih_loopA =>
      intro z a R H locs ls h1 h2 hk hF hP hD hS hl
      refine lv_iload_n hx hb dX1_build_15 rfl (lv_at hl 1 rfl) ?_
      refine lv_aload_n hx hb dX1_build_16 rfl (lv_at hl 0 rfl) ?_
      refine va_get (D := (dC, dI)) (ci := 1) (v := .ref s0) (C := RX1) (T := TX1) (N := 8) hx hb hts (by decide +kernel) hown hK hP 0 rfl rfl 0 (by decide) (hts (.fieldLink RX1 38 "CircleCells$Mosaic" "sites" "LCircleCells$Sites;") (by decide +kernel)) (fun _ h9 => h9) rfl dX1_build_17 ?_
      refine va_get (D := (dC, dI)) (ci := 2) (v := .int (nI n)) (C := RX2) (T := TX2) (N := 3) hx hb hts (by decide +kernel) hown hK hP 2 rfl rfl 2 (by decide) (hts (.fieldLink RX1 48 "CircleCells$Sites" "size" "I") (by decide +kernel)) (fun _ h9 => h9) rfl dX1_build_20 ?_
      refine q_icmp_ge (tgt := 76) (by omega) (by omega) hx hb dX1_build_23 (by decide) (fun c23 => ?_) (fun c23 => ?_)
      · rw [j_ba, if_neg (by omega)] at hF
        refine lv_aload_n hx hb dX1_build_76 rfl (lv_at hl 0 rfl) ?_
        obtain ⟨r5, hr5⟩ : ∃ r : (Nat → Int32) × Nat, j_rim z.2.2.2.1 n (j_frim z.2.2.2.1 n 0) rm 0 (j_frim z.2.2.2.1 n 0) = r := ⟨_, rfl⟩
        refine q_mV (wc' := [(m0, .inr (1, [.ref s0, .ref g0, .ref ra, .ref sa, .ref oa, .int (nI z.2.2.2.2), .ref ma, .int (nI r5.2)])), (ma, .inl (cI, 20, .inl r5.1)), (oa, .inl (cI, 400, .inl z.2.2.2.1)), (s0, .inr (2, [.ref xa, .ref ya, .int (nI n)]))]) (wsN := [(m0, .inr (1, [.ref s0, .ref g0, .ref ra, .ref sa, .ref oa, .int (nI z.2.2.2.2), .ref ma, .int (nI r5.2)])), (g0, .inr (0, [.int z.1.1, .int z.1.2.1, .long z.1.2.2.1, .long z.1.2.2.2.1, .long z.1.2.2.2.2])), (s0, .inr (2, [.ref xa, .ref ya, .int (nI n)])), (xa, .inl (cI, 20, .inl x)), (ya, .inl (cI, 20, .inl y)), (ra, .inl (cI, 105, .inl (fun j9 => nI (z.2.1 j9)))), (sa, .inl (cI, 36, .inl (fun j9 => nI (z.2.2.1 j9)))), (oa, .inl (cI, 400, .inl z.2.2.2.1)), (ma, .inl (cI, 20, .inl r5.1))]) (As := []) (rest := []) ⟨hx, hb, hml, hown, hts⟩ (c_X1_walkRim l dC dI m0 s0 g0 ra sa oa ma cI xa ya (nI z.2.2.2.2) rc (by omega) (by omega) z.2.2.2.1 rm n (by omega) r5 hr5) (cwV 0 hts gX1_build_X1_walkRim rfl rfl rfl (by decide +kernel) ⟨Nat.le_of_ble_eq_true rfl, Nat.le_of_ble_eq_true rfl⟩) hK hP hD hS [0, 8, 7, 2] [0] 1 0 rfl rfl rfl rfl rfl rfl rfl rfl rfl hl.1 rfl (Nat.le_of_ble_eq_true rfl) ⟨Nat.zero_le _, Nat.zero_le _⟩ dX1_build_77 rfl (fun H locs hP hD hS => ?_)
        refine W.eq (g2 := F0 m 80 ls []) rfl ?_
        have hF : (z, j_rim z.2.2.2.1 n (j_frim z.2.2.2.1 n 0) rm 0 (j_frim z.2.2.2.1 n 0)) = R := hF
        rw [hr5] at hF
        subst hF
        exact W.vret hx hb hr (q_retm hP hS) hS.2.2 dX1_build_80
      · rw [j_ba, if_pos c23] at hF
        refine lv_iload_n hx hb dX1_build_26 rfl (lv_at hl 1 rfl) ?_
        refine lv_iconst (v := nI 1) hx hb dX1_build_27 (by decide) ?_
        refine q_iadd hx hb dX1_build_28 ?_
        refine lv_istore_n (lv' := [(2, .int (nI (a + 1))), (0, .ref m0), (1, .int (nI a))]) hx hb dX1_build_29 rfl hl (by decide) rfl (fun ls hl => ?_)
        have loopB : ∀ (f : Nat) (z : (Int32 × Int32 × Int64 × Int64 × Int64) × (Nat → Nat) × (Nat → Nat) × (Nat → Int32) × Nat) (b : Nat) (R : ((Int32 × Int32 × Int64 × Int64 × Int64) × (Nat → Nat) × (Nat → Nat) × (Nat → Int32) × Nat) × (Nat → Int32) × Nat) (H : Heap) (locs : List Loc) (ls : Array Slot), (b ≤ n) → (n + 1 ≤ b + f) → (j_ok z.2) → j_tail rm n (j_ba x y n (j_bb x y n a z b) (a + 1)) = R → va_P (dC, dI) vwCl [(m0, .inr (1, [.ref s0, .ref g0, .ref ra, .ref sa, .ref oa, .int (nI z.2.2.2.2), .ref ma, .int rc])), (g0, .inr (0, [.int z.1.1, .int z.1.2.1, .long z.1.2.2.1, .long z.1.2.2.2.1, .long z.1.2.2.2.2])), (s0, .inr (2, [.ref xa, .ref ya, .int (nI n)])), (xa, .inl (cI, 20, .inl x)), (ya, .inl (cI, 20, .inl y)), (ra, .inl (cI, 105, .inl (fun j9 => nI (z.2.1 j9)))), (sa, .inl (cI, 36, .inl (fun j9 => nI (z.2.2.1 j9)))), (oa, .inl (cI, 400, .inl z.2.2.2.1)), (ma, .inl (cI, 20, .inl rm))] H → va_D A [(m0, .inr (1, [.ref s0, .ref g0, .ref ra, .ref sa, .ref oa, .int (nI z.2.2.2.2), .ref ma, .int rc])), (g0, .inr (0, [.int z.1.1, .int z.1.2.1, .long z.1.2.2.1, .long z.1.2.2.2.1, .long z.1.2.2.2.2])), (s0, .inr (2, [.ref xa, .ref ya, .int (nI n)])), (xa, .inl (cI, 20, .inl x)), (ya, .inl (cI, 20, .inl y)), (ra, .inl (cI, 105, .inl (fun j9 => nI (z.2.1 j9)))), (sa, .inl (cI, 36, .inl (fun j9 => nI (z.2.2.1 j9)))), (oa, .inl (cI, 400, .inl z.2.2.2.1)), (ma, .inl (cI, 20, .inl rm))] → va_S A s.heap H locs → lv_has ls 3 [(0, .ref m0), (1, .int (nI a)), (2, .int (nI b))] → W p l e (headSpec wsX1_build ({ frames := 4, cells := 0, slots := 0, locals := 95 })).room s m ([.ref m0] : List Value).toArray below meth c H locs 0 0 (MQ below (q_Qm (dC, dI) A none [(m0, .inr (1, [.ref s0, .ref g0, .ref ra, .ref sa, .ref oa, .int (nI R.1.2.2.2.2), .ref ma, .int (nI R.2.2)])), (g0, .inr (0, [.int R.1.1.1, .int R.1.1.2.1, .long R.1.1.2.2.1, .long R.1.1.2.2.2.1, .long R.1.1.2.2.2.2])), (s0, .inr (2, [.ref xa, .ref ya, .int (nI n)])), (xa, .inl (cI, 20, .inl x)), (ya, .inl (cI, 20, .inl y)), (ra, .inl (cI, 105, .inl (fun j9 => nI (R.1.2.1 j9)))), (sa, .inl (cI, 36, .inl (fun j9 => nI (R.1.2.2.1 j9)))), (oa, .inl (cI, 400, .inl R.1.2.2.2.1)), (ma, .inl (cI, 20, .inl R.2.1))]) ([.ref m0] : List Value).toArray s 0 0 A) (F0 m 30 ls []) := by
          intro f
          induction f with
          | zero =>
            intro z b R H locs ls h3 h4 hk
            omega
          | succ f ih_loopB =>
            intro z b R H locs ls h3 h4 hk hF hP hD hS hl
            refine lv_iload_n hx hb dX1_build_30 rfl (lv_at hl 2 rfl) ?_
            refine lv_aload_n hx hb dX1_build_31 rfl (lv_at hl 0 rfl) ?_
            refine va_get (D := (dC, dI)) (ci := 1) (v := .ref s0) (C := RX1) (T := TX1) (N := 8) hx hb hts (by decide +kernel) hown hK hP 0 rfl rfl 0 (by decide) (hts (.fieldLink RX1 38 "CircleCells$Mosaic" "sites" "LCircleCells$Sites;") (by decide +kernel)) (fun _ h9 => h9) rfl dX1_build_32 ?_
            refine va_get (D := (dC, dI)) (ci := 2) (v := .int (nI n)) (C := RX2) (T := TX2) (N := 3) hx hb hts (by decide +kernel) hown hK hP 2 rfl rfl 2 (by decide) (hts (.fieldLink RX1 48 "CircleCells$Sites" "size" "I") (by decide +kernel)) (fun _ h9 => h9) rfl dX1_build_35 ?_
            refine q_icmp_ge (tgt := 70) (by omega) (by omega) hx hb dX1_build_38 (by decide) (fun c38 => ?_) (fun c38 => ?_)
            · rw [j_bb, if_neg (by omega)] at hF
              refine lv_iinc (v := nI (a + 1)) (lv' := [(1, .int (nI (a + 1))), (0, .ref m0), (2, .int (nI b))]) hx hb dX1_build_70 hl (k := 1) rfl (by rw [show Int32.ofInt 1 = 1 from rfl]; exact nI_1 _) (by decide) rfl (fun ls hl => ?_)
              refine lv_goto (tgt := 15) hx hb dX1_build_73 (by decide) ?_
              exact ih_loopA z (a + 1) R H locs ls (by omega) (by omega) hk hF hP hD hS (lv_sub hl [1, 0] rfl)
            · rw [j_bb, if_pos c38] at hF
              refine lv_aload_n hx hb dX1_build_41 rfl (lv_at hl 0 rfl) ?_
              refine lv_iload_n hx hb dX1_build_42 rfl (lv_at hl 1 rfl) ?_
              refine lv_iload_n hx hb dX1_build_43 rfl (lv_at hl 2 rfl) ?_
              obtain ⟨r1, hr1⟩ : ∃ r : Bool × Int32 × Int32 × Int64 × Int64 × Int64, j_left x y n a b false (z.1.1, z.1.2.1, z.1.2.2.1, z.1.2.2.2.1, z.1.2.2.2.2) 0 = r := ⟨_, rfl⟩
              refine q_mV (wc' := [(m0, .inr (1, [.ref s0, .ref g0, .ref ra, .ref sa, .ref oa, .int (nI z.2.2.2.2), .ref ma, .int rc])), (g0, .inr (0, [.int r1.2.1, .int r1.2.2.1, .long r1.2.2.2.1, .long r1.2.2.2.2.1, .long r1.2.2.2.2.2])), (s0, .inr (2, [.ref xa, .ref ya, .int (nI n)])), (xa, .inl (cI, 20, .inl x)), (ya, .inl (cI, 20, .inl y))]) (wsN := [(m0, .inr (1, [.ref s0, .ref g0, .ref ra, .ref sa, .ref oa, .int (nI z.2.2.2.2), .ref ma, .int rc])), (g0, .inr (0, [.int r1.2.1, .int r1.2.2.1, .long r1.2.2.2.1, .long r1.2.2.2.2.1, .long r1.2.2.2.2.2])), (s0, .inr (2, [.ref xa, .ref ya, .int (nI n)])), (xa, .inl (cI, 20, .inl x)), (ya, .inl (cI, 20, .inl y)), (ra, .inl (cI, 105, .inl (fun j9 => nI (z.2.1 j9)))), (sa, .inl (cI, 36, .inl (fun j9 => nI (z.2.2.1 j9)))), (oa, .inl (cI, 400, .inl z.2.2.2.1)), (ma, .inl (cI, 20, .inl rm))]) (As := [.int (nI a), .int (nI b)]) (rest := []) ⟨hx, hb, hml, hown, hts⟩ (c_X1_layLeftOf l dC dI m0 s0 g0 ra sa oa ma cI xa ya (nI z.2.2.2.2) rc x y z.1.1 z.1.2.1 z.1.2.2.1 z.1.2.2.2.1 z.1.2.2.2.2 n a b (by omega) (by omega) (by omega) r1 hr1) (cwV 2 hts gX1_build_X1_layLeftOf rfl rfl rfl (by decide +kernel) ⟨Nat.le_of_ble_eq_true rfl, Nat.le_of_ble_eq_true rfl⟩) hK hP hD hS [0, 1, 2, 3, 4] [0] 1 0 rfl rfl rfl rfl rfl rfl rfl rfl rfl hl.1 rfl (Nat.le_of_ble_eq_true rfl) ⟨Nat.zero_le _, Nat.zero_le _⟩ dX1_build_44 rfl (fun H locs hP hD hS => ?_)
              refine W.eq (g2 := F0 m 47 ls [.int (bI r1.1)]) rfl ?_
              have hr1 : j_left x y n a b false z.1 0 = r1 := hr1
              rw [j_step, hr1] at hF
              refine q_ifb_eq (tgt := 64) hx hb dX1_build_47 (by decide) (fun c47 => ?_) (fun c47 => ?_)
              · rw [if_pos c47] at hF
                refine lv_iinc (v := nI (b + 1)) (lv' := [(2, .int (nI (b + 1))), (0, .ref m0), (1, .int (nI a))]) hx hb dX1_build_64 hl (k := 2) rfl (by rw [show Int32.ofInt 1 = 1 from rfl]; exact nI_1 _) (by decide) rfl (fun ls hl => ?_)
                refine lv_goto (tgt := 30) hx hb dX1_build_67 (by decide) ?_
                exact ih_loopB (r1.2, z.2) (b + 1) R H locs ls (by omega) (by omega) (by first | exact hk | (rw [← hr2]; exact j_add_ok ln hk)) hF hP hD hS (lv_sub hl [1, 2, 0] rfl)
              · rw [if_neg (by rw [c47]; decide)] at hF
                refine lv_aload_n hx hb dX1_build_50 rfl (lv_at hl 0 rfl) ?_
                refine lv_iload_n hx hb dX1_build_51 rfl (lv_at hl 1 rfl) ?_
                refine lv_iload_n hx hb dX1_build_52 rfl (lv_at hl 2 rfl) ?_
                refine q_cV (As := [.int (nI a), .int (nI b)]) (rest := []) ⟨hx, hb, hml, hown, hts⟩ (c_X1_beginsCell l dC dI m0 s0 g0 ra sa oa ma cI xa ya (nI z.2.2.2.2) rc x y r1.2.1 r1.2.2.1 r1.2.2.2.1 r1.2.2.2.2.1 r1.2.2.2.2.2 n a b (by omega) (by omega) (by omega)) (cwV 2 hts gX1_build_X1_beginsCell rfl rfl rfl (by decide +kernel) ⟨Nat.le_of_ble_eq_true rfl, Nat.le_of_ble_eq_true rfl⟩) (q_pV hK hP [0, 1, 2, 3, 4] [0] 1 0 rfl rfl rfl rfl rfl rfl) rfl hl.1 rfl (Nat.le_of_ble_eq_true rfl) ⟨Nat.zero_le _, Nat.zero_le _⟩ dX1_build_53 ?_
                refine q_ifb_eq (tgt := 64) hx hb dX1_build_56 (by decide) (fun c56 => ?_) (fun c56 => ?_)
                · rw [if_pos c56] at hF
                  refine lv_iinc (v := nI (b + 1)) (lv' := [(2, .int (nI (b + 1))), (0, .ref m0), (1, .int (nI a))]) hx hb dX1_build_64 hl (k := 2) rfl (by rw [show Int32.ofInt 1 = 1 from rfl]; exact nI_1 _) (by decide) rfl (fun ls hl => ?_)
                  refine lv_goto (tgt := 30) hx hb dX1_build_67 (by decide) ?_
                  exact ih_loopB (r1.2, z.2) (b + 1) R H locs ls (by omega) (by omega) (by first | exact hk | (rw [← hr2]; exact j_add_ok ln hk)) hF hP hD hS (lv_sub hl [1, 2, 0] rfl)
                · rw [if_neg (by rw [c56]; decide)] at hF
                  refine lv_aload_n hx hb dX1_build_59 rfl (lv_at hl 0 rfl) ?_
                  refine lv_iload_n hx hb dX1_build_60 rfl (lv_at hl 1 rfl) ?_
                  obtain ⟨r2, hr2⟩ : ∃ r : (Nat → Nat) × (Nat → Nat) × (Nat → Int32) × Nat, j_add x y (r1.2.1, r1.2.2.1, r1.2.2.2.1, r1.2.2.2.2.1, r1.2.2.2.2.2) n a z.2.1 z.2.2.1 z.2.2.2.1 z.2.2.2.2 = r := ⟨_, rfl⟩
                  refine q_mV (wc' := [(m0, .inr (1, [.ref s0, .ref g0, .ref ra, .ref sa, .ref oa, .int (nI r2.2.2.2), .ref ma, .int rc])), (g0, .inr (0, [.int r1.2.1, .int r1.2.2.1, .long r1.2.2.2.1, .long r1.2.2.2.2.1, .long r1.2.2.2.2.2])), (s0, .inr (2, [.ref xa, .ref ya, .int (nI n)])), (xa, .inl (cI, 20, .inl x)), (ya, .inl (cI, 20, .inl y)), (ra, .inl (cI, 105, .inl (fun j9 => nI (r2.1 j9)))), (sa, .inl (cI, 36, .inl (fun j9 => nI (r2.2.1 j9)))), (oa, .inl (cI, 400, .inl r2.2.2.1))]) (wsN := [(m0, .inr (1, [.ref s0, .ref g0, .ref ra, .ref sa, .ref oa, .int (nI r2.2.2.2), .ref ma, .int rc])), (g0, .inr (0, [.int r1.2.1, .int r1.2.2.1, .long r1.2.2.2.1, .long r1.2.2.2.2.1, .long r1.2.2.2.2.2])), (s0, .inr (2, [.ref xa, .ref ya, .int (nI n)])), (xa, .inl (cI, 20, .inl x)), (ya, .inl (cI, 20, .inl y)), (ra, .inl (cI, 105, .inl (fun j9 => nI (r2.1 j9)))), (sa, .inl (cI, 36, .inl (fun j9 => nI (r2.2.1 j9)))), (oa, .inl (cI, 400, .inl r2.2.2.1)), (ma, .inl (cI, 20, .inl rm))]) (As := [.int (nI a)]) (rest := []) ⟨hx, hb, hml, hown, hts⟩ (c_X1_addCell l dC dI m0 s0 g0 ra sa oa ma cI xa ya rc x y r1.2.1 r1.2.2.1 r1.2.2.2.1 r1.2.2.2.2.1 r1.2.2.2.2.2 z.2.1 z.2.2.1 z.2.2.2.1 z.2.2.2.2 n a (by omega) (by omega) hk.2.2 hk.2.1 hk.1 r2 hr2) (cwV 1 hts gX1_build_X1_addCell rfl rfl rfl (by decide +kernel) ⟨Nat.le_of_ble_eq_true rfl, Nat.le_of_ble_eq_true rfl⟩) hK hP hD hS [0, 1, 2, 3, 4, 5, 6, 7] [0] 1 0 rfl rfl rfl rfl rfl rfl rfl rfl rfl hl.1 rfl (Nat.le_of_ble_eq_true rfl) ⟨Nat.zero_le _, Nat.zero_le _⟩ dX1_build_61 rfl (fun H locs hP hD hS => ?_)
                  refine W.eq (g2 := F0 m 64 ls []) rfl ?_
                  have hr2 : j_add x y r1.2 n a z.2.1 z.2.2.1 z.2.2.2.1 z.2.2.2.2 = r2 := hr2
                  rw [hr2] at hF
                  refine lv_iinc (v := nI (b + 1)) (lv' := [(2, .int (nI (b + 1))), (0, .ref m0), (1, .int (nI a))]) hx hb dX1_build_64 hl (k := 2) rfl (by rw [show Int32.ofInt 1 = 1 from rfl]; exact nI_1 _) (by decide) rfl (fun ls hl => ?_)
                  refine lv_goto (tgt := 30) hx hb dX1_build_67 (by decide) ?_
                  exact ih_loopB (r1.2, r2) (b + 1) R H locs ls (by omega) (by omega) (by first | exact hk | (rw [← hr2]; exact j_add_ok ln hk)) hF hP hD hS (lv_sub hl [1, 2, 0] rfl)
        exact loopB (n + 1) z (a + 1) R _ _ ls (by omega) (by omega) hk hF hP hD hS (lv_sub hl [1, 2, 0] rfl)
  exact loopA (n + 1) ((fx, fy, ax, ay, sp), rg, sr, o1, 0) 0 R _ _ ls (by omega) (by omega) ⟨lr, Nat.zero_le 35, by show sr 0 ≤ 105; omega⟩ hR hP hD hS (lv_sub hl [1, 0] rfl)
set_option maxHeartbeats 4000000 in
set_option maxRecDepth 100000 in
theorem c_X1_circleOf (l : Launch) (dC : Nat → ClassId) (dI : Nat → Nat → Nat) (m0 s0 g0 ra sa oa ma : Nat) (cI : ClassId) (xa ya : Nat) (sz cc rc : Int32) (x y : Nat → Int32) (fx fy : Int32) (ax ay sp : Int64) (rg sr : Nat → Nat) (d : Nat) (ld : d < 35) (l3 : sr d + 2 < 105) (lr : ∀ j, rg j < 20) (R : Int32 × Int32 × Int64 × Int64 × Int64) (hR : j_lay x y (rg (sr d + 0)) (rg (sr d + 1)) (rg (sr d + 2)) = R) : Met l yX1_circleOf wsX1_circleOf ({ frames := 1, cells := 0, slots := 0, locals := 36 }) (q_Pm (dC, dI) [.ref m0, .int (nI d)] [(m0, .inr (1, [.ref s0, .ref g0, .ref ra, .ref sa, .ref oa, .int cc, .ref ma, .int rc])), (g0, .inr (0, [.int fx, .int fy, .long ax, .long ay, .long sp])), (s0, .inr (2, [.ref xa, .ref ya, .int sz])), (xa, .inl (cI, 20, .inl x)), (ya, .inl (cI, 20, .inl y)), (ra, .inl (cI, 105, .inl (fun j9 => nI (rg j9)))), (sa, .inl (cI, 36, .inl (fun j9 => nI (sr j9))))] [(cI, .int)]) (q_Qm (dC, dI) (q_in [(m0, .inr (1, [.ref s0, .ref g0, .ref ra, .ref sa, .ref oa, .int cc, .ref ma, .int rc])), (g0, .inr (0, [.int fx, .int fy, .long ax, .long ay, .long sp])), (s0, .inr (2, [.ref xa, .ref ya, .int sz])), (xa, .inl (cI, 20, .inl x)), (ya, .inl (cI, 20, .inl y)), (ra, .inl (cI, 105, .inl (fun j9 => nI (rg j9)))), (sa, .inl (cI, 36, .inl (fun j9 => nI (sr j9))))]) (some (.ref g0)) [(m0, .inr (1, [.ref s0, .ref g0, .ref ra, .ref sa, .ref oa, .int cc, .ref ma, .int rc])), (g0, .inr (0, [.int R.1, .int R.2.1, .long R.2.2.1, .long R.2.2.2.1, .long R.2.2.2.2])), (s0, .inr (2, [.ref xa, .ref ya, .int sz])), (xa, .inl (cI, 20, .inl x)), (ya, .inl (cI, 20, .inl y)), (ra, .inl (cI, 105, .inl (fun j9 => nI (rg j9)))), (sa, .inl (cI, 36, .inl (fun j9 => nI (sr j9))))]) 0 0 (q_in [(m0, .inr (1, [.ref s0, .ref g0, .ref ra, .ref sa, .ref oa, .int cc, .ref ma, .int rc])), (g0, .inr (0, [.int fx, .int fy, .long ax, .long ay, .long sp])), (s0, .inr (2, [.ref xa, .ref ya, .int sz])), (xa, .inl (cI, 20, .inl x)), (ya, .inl (cI, 20, .inl y)), (ra, .inl (cI, 105, .inl (fun j9 => nI (rg j9)))), (sa, .inl (cI, 36, .inl (fun j9 => nI (sr j9))))]) := by
  refine Met.ofW (cc := cX1_circleOf) (maxL := 2) (ret := (some (.object "CircleCells$Circle"))) (by decide) rfl ?_
  intro p e s m args below meth c s₁ B hml hv
  obtain ⟨rfl, hP, hK, hD0⟩ := hv
  have hx := B.exec
  have hb := B.bytes
  have hr := B.returns
  have hts := atoms_spec (ws := wsX1_circleOf) B.pre
  have hown : s.vm.findClass RX1 = some m.cls := findClass_of_methodNamed B.named
  have hlocks := B.notSynchronized
  have hD := q_inD hD0
  generalize hAe : q_in [(m0, .inr (1, [.ref s0, .ref g0, .ref ra, .ref sa, .ref oa, .int cc, .ref ma, .int rc])), (g0, .inr (0, [.int fx, .int fy, .long ax, .long ay, .long sp])), (s0, .inr (2, [.ref xa, .ref ya, .int sz])), (xa, .inl (cI, 20, .inl x)), (ya, .inl (cI, 20, .inl y)), (ra, .inl (cI, 105, .inl (fun j9 => nI (rg j9)))), (sa, .inl (cI, 36, .inl (fun j9 => nI (sr j9))))] = A at hD ⊢
  have hS : va_S A s.heap s.heap [] := va_S.rf
  have hP : va_P (dC, dI) vwCl [(m0, .inr (1, [.ref s0, .ref g0, .ref ra, .ref sa, .ref oa, .int cc, .ref ma, .int rc])), (g0, .inr (0, [.int fx, .int fy, .long ax, .long ay, .long sp])), (s0, .inr (2, [.ref xa, .ref ya, .int sz])), (xa, .inl (cI, 20, .inl x)), (ya, .inl (cI, 20, .inl y)), (ra, .inl (cI, 105, .inl (fun j9 => nI (rg j9)))), (sa, .inl (cI, 36, .inl (fun j9 => nI (sr j9))))] s.heap := hP
  have hl := lv_entry ([.ref m0, .int (nI d)]) (n := 2) (Nat.le_of_ble_eq_true rfl)
  rw [lg_entry_eq]
  generalize (lg_sl ([.ref m0, .int (nI d)]) ++ List.replicate (2 - (lg_sl ([.ref m0, .int (nI d)])).length) Slot.unset).toArray = ls at hl ⊢
  have hl : lv_has ls 2 [(0, .ref m0), (1, .int (nI d))] := hl
  refine lv_aload_n hx hb dX1_circleOf_0 rfl (lv_at hl 0 rfl) ?_
  refine va_get (D := (dC, dI)) (ci := 1) (v := .ref g0) (C := RX1) (T := TX1) (N := 8) hx hb hts (by decide +kernel) hown hK hP 0 rfl rfl 1 (by decide) (hts (.fieldLink RX1 12 "CircleCells$Mosaic" "circle" "LCircleCells$Circle;") (by decide +kernel)) (fun _ h9 => h9) rfl dX1_circleOf_1 ?_
  refine lv_aload_n hx hb dX1_circleOf_4 rfl (lv_at hl 0 rfl) ?_
  refine va_get (D := (dC, dI)) (ci := 1) (v := .ref s0) (C := RX1) (T := TX1) (N := 8) hx hb hts (by decide +kernel) hown hK hP 0 rfl rfl 0 (by decide) (hts (.fieldLink RX1 38 "CircleCells$Mosaic" "sites" "LCircleCells$Sites;") (by decide +kernel)) (fun _ h9 => h9) rfl dX1_circleOf_5 ?_
  refine lv_aload_n hx hb dX1_circleOf_8 rfl (lv_at hl 0 rfl) ?_
  refine lv_iload_n hx hb dX1_circleOf_9 rfl (lv_at hl 1 rfl) ?_
  refine lv_iconst (v := nI 0) hx hb dX1_circleOf_10 (by decide) ?_
  refine q_cV (As := [.int (nI d), .int (nI 0)]) (rest := [.ref s0, .ref g0]) ⟨hx, hb, hml, hown, hts⟩ (c_X1_siteOf l dC dI m0 s0 g0 ra sa oa ma cI cc rc rg sr d 0 (by omega) (by omega)) (cwV 2 hts gX1_circleOf_X1_siteOf rfl rfl rfl (by decide +kernel) ⟨Nat.le_of_ble_eq_true rfl, Nat.le_of_ble_eq_true rfl⟩) (q_pV hK hP [0, 5, 6] [0] 1 0 rfl rfl rfl rfl rfl rfl) rfl hl.1 rfl (Nat.le_of_ble_eq_true rfl) ⟨Nat.zero_le _, Nat.zero_le _⟩ dX1_circleOf_11 ?_
  refine lv_aload_n hx hb dX1_circleOf_14 rfl (lv_at hl 0 rfl) ?_
  refine lv_iload_n hx hb dX1_circleOf_15 rfl (lv_at hl 1 rfl) ?_
  refine lv_iconst (v := nI 1) hx hb dX1_circleOf_16 (by decide) ?_
  refine q_cV (As := [.int (nI d), .int (nI 1)]) (rest := [.int (nI (rg (sr d + 0))), .ref s0, .ref g0]) ⟨hx, hb, hml, hown, hts⟩ (c_X1_siteOf l dC dI m0 s0 g0 ra sa oa ma cI cc rc rg sr d 1 (by omega) (by omega)) (cwV 2 hts gX1_circleOf_X1_siteOf rfl rfl rfl (by decide +kernel) ⟨Nat.le_of_ble_eq_true rfl, Nat.le_of_ble_eq_true rfl⟩) (q_pV hK hP [0, 5, 6] [0] 1 0 rfl rfl rfl rfl rfl rfl) rfl hl.1 rfl (Nat.le_of_ble_eq_true rfl) ⟨Nat.zero_le _, Nat.zero_le _⟩ dX1_circleOf_17 ?_
  refine lv_aload_n hx hb dX1_circleOf_20 rfl (lv_at hl 0 rfl) ?_
  refine lv_iload_n hx hb dX1_circleOf_21 rfl (lv_at hl 1 rfl) ?_
  refine lv_iconst (v := nI 2) hx hb dX1_circleOf_22 (by decide) ?_
  refine q_cV (As := [.int (nI d), .int (nI 2)]) (rest := [.int (nI (rg (sr d + 1))), .int (nI (rg (sr d + 0))), .ref s0, .ref g0]) ⟨hx, hb, hml, hown, hts⟩ (c_X1_siteOf l dC dI m0 s0 g0 ra sa oa ma cI cc rc rg sr d 2 (by omega) (by omega)) (cwV 2 hts gX1_circleOf_X1_siteOf rfl rfl rfl (by decide +kernel) ⟨Nat.le_of_ble_eq_true rfl, Nat.le_of_ble_eq_true rfl⟩) (q_pV hK hP [0, 5, 6] [0] 1 0 rfl rfl rfl rfl rfl rfl) rfl hl.1 rfl (Nat.le_of_ble_eq_true rfl) ⟨Nat.zero_le _, Nat.zero_le _⟩ dX1_circleOf_23 ?_
  obtain ⟨k2, hk2⟩ : ∃ r : Int32 × Int32 × Int64 × Int64 × Int64, j_lay x y (rg (sr d + 0)) (rg (sr d + 1)) (rg (sr d + 2)) = r := ⟨_, rfl⟩
  refine q_mV (wc' := [(g0, .inr (0, [.int k2.1, .int k2.2.1, .long k2.2.2.1, .long k2.2.2.2.1, .long k2.2.2.2.2])), (s0, .inr (2, [.ref xa, .ref ya, .int sz])), (xa, .inl (cI, 20, .inl x)), (ya, .inl (cI, 20, .inl y))]) (wsN := [(m0, .inr (1, [.ref s0, .ref g0, .ref ra, .ref sa, .ref oa, .int cc, .ref ma, .int rc])), (g0, .inr (0, [.int k2.1, .int k2.2.1, .long k2.2.2.1, .long k2.2.2.2.1, .long k2.2.2.2.2])), (s0, .inr (2, [.ref xa, .ref ya, .int sz])), (xa, .inl (cI, 20, .inl x)), (ya, .inl (cI, 20, .inl y)), (ra, .inl (cI, 105, .inl (fun j9 => nI (rg j9)))), (sa, .inl (cI, 36, .inl (fun j9 => nI (sr j9))))]) (As := [.ref s0, .int (nI (rg (sr d + 0))), .int (nI (rg (sr d + 1))), .int (nI (rg (sr d + 2)))]) (rest := []) ⟨hx, hb, hml, hown, hts⟩ (c_X0_layThrough l dC dI g0 s0 xa ya cI x y fx fy ax ay sp sz (rg (sr d + 0)) (rg (sr d + 1)) (rg (sr d + 2)) (lr _) (lr _) (lr _) k2 hk2) (cwV 4 hts gX1_circleOf_X0_layThrough rfl rfl rfl (by decide +kernel) ⟨Nat.le_of_ble_eq_true rfl, Nat.le_of_ble_eq_true rfl⟩) hK hP hD hS [1, 2, 3, 4] [0] 0 1 rfl rfl rfl rfl rfl rfl rfl rfl rfl hl.1 rfl (Nat.le_of_ble_eq_true rfl) ⟨Nat.zero_le _, Nat.zero_le _⟩ dX1_circleOf_26 rfl (fun H locs hP hD hS => ?_)
  refine W.eq (g2 := F0 m 29 ls []) rfl ?_
  rw [hk2] at hR
  subst hR
  refine lv_aload_n hx hb dX1_circleOf_29 rfl (lv_at hl 0 rfl) ?_
  refine va_get (D := (dC, dI)) (ci := 1) (v := .ref g0) (C := RX1) (T := TX1) (N := 8) hx hb hts (by decide +kernel) hown hK hP 0 rfl rfl 1 (by decide) (hts (.fieldLink RX1 12 "CircleCells$Mosaic" "circle" "LCircleCells$Circle;") (by decide +kernel)) (fun _ h9 => h9) rfl dX1_circleOf_30 ?_
  exact W.aret (v := .ref g0) hx hb hr (Or.inl ⟨_, rfl⟩) (Or.inr ⟨_, rfl⟩) (q_retm hP hS) hS.2.2 dX1_circleOf_33
