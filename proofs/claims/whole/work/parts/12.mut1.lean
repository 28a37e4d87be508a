/-! Sites, Circle, Mosaic: what their writing methods leave -/
def j_drop (n : Nat) (x y : Nat → Int32) (j : Nat) : (Nat → Int32) × (Nat → Int32) := if j < n then j_drop n (upd x (j - 1) (x j)) (upd y (j - 1) (y j)) (j + 1) else (x, y)
termination_by n - j
def j_ax (bx d1 u v : Int64) : Int64 := v * (bx * bx + d1 * d1) - d1 * (u * u + v * v)
def j_ay (bx d1 u v : Int64) : Int64 := bx * (u * u + v * v) - u * (bx * bx + d1 * d1)
def j_sp (bx d1 u v : Int64) : Int64 := 2 * (bx * v - d1 * u)
def j_lay (x y : Nat → Int32) (a b d : Nat) : Int32 × Int32 × Int64 × Int64 × Int64 := (x a, y a, j_ax (x b - x a).toInt64 (y b - y a).toInt64 (x d - x a).toInt64 (y d - y a).toInt64, j_ay (x b - x a).toInt64 (y b - y a).toInt64 (x d - x a).toInt64 (y d - y a).toInt64, j_sp (x b - x a).toInt64 (y b - y a).toInt64 (x d - x a).toInt64 (y d - y a).toInt64)
def j_powC (K : Int32 × Int32 × Int64 × Int64 × Int64) (px py : Int32) : Int64 := j_pow K.1 K.2.1 K.2.2.1 K.2.2.2.1 K.2.2.2.2 px py
def j_left (x y : Nat → Int32) (n a b : Nat) (t : Bool) (K : Int32 × Int32 × Int64 × Int64 × Int64) (k : Nat) : Bool × Int32 × Int32 × Int64 × Int64 × Int64 :=
  if k < n then (if j_turn x y a b (x k) (y k) ≤ 0 then j_left x y n a b t K (k + 1) else if t = false then j_left x y n a b true (j_lay x y a b k) (k + 1) else if 0 ≤ j_powC K (x k) (y k) then j_left x y n a b t K (k + 1) else j_left x y n a b true (j_lay x y a b k) (k + 1)) else (t, K)
termination_by n - k
def j_ins (x y : Nat → Int32) (fi v : Nat) (rg : Nat → Nat) (t : Nat) : Nat → Nat :=
  if t ≤ fi + 1 then updN rg t v else if 0 ≤ j_turn x y (rg fi) (rg (t - 1)) (x v) (y v) then updN rg t v else j_ins x y fi v (updN rg t (rg (t - 1))) (t - 1)
termination_by t
def j_claim (rg sr : Nat → Nat) (d : Nat) (ow : Nat → Int32) (i : Nat) : Nat → Int32 :=
  if i < sr (d + 1) - sr d then j_claim rg sr d (upd ow (rg (sr d + i) * 20 + j_after rg sr d i) (nI d)) (i + 1) else ow
termination_by sr (d + 1) - sr d - i
def j_fill (v : Int32) (N : Nat) (g : Nat → Int32) (k : Nat) : Nat → Int32 := if k < N then j_fill v N (upd g k v) (k + 1) else g
termination_by N - k
set_option maxHeartbeats 4000000 in
set_option maxRecDepth 100000 in
theorem c_X2_put (l : Launch) (dC : Nat → ClassId) (dI : Nat → Nat → Nat) (h0 xa ya : Nat) (cI : ClassId) (x y : Nat → Int32) (n : Int32) (k : Nat) (px py : Int32) (lk : k < 20) : Met l yX2_put wsX2_put ({ frames := 0, cells := 0, slots := 0, locals := 0 }) (q_Pm (dC, dI) [.ref h0, .int (nI k), .int px, .int py] [(h0, .inr (2, [.ref xa, .ref ya, .int n])), (xa, .inl (cI, 20, .inl x)), (ya, .inl (cI, 20, .inl y))] [(cI, .int)]) (q_Qm (dC, dI) (q_in [(h0, .inr (2, [.ref xa, .ref ya, .int n])), (xa, .inl (cI, 20, .inl x)), (ya, .inl (cI, 20, .inl y))]) none [(h0, .inr (2, [.ref xa, .ref ya, .int n])), (xa, .inl (cI, 20, .inl (upd x k px))), (ya, .inl (cI, 20, .inl (upd y k py)))]) 0 0 (q_in [(h0, .inr (2, [.ref xa, .ref ya, .int n])), (xa, .inl (cI, 20, .inl x)), (ya, .inl (cI, 20, .inl y))]) := by
  refine Met.ofW (cc := cX2_put) (maxL := 4) (ret := none) (by decide) rfl ?_
  intro p e s m args below meth c s₁ B hml hv
  obtain ⟨rfl, hP, hK, hD0⟩ := hv
  have hx := B.exec
  have hb := B.bytes
  have hr := B.returns
  have hts := atoms_spec (ws := wsX2_put) B.pre
  have hown : s.vm.findClass RX2 = some m.cls := findClass_of_methodNamed B.named
  have hlocks := B.notSynchronized
  have hD := q_inD hD0
  generalize hAe : q_in [(h0, .inr (2, [.ref xa, .ref ya, .int n])), (xa, .inl (cI, 20, .inl x)), (ya, .inl (cI, 20, .inl y))] = A at hD ⊢
  have hS : va_S A s.heap s.heap [] := va_S.rf
  have hP : va_P (dC, dI) vwCl [(h0, .inr (2, [.ref xa, .ref ya, .int n])), (xa, .inl (cI, 20, .inl x)), (ya, .inl (cI, 20, .inl y))] s.heap := hP
  have hl := lv_entry ([.ref h0, .int (nI k), .int px, .int py]) (n := 4) (Nat.le_of_ble_eq_true rfl)
  rw [lg_entry_eq]
  generalize (lg_sl ([.ref h0, .int (nI k), .int px, .int py]) ++ List.replicate (4 - (lg_sl ([.ref h0, .int (nI k), .int px, .int py])).length) Slot.unset).toArray = ls at hl ⊢
  have hl : lv_has ls 4 [(0, .ref h0), (1, .int (nI k)), (2, .int px), (3, .int py)] := hl
  refine lv_aload_n hx hb dX2_put_0 rfl (lv_at hl 0 rfl) ?_
  refine va_get (D := (dC, dI)) (ci := 2) (v := .ref xa) (C := RX2) (T := TX2) (N := 3) hx hb hts (by decide +kernel) hown hK hP 0 rfl rfl 0 (by decide) (hts (.fieldLink RX2 9 "CircleCells$Sites" "x" "[I") (by decide +kernel)) (fun _ h9 => h9) rfl dX2_put_1 ?_
  refine lv_iload_n hx hb dX2_put_4 rfl (lv_at hl 1 rfl) ?_
  refine lv_iload_n hx hb dX2_put_5 rfl (lv_at hl 2 rfl) ?_
  refine q_iast (ws' := [(h0, .inr (2, [.ref xa, .ref ya, .int n])), (xa, .inl (cI, 20, .inl (upd x k px))), (ya, .inl (cI, 20, .inl y))]) hx hb hK hP hD hS 1 0 rfl rfl (k) rfl (by omega) (by decide) dX2_put_6 rfl (fun H locs hP hD hS => ?_)
  refine lv_aload_n hx hb dX2_put_7 rfl (lv_at hl 0 rfl) ?_
  refine va_get (D := (dC, dI)) (ci := 2) (v := .ref ya) (C := RX2) (T := TX2) (N := 3) hx hb hts (by decide +kernel) hown hK hP 0 rfl rfl 1 (by decide) (hts (.fieldLink RX2 15 "CircleCells$Sites" "y" "[I") (by decide +kernel)) (fun _ h9 => h9) rfl dX2_put_8 ?_
  refine lv_iload_n hx hb dX2_put_11 rfl (lv_at hl 1 rfl) ?_
  refine lv_iload_n hx hb dX2_put_12 rfl (lv_at hl 3 rfl) ?_
  refine q_iast (ws' := [(h0, .inr (2, [.ref xa, .ref ya, .int n])), (xa, .inl (cI, 20, .inl (upd x k px))), (ya, .inl (cI, 20, .inl (upd y k py)))]) hx hb hK hP hD hS 2 0 rfl rfl (k) rfl (by omega) (by decide) dX2_put_13 rfl (fun H locs hP hD hS => ?_)
  exact W.vret hx hb hr (q_retm hP hS) hS.2.2 dX2_put_14
set_option maxHeartbeats 4000000 in
set_option maxRecDepth 100000 in
theorem c_X2_append (l : Launch) (dC : Nat → ClassId) (dI : Nat → Nat → Nat) (h0 xa ya : Nat) (cI : ClassId) (x y : Nat → Int32) (n : Nat) (px py : Int32) (ln : n < 20) : Met l yX2_append wsX2_append ({ frames := 1, cells := 0, slots := 0, locals := 23 }) (q_Pm (dC, dI) [.ref h0, .int px, .int py] [(h0, .inr (2, [.ref xa, .ref ya, .int (nI n)])), (xa, .inl (cI, 20, .inl x)), (ya, .inl (cI, 20, .inl y))] [(cI, .int)]) (q_Qm (dC, dI) (q_in [(h0, .inr (2, [.ref xa, .ref ya, .int (nI n)])), (xa, .inl (cI, 20, .inl x)), (ya, .inl (cI, 20, .inl y))]) (some (.int (nI n))) [(h0, .inr (2, [.ref xa, .ref ya, .int (nI (n + 1))])), (xa, .inl (cI, 20, .inl (upd x n px))), (ya, .inl (cI, 20, .inl (upd y n py)))]) 0 0 (q_in [(h0, .inr (2, [.ref xa, .ref ya, .int (nI n)])), (xa, .inl (cI, 20, .inl x)), (ya, .inl (cI, 20, .inl y))]) := by
  refine Met.ofW (cc := cX2_append) (maxL := 4) (ret := (some .int)) (by decide) rfl ?_
  intro p e s m args below meth c s₁ B hml hv
  obtain ⟨rfl, hP, hK, hD0⟩ := hv
  have hx := B.exec
  have hb := B.bytes
  have hr := B.returns
  have hts := atoms_spec (ws := wsX2_append) B.pre
  have hown : s.vm.findClass RX2 = some m.cls := findClass_of_methodNamed B.named
  have hlocks := B.notSynchronized
  have hD := q_inD hD0
  generalize hAe : q_in [(h0, .inr (2, [.ref xa, .ref ya, .int (nI n)])), (xa, .inl (cI, 20, .inl x)), (ya, .inl (cI, 20, .inl y))] = A at hD ⊢
  have hS : va_S A s.heap s.heap [] := va_S.rf
  have hP : va_P (dC, dI) vwCl [(h0, .inr (2, [.ref xa, .ref ya, .int (nI n)])), (xa, .inl (cI, 20, .inl x)), (ya, .inl (cI, 20, .inl y))] s.heap := hP
  have hl := lv_entry ([.ref h0, .int px, .int py]) (n := 4) (Nat.le_of_ble_eq_true rfl)
  rw [lg_entry_eq]
  generalize (lg_sl ([.ref h0, .int px, .int py]) ++ List.replicate (4 - (lg_sl ([.ref h0, .int px, .int py])).length) Slot.unset).toArray = ls at hl ⊢
  have hl : lv_has ls 4 [(0, .ref h0), (1, .int px), (2, .int py)] := hl
  refine lv_aload_n hx hb dX2_append_0 rfl (lv_at hl 0 rfl) ?_
  refine va_get (D := (dC, dI)) (ci := 2) (v := .int (nI n)) (C := RX2) (T := TX2) (N := 3) hx hb hts (by decide +kernel) hown hK hP 0 rfl rfl 2 (by decide) (hts (.fieldLink RX2 18 "CircleCells$Sites" "size" "I") (by decide +kernel)) (fun _ h9 => h9) rfl dX2_append_1 ?_
  refine lv_istore_n (lv' := [(3, .int (nI n)), (0, .ref h0), (1, .int px), (2, .int py)]) hx hb dX2_append_4 rfl hl (by decide) rfl (fun ls hl => ?_)
  refine lv_aload_n hx hb dX2_append_5 rfl (lv_at hl 1 rfl) ?_
  refine lv_iload_n hx hb dX2_append_6 rfl (lv_at hl 0 rfl) ?_
  refine lv_iload_n hx hb dX2_append_7 rfl (lv_at hl 2 rfl) ?_
  refine lv_iload_n hx hb dX2_append_8 rfl (lv_at hl 3 rfl) ?_
  refine q_mV (wc' := [(h0, .inr (2, [.ref xa, .ref ya, .int (nI n)])), (xa, .inl (cI, 20, .inl (upd x n px))), (ya, .inl (cI, 20, .inl (upd y n py)))]) (wsN := [(h0, .inr (2, [.ref xa, .ref ya, .int (nI n)])), (xa, .inl (cI, 20, .inl (upd x n px))), (ya, .inl (cI, 20, .inl (upd y n py)))]) (As := [.int (nI n), .int px, .int py]) (rest := []) ⟨hx, hb, hml, hown, hts⟩ (c_X2_put l dC dI h0 xa ya cI x y (nI n) n px py (by omega)) (cwV 3 hts gX2_append_X2_put rfl rfl rfl (by decide +kernel) ⟨Nat.le_of_ble_eq_true rfl, Nat.le_of_ble_eq_true rfl⟩) hK hP hD hS [0, 1, 2] [0] 2 0 rfl rfl rfl rfl rfl rfl rfl rfl rfl hl.1 rfl (Nat.le_of_ble_eq_true rfl) ⟨Nat.zero_le _, Nat.zero_le _⟩ dX2_append_9 rfl (fun H locs hP hD hS => ?_)
  refine W.eq (g2 := F0 m 12 ls []) rfl ?_
  refine lv_aload_n hx hb dX2_append_12 rfl (lv_at hl 1 rfl) ?_
  refine lv_dup hx hb dX2_append_13 rfl ?_
  refine va_get (D := (dC, dI)) (ci := 2) (v := .int (nI n)) (C := RX2) (T := TX2) (N := 3) hx hb hts (by decide +kernel) hown hK hP 0 rfl rfl 2 (by decide) (hts (.fieldLink RX2 18 "CircleCells$Sites" "size" "I") (by decide +kernel)) (fun _ h9 => h9) rfl dX2_append_14 ?_
  refine lv_iconst (v := nI 1) hx hb dX2_append_17 (by decide) ?_
  refine q_iadd hx hb dX2_append_18 ?_
  refine va_put (D := (dC, dI)) (ci := 2) (v := .int (nI (n + 1))) (ty := .int) (C := RX2) (T := TX2) (N := 3) hx hb hts (by decide +kernel) tyX2 tyX2_ok nmX2 hown hK hP hD hS 0 rfl rfl 2 (by decide) (hts (.fieldLink RX2 18 "CircleCells$Sites" "size" "I") (by decide +kernel)) (fun _ h9 => h9) rfl (by decide +kernel) rfl rfl (Nat.le_of_ble_eq_true rfl) dX2_append_19 (fun H locs hP hD hS => ?_)
  have hP : va_P (dC, dI) vwCl [(h0, .inr (2, [.ref xa, .ref ya, .int (nI (n + 1))])), (xa, .inl (cI, 20, .inl (upd x n px))), (ya, .inl (cI, 20, .inl (upd y n py)))] H := hP
  have hD : va_D A [(h0, .inr (2, [.ref xa, .ref ya, .int (nI (n + 1))])), (xa, .inl (cI, 20, .inl (upd x n px))), (ya, .inl (cI, 20, .inl (upd y n py)))] := hD
  refine lv_iload_n hx hb dX2_append_22 rfl (lv_at hl 0 rfl) ?_
  exact W.iret (v := nI n) hx hb hr (q_retm hP hS) hS.2.2 dX2_append_23
set_option maxHeartbeats 4000000 in
set_option maxRecDepth 100000 in
theorem c_X2_drop (l : Launch) (dC : Nat → ClassId) (dI : Nat → Nat → Nat) (h0 xa ya : Nat) (cI : ClassId) (x y : Nat → Int32) (n k : Nat) (lk : k < n) (ln : n ≤ 20) (R : (Nat → Int32) × (Nat → Int32)) (hR : j_drop n x y (k + 1) = R) : Met l yX2_drop wsX2_drop ({ frames := 1, cells := 0, slots := 0, locals := 23 }) (q_Pm (dC, dI) [.ref h0, .int (nI k)] [(h0, .inr (2, [.ref xa, .ref ya, .int (nI n)])), (xa, .inl (cI, 20, .inl x)), (ya, .inl (cI, 20, .inl y))] [(cI, .int)]) (q_Qm (dC, dI) (q_in [(h0, .inr (2, [.ref xa, .ref ya, .int (nI n)])), (xa, .inl (cI, 20, .inl x)), (ya, .inl (cI, 20, .inl y))]) none [(h0, .inr (2, [.ref xa, .ref ya, .int (nI (n - 1))])), (xa, .inl (cI, 20, .inl R.1)), (ya, .inl (cI, 20, .inl R.2))]) 0 0 (q_in [(h0, .inr (2, [.ref xa, .ref ya, .int (nI n)])), (xa, .inl (cI, 20, .inl x)), (ya, .inl (cI, 20, .inl y))]) := by
  refine Met.ofW (cc := cX2_drop) (maxL := 3) (ret := none) (by decide) rfl ?_
  intro p e s m args below meth c s₁ B hml hv
  obtain ⟨rfl, hP, hK, hD0⟩ := hv
  have hx := B.exec
  have hb := B.bytes
  have hr := B.returns
  have hts := atoms_spec (ws := wsX2_drop) B.pre
  have hown : s.vm.findClass RX2 = some m.cls := findClass_of_methodNamed B.named
  have hlocks := B.notSynchronized
  have hD := q_inD hD0
  generalize hAe : q_in [(h0, .inr (2, [.ref xa, .ref ya, .int (nI n)])), (xa, .inl (cI, 20, .inl x)), (ya, .inl (cI, 20, .inl y))] = A at hD ⊢
  have hS : va_S A s.heap s.heap [] := va_S.rf
  have hP : va_P (dC, dI) vwCl [(h0, .inr (2, [.ref xa, .ref ya, .int (nI n)])), (xa, .inl (cI, 20, .inl x)), (ya, .inl (cI, 20, .inl y))] s.heap := hP
  have hl := lv_entry ([.ref h0, .int (nI k)]) (n := 3) (Nat.le_of_ble_eq_true rfl)
  rw [lg_entry_eq]
  generalize (lg_sl ([.ref h0, .int (nI k)]) ++ List.replicate (3 - (lg_sl ([.ref h0, .int (nI k)])).length) Slot.unset).toArray = ls at hl ⊢
  have hl : lv_has ls 3 [(0, .ref h0), (1, .int (nI k))] := hl
  refine lv_iload_n hx hb dX2_drop_0 rfl (lv_at hl 1 rfl) ?_
  refine lv_iconst (v := nI 1) hx hb dX2_drop_1 (by decide) ?_
  refine q_iadd hx hb dX2_drop_2 ?_
  refine lv_istore_n (lv' := [(2, .int (nI (k + 1))), (0, .ref h0), (1, .int (nI k))]) hx hb dX2_drop_3 rfl hl (by decide) rfl (fun ls hl => ?_)
  have loop : ∀ (f : Nat) (x : Nat → Int32) (y : Nat → Int32) (j : Nat) (R : (Nat → Int32) × (Nat → Int32)) (H : Heap) (locs : List Loc) (ls : Array Slot), (j ≤ n) → (n + 1 ≤ j + f) → (1 ≤ j) → j_drop n x y j = R → va_P (dC, dI) vwCl [(h0, .inr (2, [.ref xa, .ref ya, .int (nI n)])), (xa, .inl (cI, 20, .inl x)), (ya, .inl (cI, 20, .inl y))] H → va_D A [(h0, .inr (2, [.ref xa, .ref ya, .int (nI n)])), (xa, .inl (cI, 20, .inl x)), (ya, .inl (cI, 20, .inl y))] → va_S A s.heap H locs → lv_has ls 3 [(0, .ref h0), (1, .int (nI k)), (2, .int (nI j))] → W p l e (headSpec wsX2_drop ({ frames := 1, cells := 0, slots := 0, locals := 23 })).room s m ([.ref h0, .int (nI k)] : List Value).toArray below meth c H locs 0 0 (MQ below (q_Qm (dC, dI) A none [(h0, .inr (2, [.ref xa, .ref ya, .int (nI (n - 1))])), (xa, .inl (cI, 20, .inl R.1)), (ya, .inl (cI, 20, .inl R.2))]) ([.ref h0, .int (nI k)] : List Value).toArray s 0 0 A) (F0 m 4 ls []) := by
    intro f
    induction f with
    | zero =>
      intro x y j R H locs ls h1 h2 h3
      omega
    | succ f ih_loop =>
      intro x y j R H locs ls h1 h2 h3 hF hP hD hS hl
      refine lv_iload_n hx hb dX2_drop_4 rfl (lv_at hl 2 rfl) ?_
      refine lv_aload_n hx hb dX2_drop_5 rfl (lv_at hl 0 rfl) ?_
      refine va_get (D := (dC, dI)) (ci := 2) (v := .int (nI n)) (C := RX2) (T := TX2) (N := 3) hx hb hts (by decide +kernel) hown hK hP 0 rfl rfl 2 (by decide) (hts (.fieldLink RX2 18 "CircleCells$Sites" "size" "I") (by decide +kernel)) (fun _ h9 => h9) rfl dX2_drop_6 ?_
      refine q_icmp_ge (tgt := 37) (by omega) (by omega) hx hb dX2_drop_9 (by decide) (fun c9 => ?_) (fun c9 => ?_)
      · rw [j_drop, if_neg (by omega)] at hF
        subst hF
        refine lv_aload_n hx hb dX2_drop_37 rfl (lv_at hl 0 rfl) ?_
        refine lv_dup hx hb dX2_drop_38 rfl ?_
        refine va_get (D := (dC, dI)) (ci := 2) (v := .int (nI n)) (C := RX2) (T := TX2) (N := 3) hx hb hts (by decide +kernel) hown hK hP 0 rfl rfl 2 (by decide) (hts (.fieldLink RX2 18 "CircleCells$Sites" "size" "I") (by decide +kernel)) (fun _ h9 => h9) rfl dX2_drop_39 ?_
        refine lv_iconst (v := nI 1) hx hb dX2_drop_42 (by decide) ?_
        refine q_isub (by omega) hx hb dX2_drop_43 ?_
        refine va_put (D := (dC, dI)) (ci := 2) (v := .int (nI (n - 1))) (ty := .int) (C := RX2) (T := TX2) (N := 3) hx hb hts (by decide +kernel) tyX2 tyX2_ok nmX2 hown hK hP hD hS 0 rfl rfl 2 (by decide) (hts (.fieldLink RX2 18 "CircleCells$Sites" "size" "I") (by decide +kernel)) (fun _ h9 => h9) rfl (by decide +kernel) rfl rfl (Nat.le_of_ble_eq_true rfl) dX2_drop_44 (fun H locs hP hD hS => ?_)
        have hP : va_P (dC, dI) vwCl [(h0, .inr (2, [.ref xa, .ref ya, .int (nI (n - 1))])), (xa, .inl (cI, 20, .inl x)), (ya, .inl (cI, 20, .inl y))] H := hP
        have hD : va_D A [(h0, .inr (2, [.ref xa, .ref ya, .int (nI (n - 1))])), (xa, .inl (cI, 20, .inl x)), (ya, .inl (cI, 20, .inl y))] := hD
        exact W.vret hx hb hr (q_retm hP hS) hS.2.2 dX2_drop_47
      · rw [j_drop, if_pos c9] at hF
        refine lv_aload_n hx hb dX2_drop_12 rfl (lv_at hl 0 rfl) ?_
        refine lv_iload_n hx hb dX2_drop_13 rfl (lv_at hl 2 rfl) ?_
        refine lv_iconst (v := nI 1) hx hb dX2_drop_14 (by decide) ?_
        refine q_isub (by omega) hx hb dX2_drop_15 ?_
        refine lv_aload_n hx hb dX2_drop_16 rfl (lv_at hl 0 rfl) ?_
        refine va_get (D := (dC, dI)) (ci := 2) (v := .ref xa) (C := RX2) (T := TX2) (N := 3) hx hb hts (by decide +kernel) hown hK hP 0 rfl rfl 0 (by decide) (hts (.fieldLink RX2 9 "CircleCells$Sites" "x" "[I") (by decide +kernel)) (fun _ h9 => h9) rfl dX2_drop_17 ?_
        refine lv_iload_n hx hb dX2_drop_20 rfl (lv_at hl 2 rfl) ?_
        refine q_iald hx hb hK hP 1 0 rfl rfl (j) rfl (by omega) (by decide) dX2_drop_21 ?_
        refine lv_aload_n hx hb dX2_drop_22 rfl (lv_at hl 0 rfl) ?_
        refine va_get (D := (dC, dI)) (ci := 2) (v := .ref ya) (C := RX2) (T := TX2) (N := 3) hx hb hts (by decide +kernel) hown hK hP 0 rfl rfl 1 (by decide) (hts (.fieldLink RX2 15 "CircleCells$Sites" "y" "[I") (by decide +kernel)) (fun _ h9 => h9) rfl dX2_drop_23 ?_
        refine lv_iload_n hx hb dX2_drop_26 rfl (lv_at hl 2 rfl) ?_
        refine q_iald hx hb hK hP 2 0 rfl rfl (j) rfl (by omega) (by decide) dX2_drop_27 ?_
        refine q_mV (wc' := [(h0, .inr (2, [.ref xa, .ref ya, .int (nI n)])), (xa, .inl (cI, 20, .inl (upd x (j - 1) (x j)))), (ya, .inl (cI, 20, .inl (upd y (j - 1) (y j))))]) (wsN := [(h0, .inr (2, [.ref xa, .ref ya, .int (nI n)])), (xa, .inl (cI, 20, .inl (upd x (j - 1) (x j)))), (ya, .inl (cI, 20, .inl (upd y (j - 1) (y j))))]) (As := [.int (nI (j - 1)), .int (x j), .int (y j)]) (rest := []) ⟨hx, hb, hml, hown, hts⟩ (c_X2_put l dC dI h0 xa ya cI x y (nI n) (j - 1) (x j) (y j) (by omega)) (cwV 3 hts gX2_drop_X2_put rfl rfl rfl (by decide +kernel) ⟨Nat.le_of_ble_eq_true rfl, Nat.le_of_ble_eq_true rfl⟩) hK hP hD hS [0, 1, 2] [0] 2 0 rfl rfl rfl rfl rfl rfl rfl rfl rfl hl.1 rfl (Nat.le_of_ble_eq_true rfl) ⟨Nat.zero_le _, Nat.zero_le _⟩ dX2_drop_28 rfl (fun H locs hP hD hS => ?_)
        refine W.eq (g2 := F0 m 31 ls []) rfl ?_
        refine lv_iinc (v := nI (j + 1)) (lv' := [(2, .int (nI (j + 1))), (0, .ref h0), (1, .int (nI k))]) hx hb dX2_drop_31 hl (k := 2) rfl (by rw [show Int32.ofInt 1 = 1 from rfl]; exact nI_1 _) (by decide) rfl (fun ls hl => ?_)
        refine lv_goto (tgt := 4) hx hb dX2_drop_34 (by decide) ?_
        exact ih_loop (upd x (j - 1) (x j)) (upd y (j - 1) (y j)) (j + 1) R H locs ls (by omega) (by omega) (by omega) hF hP hD hS (lv_sub hl [1, 2, 0] rfl)
  exact loop (n + 1) x y (k + 1) R _ _ ls (by omega) (by omega) (by omega) hR hP hD hS (lv_sub hl [1, 2, 0] rfl)
set_option maxHeartbeats 4000000 in
set_option maxRecDepth 100000 in
theorem c_X2_dropAll (l : Launch) (dC : Nat → ClassId) (dI : Nat → Nat → Nat) (h0 xa ya : Nat) (cI : ClassId) (x y : Nat → Int32) (n : Int32) : Met l yX2_dropAll wsX2_dropAll ({ frames := 0, cells := 0, slots := 0, locals := 0 }) (q_Pm (dC, dI) [.ref h0] [(h0, .inr (2, [.ref xa, .ref ya, .int n])), (xa, .inl (cI, 20, .inl x)), (ya, .inl (cI, 20, .inl y))] [(cI, .int)]) (q_Qm (dC, dI) (q_in [(h0, .inr (2, [.ref xa, .ref ya, .int n])), (xa, .inl (cI, 20, .inl x)), (ya, .inl (cI, 20, .inl y))]) none [(h0, .inr (2, [.ref xa, .ref ya, .int (nI 0)])), (xa, .inl (cI, 20, .inl x)), (ya, .inl (cI, 20, .inl y))]) 0 0 (q_in [(h0, .inr (2, [.ref xa, .ref ya, .int n])), (xa, .inl (cI, 20, .inl x)), (ya, .inl (cI, 20, .inl y))]) := by
  refine Met.ofW (cc := cX2_dropAll) (maxL := 1) (ret := none) (by decide) rfl ?_
  intro p e s m args below meth c s₁ B hml hv
  obtain ⟨rfl, hP, hK, hD0⟩ := hv
  have hx := B.exec
  have hb := B.bytes
  have hr := B.returns
  have hts := atoms_spec (ws := wsX2_dropAll) B.pre
  have hown : s.vm.findClass RX2 = some m.cls := findClass_of_methodNamed B.named
  have hlocks := B.notSynchronized
  have hD := q_inD hD0
  generalize hAe : q_in [(h0, .inr (2, [.ref xa, .ref ya, .int n])), (xa, .inl (cI, 20, .inl x)), (ya, .inl (cI, 20, .inl y))] = A at hD ⊢
  have hS : va_S A s.heap s.heap [] := va_S.rf
  have hP : va_P (dC, dI) vwCl [(h0, .inr (2, [.ref xa, .ref ya, .int n])), (xa, .inl (cI, 20, .inl x)), (ya, .inl (cI, 20, .inl y))] s.heap := hP
  have hl := lv_entry ([.ref h0]) (n := 1) (Nat.le_of_ble_eq_true rfl)
  rw [lg_entry_eq]
  generalize (lg_sl ([.ref h0]) ++ List.replicate (1 - (lg_sl ([.ref h0])).length) Slot.unset).toArray = ls at hl ⊢
  have hl : lv_has ls 1 [(0, .ref h0)] := hl
  refine lv_aload_n hx hb dX2_dropAll_0 rfl (lv_at hl 0 rfl) ?_
  refine lv_iconst (v := nI 0) hx hb dX2_dropAll_1 (by decide) ?_
  refine va_put (D := (dC, dI)) (ci := 2) (v := .int (nI 0)) (ty := .int) (C := RX2) (T := TX2) (N := 3) hx hb hts (by decide +kernel) tyX2 tyX2_ok nmX2 hown hK hP hD hS 0 rfl rfl 2 (by decide) (hts (.fieldLink RX2 18 "CircleCells$Sites" "size" "I") (by decide +kernel)) (fun _ h9 => h9) rfl (by decide +kernel) rfl rfl (Nat.le_of_ble_eq_true rfl) dX2_dropAll_2 (fun H locs hP hD hS => ?_)
  have hP : va_P (dC, dI) vwCl [(h0, .inr (2, [.ref xa, .ref ya, .int (nI 0)])), (xa, .inl (cI, 20, .inl x)), (ya, .inl (cI, 20, .inl y))] H := hP
  have hD : va_D A [(h0, .inr (2, [.ref xa, .ref ya, .int (nI 0)])), (xa, .inl (cI, 20, .inl x)), (ya, .inl (cI, 20, .inl y))] := hD
  exact W.vret hx hb hr (q_retm hP hS) hS.2.2 dX2_dropAll_5
set_option maxHeartbeats 4000000 in
set_option maxRecDepth 100000 in
theorem c_X0_layThrough (l : Launch) (dC : Nat → ClassId) (dI : Nat → Nat → Nat) (g0 s0 xa ya : Nat) (cI : ClassId) (x y : Nat → Int32) (fx fy : Int32) (ax ay sp : Int64) (n : Int32) (a b d : Nat) (la : a < 20) (lb : b < 20) (ld : d < 20) (R : Int32 × Int32 × Int64 × Int64 × Int64) (hR : j_lay x y a b d = R) : Met l yX0_layThrough wsX0_layThrough ({ frames := 0, cells := 0, slots := 0, locals := 0 }) (q_Pm (dC, dI) [.ref g0, .ref s0, .int (nI a), .int (nI b), .int (nI d)] [(g0, .inr (0, [.int fx, .int fy, .long ax, .long ay, .long sp])), (s0, .inr (2, [.ref xa, .ref ya, .int n])), (xa, .inl (cI, 20, .inl x)), (ya, .inl (cI, 20, .inl y))] [(cI, .int)]) (q_Qm (dC, dI) (q_in [(g0, .inr (0, [.int fx, .int fy, .long ax, .long ay, .long sp])), (s0, .inr (2, [.ref xa, .ref ya, .int n])), (xa, .inl (cI, 20, .inl x)), (ya, .inl (cI, 20, .inl y))]) none [(g0, .inr (0, [.int R.1, .int R.2.1, .long R.2.2.1, .long R.2.2.2.1, .long R.2.2.2.2])), (s0, .inr (2, [.ref xa, .ref ya, .int n])), (xa, .inl (cI, 20, .inl x)), (ya, .inl (cI, 20, .inl y))]) 0 0 (q_in [(g0, .inr (0, [.int fx, .int fy, .long ax, .long ay, .long sp])), (s0, .inr (2, [.ref xa, .ref ya, .int n])), (xa, .inl (cI, 20, .inl x)), (ya, .inl (cI, 20, .inl y))]) := by
  refine Met.ofW (cc := cX0_layThrough) (maxL := 17) (ret := none) (by decide) rfl ?_
  intro p e s m args below meth c s₁ B hml hv
  obtain ⟨rfl, hP, hK, hD0⟩ := hv
  have hx := B.exec
  have hb := B.bytes
  have hr := B.returns
  have hts := atoms_spec (ws := wsX0_layThrough) B.pre
  have hown : s.vm.findClass RX0 = some m.cls := findClass_of_methodNamed B.named
  have hlocks := B.notSynchronized
  have hD := q_inD hD0
  generalize hAe : q_in [(g0, .inr (0, [.int fx, .int fy, .long ax, .long ay, .long sp])), (s0, .inr (2, [.ref xa, .ref ya, .int n])), (xa, .inl (cI, 20, .inl x)), (ya, .inl (cI, 20, .inl y))] = A at hD ⊢
  have hS : va_S A s.heap s.heap [] := va_S.rf
  have hP : va_P (dC, dI) vwCl [(g0, .inr (0, [.int fx, .int fy, .long ax, .long ay, .long sp])), (s0, .inr (2, [.ref xa, .ref ya, .int n])), (xa, .inl (cI, 20, .inl x)), (ya, .inl (cI, 20, .inl y))] s.heap := hP
  have hl := lv_entry ([.ref g0, .ref s0, .int (nI a), .int (nI b), .int (nI d)]) (n := 17) (Nat.le_of_ble_eq_true rfl)
  rw [lg_entry_eq]
  generalize (lg_sl ([.ref g0, .ref s0, .int (nI a), .int (nI b), .int (nI d)]) ++ List.replicate (17 - (lg_sl ([.ref g0, .ref s0, .int (nI a), .int (nI b), .int (nI d)])).length) Slot.unset).toArray = ls at hl ⊢
  have hl : lv_has ls 17 [(0, .ref g0), (1, .ref s0), (2, .int (nI a)), (3, .int (nI b)), (4, .int (nI d))] := hl
  subst hR
  refine lv_aload_n hx hb dX0_layThrough_0 rfl (lv_at hl 0 rfl) ?_
  refine lv_aload_n hx hb dX0_layThrough_1 rfl (lv_at hl 1 rfl) ?_
  refine va_get (D := (dC, dI)) (ci := 2) (v := .ref xa) (C := RX2) (T := TX2) (N := 3) hx hb hts (by decide +kernel) hown hK hP 1 rfl rfl 0 (by decide) (hts (.fieldLink RX0 7 "CircleCells$Sites" "x" "[I") (by decide +kernel)) (fun _ h9 => h9) rfl dX0_layThrough_2 ?_
  refine lv_iload_n hx hb dX0_layThrough_5 rfl (lv_at hl 2 rfl) ?_
  refine q_iald hx hb hK hP 2 0 rfl rfl (a) rfl (by omega) (by decide) dX0_layThrough_6 ?_
  refine va_put (D := (dC, dI)) (ci := 0) (v := .int (x a)) (ty := .int) (C := RX0) (T := TX0) (N := 5) hx hb hts (by decide +kernel) tyX0 tyX0_ok nmX0 hown hK hP hD hS 0 rfl rfl 0 (by decide) (hts (.fieldLink RX0 13 "CircleCells$Circle" "fromX" "I") (by decide +kernel)) (fun _ h9 => h9) rfl (by decide +kernel) rfl rfl (Nat.le_of_ble_eq_true rfl) dX0_layThrough_7 (fun H locs hP hD hS => ?_)
  have hP : va_P (dC, dI) vwCl [(g0, .inr (0, [.int (x a), .int fy, .long ax, .long ay, .long sp])), (s0, .inr (2, [.ref xa, .ref ya, .int n])), (xa, .inl (cI, 20, .inl x)), (ya, .inl (cI, 20, .inl y))] H := hP
  have hD : va_D A [(g0, .inr (0, [.int (x a), .int fy, .long ax, .long ay, .long sp])), (s0, .inr (2, [.ref xa, .ref ya, .int n])), (xa, .inl (cI, 20, .inl x)), (ya, .inl (cI, 20, .inl y))] := hD
  refine lv_aload_n hx hb dX0_layThrough_10 rfl (lv_at hl 0 rfl) ?_
  refine lv_aload_n hx hb dX0_layThrough_11 rfl (lv_at hl 1 rfl) ?_
  refine va_get (D := (dC, dI)) (ci := 2) (v := .ref ya) (C := RX2) (T := TX2) (N := 3) hx hb hts (by decide +kernel) hown hK hP 1 rfl rfl 1 (by decide) (hts (.fieldLink RX0 19 "CircleCells$Sites" "y" "[I") (by decide +kernel)) (fun _ h9 => h9) rfl dX0_layThrough_12 ?_
  refine lv_iload_n hx hb dX0_layThrough_15 rfl (lv_at hl 2 rfl) ?_
  refine q_iald hx hb hK hP 3 0 rfl rfl (a) rfl (by omega) (by decide) dX0_layThrough_16 ?_
  refine va_put (D := (dC, dI)) (ci := 0) (v := .int (y a)) (ty := .int) (C := RX0) (T := TX0) (N := 5) hx hb hts (by decide +kernel) tyX0 tyX0_ok nmX0 hown hK hP hD hS 0 rfl rfl 1 (by decide) (hts (.fieldLink RX0 22 "CircleCells$Circle" "fromY" "I") (by decide +kernel)) (fun _ h9 => h9) rfl (by decide +kernel) rfl rfl (Nat.le_of_ble_eq_true rfl) dX0_layThrough_17 (fun H locs hP hD hS => ?_)
  have hP : va_P (dC, dI) vwCl [(g0, .inr (0, [.int (x a), .int (y a), .long ax, .long ay, .long sp])), (s0, .inr (2, [.ref xa, .ref ya, .int n])), (xa, .inl (cI, 20, .inl x)), (ya, .inl (cI, 20, .inl y))] H := hP
  have hD : va_D A [(g0, .inr (0, [.int (x a), .int (y a), .long ax, .long ay, .long sp])), (s0, .inr (2, [.ref xa, .ref ya, .int n])), (xa, .inl (cI, 20, .inl x)), (ya, .inl (cI, 20, .inl y))] := hD
  refine lv_aload_n hx hb dX0_layThrough_20 rfl (lv_at hl 1 rfl) ?_
  refine va_get (D := (dC, dI)) (ci := 2) (v := .ref xa) (C := RX2) (T := TX2) (N := 3) hx hb hts (by decide +kernel) hown hK hP 1 rfl rfl 0 (by decide) (hts (.fieldLink RX0 7 "CircleCells$Sites" "x" "[I") (by decide +kernel)) (fun _ h9 => h9) rfl dX0_layThrough_21 ?_
  refine lv_iload_n hx hb dX0_layThrough_24 rfl (lv_at hl 3 rfl) ?_
  refine q_iald hx hb hK hP 2 0 rfl rfl (b) rfl (by omega) (by decide) dX0_layThrough_25 ?_
  refine lv_aload_n hx hb dX0_layThrough_26 rfl (lv_at hl 0 rfl) ?_
  refine va_get (D := (dC, dI)) (ci := 0) (v := .int (x a)) (C := RX0) (T := TX0) (N := 5) hx hb hts (by decide +kernel) hown hK hP 0 rfl rfl 0 (by decide) (hts (.fieldLink RX0 13 "CircleCells$Circle" "fromX" "I") (by decide +kernel)) (fun _ h9 => h9) rfl dX0_layThrough_27 ?_
  refine lv_isub hx hb dX0_layThrough_30 ?_
  refine lv_i2l (v := ((x b) - (x a)).toInt64) hx hb dX0_layThrough_31 rfl ?_
  refine lv_lstore (lv' := [(5, .long (((x b) - (x a)).toInt64)), (0, .ref g0), (1, .ref s0), (2, .int (nI a)), (3, .int (nI b)), (4, .int (nI d))]) hx hb dX0_layThrough_32 hl (by decide) rfl (fun ls hl => ?_)
  refine lv_aload_n hx hb dX0_layThrough_34 rfl (lv_at hl 2 rfl) ?_
  refine va_get (D := (dC, dI)) (ci := 2) (v := .ref ya) (C := RX2) (T := TX2) (N := 3) hx hb hts (by decide +kernel) hown hK hP 1 rfl rfl 1 (by decide) (hts (.fieldLink RX0 19 "CircleCells$Sites" "y" "[I") (by decide +kernel)) (fun _ h9 => h9) rfl dX0_layThrough_35 ?_
  refine lv_iload_n hx hb dX0_layThrough_38 rfl (lv_at hl 4 rfl) ?_
  refine q_iald hx hb hK hP 3 0 rfl rfl (b) rfl (by omega) (by decide) dX0_layThrough_39 ?_
  refine lv_aload_n hx hb dX0_layThrough_40 rfl (lv_at hl 1 rfl) ?_
  refine va_get (D := (dC, dI)) (ci := 0) (v := .int (y a)) (C := RX0) (T := TX0) (N := 5) hx hb hts (by decide +kernel) hown hK hP 0 rfl rfl 1 (by decide) (hts (.fieldLink RX0 22 "CircleCells$Circle" "fromY" "I") (by decide +kernel)) (fun _ h9 => h9) rfl dX0_layThrough_41 ?_
  refine lv_isub hx hb dX0_layThrough_44 ?_
  refine lv_i2l (v := ((y b) - (y a)).toInt64) hx hb dX0_layThrough_45 rfl ?_
  refine lv_lstore (lv' := [(7, .long (((y b) - (y a)).toInt64)), (5, .long (((x b) - (x a)).toInt64)), (0, .ref g0), (1, .ref s0), (2, .int (nI a)), (3, .int (nI b)), (4, .int (nI d))]) hx hb dX0_layThrough_46 hl (by decide) rfl (fun ls hl => ?_)
  refine lv_aload_n hx hb dX0_layThrough_48 rfl (lv_at hl 3 rfl) ?_
  refine va_get (D := (dC, dI)) (ci := 2) (v := .ref xa) (C := RX2) (T := TX2) (N := 3) hx hb hts (by decide +kernel) hown hK hP 1 rfl rfl 0 (by decide) (hts (.fieldLink RX0 7 "CircleCells$Sites" "x" "[I") (by decide +kernel)) (fun _ h9 => h9) rfl dX0_layThrough_49 ?_
  refine lv_iload hx hb dX0_layThrough_52 (lv_at hl 6 rfl) ?_
  refine q_iald hx hb hK hP 2 0 rfl rfl (d) rfl (by omega) (by decide) dX0_layThrough_54 ?_
  refine lv_aload_n hx hb dX0_layThrough_55 rfl (lv_at hl 2 rfl) ?_
  refine va_get (D := (dC, dI)) (ci := 0) (v := .int (x a)) (C := RX0) (T := TX0) (N := 5) hx hb hts (by decide +kernel) hown hK hP 0 rfl rfl 0 (by decide) (hts (.fieldLink RX0 13 "CircleCells$Circle" "fromX" "I") (by decide +kernel)) (fun _ h9 => h9) rfl dX0_layThrough_56 ?_
  refine lv_isub hx hb dX0_layThrough_59 ?_
  refine lv_i2l (v := ((x d) - (x a)).toInt64) hx hb dX0_layThrough_60 rfl ?_
  refine lv_lstore (lv' := [(9, .long (((x d) - (x a)).toInt64)), (7, .long (((y b) - (y a)).toInt64)), (5, .long (((x b) - (x a)).toInt64)), (0, .ref g0), (1, .ref s0), (2, .int (nI a)), (3, .int (nI b)), (4, .int (nI d))]) hx hb dX0_layThrough_61 hl (by decide) rfl (fun ls hl => ?_)
  refine lv_aload_n hx hb dX0_layThrough_63 rfl (lv_at hl 4 rfl) ?_
  refine va_get (D := (dC, dI)) (ci := 2) (v := .ref ya) (C := RX2) (T := TX2) (N := 3) hx hb hts (by decide +kernel) hown hK hP 1 rfl rfl 1 (by decide) (hts (.fieldLink RX0 19 "CircleCells$Sites" "y" "[I") (by decide +kernel)) (fun _ h9 => h9) rfl dX0_layThrough_64 ?_
  refine lv_iload hx hb dX0_layThrough_67 (lv_at hl 7 rfl) ?_
  refine q_iald hx hb hK hP 3 0 rfl rfl (d) rfl (by omega) (by decide) dX0_layThrough_69 ?_
  refine lv_aload_n hx hb dX0_layThrough_70 rfl (lv_at hl 3 rfl) ?_
  refine va_get (D := (dC, dI)) (ci := 0) (v := .int (y a)) (C := RX0) (T := TX0) (N := 5) hx hb hts (by decide +kernel) hown hK hP 0 rfl rfl 1 (by decide) (hts (.fieldLink RX0 22 "CircleCells$Circle" "fromY" "I") (by decide +kernel)) (fun _ h9 => h9) rfl dX0_layThrough_71 ?_
  refine lv_isub hx hb dX0_layThrough_74 ?_
  refine lv_i2l (v := ((y d) - (y a)).toInt64) hx hb dX0_layThrough_75 rfl ?_
  refine lv_lstore (lv' := [(11, .long (((y d) - (y a)).toInt64)), (9, .long (((x d) - (x a)).toInt64)), (7, .long (((y b) - (y a)).toInt64)), (5, .long (((x b) - (x a)).toInt64)), (0, .ref g0), (1, .ref s0), (2, .int (nI a)), (3, .int (nI b)), (4, .int (nI d))]) hx hb dX0_layThrough_76 hl (by decide) rfl (fun ls hl => ?_)
  refine lv_lload hx hb dX0_layThrough_78 (lv_at hl 3 rfl) ?_
  refine lv_lload hx hb dX0_layThrough_80 (lv_at hl 3 rfl) ?_
  refine lv_lmul hx hb dX0_layThrough_82 ?_
  refine lv_lload hx hb dX0_layThrough_83 (lv_at hl 2 rfl) ?_
  refine lv_lload hx hb dX0_layThrough_85 (lv_at hl 2 rfl) ?_
  refine lv_lmul hx hb dX0_layThrough_87 ?_
  refine lv_ladd hx hb dX0_layThrough_88 ?_
  refine lv_lstore (lv' := [(13, .long (((((x b) - (x a)).toInt64) * (((x b) - (x a)).toInt64)) + ((((y b) - (y a)).toInt64) * (((y b) - (y a)).toInt64)))), (11, .long (((y d) - (y a)).toInt64)), (9, .long (((x d) - (x a)).toInt64)), (7, .long (((y b) - (y a)).toInt64)), (5, .long (((x b) - (x a)).toInt64)), (0, .ref g0), (1, .ref s0), (2, .int (nI a)), (3, .int (nI b)), (4, .int (nI d))]) hx hb dX0_layThrough_89 hl (by decide) rfl (fun ls hl => ?_)
  refine lv_lload hx hb dX0_layThrough_91 (lv_at hl 2 rfl) ?_
  refine lv_lload hx hb dX0_layThrough_93 (lv_at hl 2 rfl) ?_
  refine lv_lmul hx hb dX0_layThrough_95 ?_
  refine lv_lload hx hb dX0_layThrough_96 (lv_at hl 1 rfl) ?_
  refine lv_lload hx hb dX0_layThrough_98 (lv_at hl 1 rfl) ?_
  refine lv_lmul hx hb dX0_layThrough_100 ?_
  refine lv_ladd hx hb dX0_layThrough_101 ?_
  refine lv_lstore (lv' := [(15, .long (((((x d) - (x a)).toInt64) * (((x d) - (x a)).toInt64)) + ((((y d) - (y a)).toInt64) * (((y d) - (y a)).toInt64)))), (13, .long (((((x b) - (x a)).toInt64) * (((x b) - (x a)).toInt64)) + ((((y b) - (y a)).toInt64) * (((y b) - (y a)).toInt64)))), (11, .long (((y d) - (y a)).toInt64)), (9, .long (((x d) - (x a)).toInt64)), (7, .long (((y b) - (y a)).toInt64)), (5, .long (((x b) - (x a)).toInt64)), (0, .ref g0), (1, .ref s0), (2, .int (nI a)), (3, .int (nI b)), (4, .int (nI d))]) hx hb dX0_layThrough_102 hl (by decide) rfl (fun ls hl => ?_)
  refine lv_aload_n hx hb dX0_layThrough_104 rfl (lv_at hl 6 rfl) ?_
  refine lv_lload hx hb dX0_layThrough_105 (lv_at hl 2 rfl) ?_
  refine lv_lload hx hb dX0_layThrough_107 (lv_at hl 1 rfl) ?_
  refine lv_lmul hx hb dX0_layThrough_109 ?_
  refine lv_lload hx hb dX0_layThrough_110 (lv_at hl 4 rfl) ?_
  refine lv_lload hx hb dX0_layThrough_112 (lv_at hl 0 rfl) ?_
  refine lv_lmul hx hb dX0_layThrough_114 ?_
  refine lv_lsub hx hb dX0_layThrough_115 ?_
  refine va_put (D := (dC, dI)) (ci := 0) (v := .long (((((y d) - (y a)).toInt64) * (((((x b) - (x a)).toInt64) * (((x b) - (x a)).toInt64)) + ((((y b) - (y a)).toInt64) * (((y b) - (y a)).toInt64)))) - ((((y b) - (y a)).toInt64) * (((((x d) - (x a)).toInt64) * (((x d) - (x a)).toInt64)) + ((((y d) - (y a)).toInt64) * (((y d) - (y a)).toInt64)))))) (ty := .long) (C := RX0) (T := TX0) (N := 5) hx hb hts (by decide +kernel) tyX0 tyX0_ok nmX0 hown hK hP hD hS 0 rfl rfl 2 (by decide) (hts (.fieldLink RX0 25 "CircleCells$Circle" "aimX" "J") (by decide +kernel)) (fun _ h9 => h9) rfl (by decide +kernel) rfl rfl (Nat.le_of_ble_eq_true rfl) dX0_layThrough_116 (fun H locs hP hD hS => ?_)
  have hP : va_P (dC, dI) vwCl [(g0, .inr (0, [.int (x a), .int (y a), .long (((((y d) - (y a)).toInt64) * (((((x b) - (x a)).toInt64) * (((x b) - (x a)).toInt64)) + ((((y b) - (y a)).toInt64) * (((y b) - (y a)).toInt64)))) - ((((y b) - (y a)).toInt64) * (((((x d) - (x a)).toInt64) * (((x d) - (x a)).toInt64)) + ((((y d) - (y a)).toInt64) * (((y d) - (y a)).toInt64))))), .long ay, .long sp])), (s0, .inr (2, [.ref xa, .ref ya, .int n])), (xa, .inl (cI, 20, .inl x)), (ya, .inl (cI, 20, .inl y))] H := hP
  have hD : va_D A [(g0, .inr (0, [.int (x a), .int (y a), .long (((((y d) - (y a)).toInt64) * (((((x b) - (x a)).toInt64) * (((x b) - (x a)).toInt64)) + ((((y b) - (y a)).toInt64) * (((y b) - (y a)).toInt64)))) - ((((y b) - (y a)).toInt64) * (((((x d) - (x a)).toInt64) * (((x d) - (x a)).toInt64)) + ((((y d) - (y a)).toInt64) * (((y d) - (y a)).toInt64))))), .long ay, .long sp])), (s0, .inr (2, [.ref xa, .ref ya, .int n])), (xa, .inl (cI, 20, .inl x)), (ya, .inl (cI, 20, .inl y))] := hD
  refine lv_aload_n hx hb dX0_layThrough_119 rfl (lv_at hl 6 rfl) ?_
  refine lv_lload hx hb dX0_layThrough_120 (lv_at hl 5 rfl) ?_
  refine lv_lload hx hb dX0_layThrough_122 (lv_at hl 0 rfl) ?_
  refine lv_lmul hx hb dX0_layThrough_124 ?_
  refine lv_lload hx hb dX0_layThrough_125 (lv_at hl 3 rfl) ?_
  refine lv_lload hx hb dX0_layThrough_127 (lv_at hl 1 rfl) ?_
  refine lv_lmul hx hb dX0_layThrough_129 ?_
  refine lv_lsub hx hb dX0_layThrough_130 ?_
  refine va_put (D := (dC, dI)) (ci := 0) (v := .long (((((x b) - (x a)).toInt64) * (((((x d) - (x a)).toInt64) * (((x d) - (x a)).toInt64)) + ((((y d) - (y a)).toInt64) * (((y d) - (y a)).toInt64)))) - ((((x d) - (x a)).toInt64) * (((((x b) - (x a)).toInt64) * (((x b) - (x a)).toInt64)) + ((((y b) - (y a)).toInt64) * (((y b) - (y a)).toInt64)))))) (ty := .long) (C := RX0) (T := TX0) (N := 5) hx hb hts (by decide +kernel) tyX0 tyX0_ok nmX0 hown hK hP hD hS 0 rfl rfl 3 (by decide) (hts (.fieldLink RX0 29 "CircleCells$Circle" "aimY" "J") (by decide +kernel)) (fun _ h9 => h9) rfl (by decide +kernel) rfl rfl (Nat.le_of_ble_eq_true rfl) dX0_layThrough_131 (fun H locs hP hD hS => ?_)
  have hP : va_P (dC, dI) vwCl [(g0, .inr (0, [.int (x a), .int (y a), .long (((((y d) - (y a)).toInt64) * (((((x b) - (x a)).toInt64) * (((x b) - (x a)).toInt64)) + ((((y b) - (y a)).toInt64) * (((y b) - (y a)).toInt64)))) - ((((y b) - (y a)).toInt64) * (((((x d) - (x a)).toInt64) * (((x d) - (x a)).toInt64)) + ((((y d) - (y a)).toInt64) * (((y d) - (y a)).toInt64))))), .long (((((x b) - (x a)).toInt64) * (((((x d) - (x a)).toInt64) * (((x d) - (x a)).toInt64)) + ((((y d) - (y a)).toInt64) * (((y d) - (y a)).toInt64)))) - ((((x d) - (x a)).toInt64) * (((((x b) - (x a)).toInt64) * (((x b) - (x a)).toInt64)) + ((((y b) - (y a)).toInt64) * (((y b) - (y a)).toInt64))))), .long sp])), (s0, .inr (2, [.ref xa, .ref ya, .int n])), (xa, .inl (cI, 20, .inl x)), (ya, .inl (cI, 20, .inl y))] H := hP
  have hD : va_D A [(g0, .inr (0, [.int (x a), .int (y a), .long (((((y d) - (y a)).toInt64) * (((((x b) - (x a)).toInt64) * (((x b) - (x a)).toInt64)) + ((((y b) - (y a)).toInt64) * (((y b) - (y a)).toInt64)))) - ((((y b) - (y a)).toInt64) * (((((x d) - (x a)).toInt64) * (((x d) - (x a)).toInt64)) + ((((y d) - (y a)).toInt64) * (((y d) - (y a)).toInt64))))), .long (((((x b) - (x a)).toInt64) * (((((x d) - (x a)).toInt64) * (((x d) - (x a)).toInt64)) + ((((y d) - (y a)).toInt64) * (((y d) - (y a)).toInt64)))) - ((((x d) - (x a)).toInt64) * (((((x b) - (x a)).toInt64) * (((x b) - (x a)).toInt64)) + ((((y b) - (y a)).toInt64) * (((y b) - (y a)).toInt64))))), .long sp])), (s0, .inr (2, [.ref xa, .ref ya, .int n])), (xa, .inl (cI, 20, .inl x)), (ya, .inl (cI, 20, .inl y))] := hD
  refine lv_aload_n hx hb dX0_layThrough_134 rfl (lv_at hl 6 rfl) ?_
  refine lv_ldc2 (v := 2) hx hb hown (hts (.constantLong RX0 32 (2)) (by decide +kernel)) dX0_layThrough_135 ?_
  refine lv_lload hx hb dX0_layThrough_138 (lv_at hl 5 rfl) ?_
  refine lv_lload hx hb dX0_layThrough_140 (lv_at hl 2 rfl) ?_
  refine lv_lmul hx hb dX0_layThrough_142 ?_
  refine lv_lload hx hb dX0_layThrough_143 (lv_at hl 4 rfl) ?_
  refine lv_lload hx hb dX0_layThrough_145 (lv_at hl 3 rfl) ?_
  refine lv_lmul hx hb dX0_layThrough_147 ?_
  refine lv_lsub hx hb dX0_layThrough_148 ?_
  refine lv_lmul hx hb dX0_layThrough_149 ?_
  refine va_put (D := (dC, dI)) (ci := 0) (v := .long (2 * (((((x b) - (x a)).toInt64) * (((y d) - (y a)).toInt64)) - ((((y b) - (y a)).toInt64) * (((x d) - (x a)).toInt64))))) (ty := .long) (C := RX0) (T := TX0) (N := 5) hx hb hts (by decide +kernel) tyX0 tyX0_ok nmX0 hown hK hP hD hS 0 rfl rfl 4 (by decide) (hts (.fieldLink RX0 34 "CircleCells$Circle" "span" "J") (by decide +kernel)) (fun _ h9 => h9) rfl (by decide +kernel) rfl rfl (Nat.le_of_ble_eq_true rfl) dX0_layThrough_150 (fun H locs hP hD hS => ?_)
  have hP : va_P (dC, dI) vwCl [(g0, .inr (0, [.int (x a), .int (y a), .long (((((y d) - (y a)).toInt64) * (((((x b) - (x a)).toInt64) * (((x b) - (x a)).toInt64)) + ((((y b) - (y a)).toInt64) * (((y b) - (y a)).toInt64)))) - ((((y b) - (y a)).toInt64) * (((((x d) - (x a)).toInt64) * (((x d) - (x a)).toInt64)) + ((((y d) - (y a)).toInt64) * (((y d) - (y a)).toInt64))))), .long (((((x b) - (x a)).toInt64) * (((((x d) - (x a)).toInt64) * (((x d) - (x a)).toInt64)) + ((((y d) - (y a)).toInt64) * (((y d) - (y a)).toInt64)))) - ((((x d) - (x a)).toInt64) * (((((x b) - (x a)).toInt64) * (((x b) - (x a)).toInt64)) + ((((y b) - (y a)).toInt64) * (((y b) - (y a)).toInt64))))), .long (2 * (((((x b) - (x a)).toInt64) * (((y d) - (y a)).toInt64)) - ((((y b) - (y a)).toInt64) * (((x d) - (x a)).toInt64))))])), (s0, .inr (2, [.ref xa, .ref ya, .int n])), (xa, .inl (cI, 20, .inl x)), (ya, .inl (cI, 20, .inl y))] H := hP
  have hD : va_D A [(g0, .inr (0, [.int (x a), .int (y a), .long (((((y d) - (y a)).toInt64) * (((((x b) - (x a)).toInt64) * (((x b) - (x a)).toInt64)) + ((((y b) - (y a)).toInt64) * (((y b) - (y a)).toInt64)))) - ((((y b) - (y a)).toInt64) * (((((x d) - (x a)).toInt64) * (((x d) - (x a)).toInt64)) + ((((y d) - (y a)).toInt64) * (((y d) - (y a)).toInt64))))), .long (((((x b) - (x a)).toInt64) * (((((x d) - (x a)).toInt64) * (((x d) - (x a)).toInt64)) + ((((y d) - (y a)).toInt64) * (((y d) - (y a)).toInt64)))) - ((((x d) - (x a)).toInt64) * (((((x b) - (x a)).toInt64) * (((x b) - (x a)).toInt64)) + ((((y b) - (y a)).toInt64) * (((y b) - (y a)).toInt64))))), .long (2 * (((((x b) - (x a)).toInt64) * (((y d) - (y a)).toInt64)) - ((((y b) - (y a)).toInt64) * (((x d) - (x a)).toInt64))))])), (s0, .inr (2, [.ref xa, .ref ya, .int n])), (xa, .inl (cI, 20, .inl x)), (ya, .inl (cI, 20, .inl y))] := hD
  exact W.vret hx hb hr (q_retm hP hS) hS.2.2 dX0_layThrough_153
set_option maxHeartbeats 4000000 in
set_option maxRecDepth 100000 in
theorem c_X1_layLeftOf (l : Launch) (dC : Nat → ClassId) (dI : Nat → Nat → Nat) (m0 s0 g0 ra sa oa ma : Nat) (cI : ClassId) (xa ya : Nat) (cc rc : Int32) (x y : Nat → Int32) (fx fy : Int32) (ax ay sp : Int64) (n a b : Nat) (ln : n ≤ 20) (la : a < n) (lb : b < n) (R : Bool × Int32 × Int32 × Int64 × Int64 × Int64) (hR : j_left x y n a b false (fx, fy, ax, ay, sp) 0 = R) : Met l yX1_layLeftOf wsX1_layLeftOf ({ frames := 2, cells := 0, slots := 0, locals := 47 }) (q_Pm (dC, dI) [.ref m0, .int (nI a), .int (nI b)] [(m0, .inr (1, [.ref s0, .ref g0, .ref ra, .ref sa, .ref oa, .int cc, .ref ma, .int rc])), (g0, .inr (0, [.int fx, .int fy, .long ax, .long ay, .long sp])), (s0, .inr (2, [.ref xa, .ref ya, .int (nI n)])), (xa, .inl (cI, 20, .inl x)), (ya, .inl (cI, 20, .inl y))] [(cI, .int)]) (q_Qm (dC, dI) (q_in [(m0, .inr (1, [.ref s0, .ref g0, .ref ra, .ref sa, .ref oa, .int cc, .ref ma, .int rc])), (g0, .inr (0, [.int fx, .int fy, .long ax, .long ay, .long sp])), (s0, .inr (2, [.ref xa, .ref ya, .int (nI n)])), (xa, .inl (cI, 20, .inl x)), (ya, .inl (cI, 20, .inl y))]) (some (.int (bI R.1))) [(m0, .inr (1, [.ref s0, .ref g0, .ref ra, .ref sa, .ref oa, .int cc, .ref ma, .int rc])), (g0, .inr (0, [.int R.2.1, .int R.2.2.1, .long R.2.2.2.1, .long R.2.2.2.2.1, .long R.2.2.2.2.2])), (s0, .inr (2, [.ref xa, .ref ya, .int (nI n)])), (xa, .inl (cI, 20, .inl x)), (ya, .inl (cI, 20, .inl y))]) 0 0 (q_in [(m0, .inr (1, [.ref s0, .ref g0, .ref ra, .ref sa, .ref oa, .int cc, .ref ma, .int rc])), (g0, .inr (0, [.int fx, .int fy, .long ax, .long ay, .long sp])), (s0, .inr (2, [.ref xa, .ref ya, .int (nI n)])), (xa, .inl (cI, 20, .inl x)), (ya, .inl (cI, 20, .inl y))]) := by
  refine Met.ofW (cc := cX1_layLeftOf) (maxL := 5) (ret := (some .boolean)) (by decide) rfl ?_
  intro p e s m args below meth c s₁ B hml hv
  obtain ⟨rfl, hP, hK, hD0⟩ := hv
  have hx := B.exec
  have hb := B.bytes
  have hr := B.returns
  have hts := atoms_spec (ws := wsX1_layLeftOf) B.pre
  have hown : s.vm.findClass RX1 = some m.cls := findClass_of_methodNamed B.named
  have hlocks := B.notSynchronized
  have hD := q_inD hD0
  generalize hAe : q_in [(m0, .inr (1, [.ref s0, .ref g0, .ref ra, .ref sa, .ref oa, .int cc, .ref ma, .int rc])), (g0, .inr (0, [.int fx, .int fy, .long ax, .long ay, .long sp])), (s0, .inr (2, [.ref xa, .ref ya, .int (nI n)])), (xa, .inl (cI, 20, .inl x)), (ya, .inl (cI, 20, .inl y))] = A at hD ⊢
  have hS : va_S A s.heap s.heap [] := va_S.rf
  have hP : va_P (dC, dI) vwCl [(m0, .inr (1, [.ref s0, .ref g0, .ref ra, .ref sa, .ref oa, .int cc, .ref ma, .int rc])), (g0, .inr (0, [.int fx, .int fy, .long ax, .long ay, .long sp])), (s0, .inr (2, [.ref xa, .ref ya, .int (nI n)])), (xa, .inl (cI, 20, .inl x)), (ya, .inl (cI, 20, .inl y))] s.heap := hP
  have hl := lv_entry ([.ref m0, .int (nI a), .int (nI b)]) (n := 5) (Nat.le_of_ble_eq_true rfl)
  rw [lg_entry_eq]
  generalize (lg_sl ([.ref m0, .int (nI a), .int (nI b)]) ++ List.replicate (5 - (lg_sl ([.ref m0, .int (nI a), .int (nI b)])).length) Slot.unset).toArray = ls at hl ⊢
  have hl : lv_has ls 5 [(0, .ref m0), (1, .int (nI a)), (2, .int (nI b))] := hl
  refine lv_iconst (v := bI false) hx hb dX1_layLeftOf_0 (by decide) ?_
  refine lv_istore_n (lv' := [(3, .int (bI false)), (0, .ref m0), (1, .int (nI a)), (2, .int (nI b))]) hx hb dX1_layLeftOf_1 rfl hl (by decide) rfl (fun ls hl => ?_)
  refine lv_iconst (v := nI 0) hx hb dX1_layLeftOf_2 (by decide) ?_
  refine lv_istore (lv' := [(4, .int (nI 0)), (3, .int (bI false)), (0, .ref m0), (1, .int (nI a)), (2, .int (nI b))]) hx hb dX1_layLeftOf_3 hl (by decide) rfl (fun ls hl => ?_)
  have loop : ∀ (f : Nat) (t : Bool) (K : Int32 × Int32 × Int64 × Int64 × Int64) (k : Nat) (R : Bool × Int32 × Int32 × Int64 × Int64 × Int64) (H : Heap) (locs : List Loc) (ls : Array Slot), (k ≤ n) → (n + 1 ≤ k + f) → j_left x y n a b t K k = R → va_P (dC, dI) vwCl [(m0, .inr (1, [.ref s0, .ref g0, .ref ra, .ref sa, .ref oa, .int cc, .ref ma, .int rc])), (g0, .inr (0, [.int K.1, .int K.2.1, .long K.2.2.1, .long K.2.2.2.1, .long K.2.2.2.2])), (s0, .inr (2, [.ref xa, .ref ya, .int (nI n)])), (xa, .inl (cI, 20, .inl x)), (ya, .inl (cI, 20, .inl y))] H → va_D A [(m0, .inr (1, [.ref s0, .ref g0, .ref ra, .ref sa, .ref oa, .int cc, .ref ma, .int rc])), (g0, .inr (0, [.int K.1, .int K.2.1, .long K.2.2.1, .long K.2.2.2.1, .long K.2.2.2.2])), (s0, .inr (2, [.ref xa, .ref ya, .int (nI n)])), (xa, .inl (cI, 20, .inl x)), (ya, .inl (cI, 20, .inl y))] → va_S A s.heap H locs → lv_has ls 5 [(0, .ref m0), (1, .int (nI a)), (2, .int (nI b)), (3, .int (bI t)), (4, .int (nI k))] → W p l e (headSpec wsX1_layLeftOf ({ frames := 2, cells := 0, slots := 0, locals := 47 })).room s m ([.ref m0, .int (nI a), .int (nI b)] : List Value).toArray below meth c H locs 0 0 (MQ below (q_Qm (dC, dI) A (some (.int (bI R.1))) [(m0, .inr (1, [.ref s0, .ref g0, .ref ra, .ref sa, .ref oa, .int cc, .ref ma, .int rc])), (g0, .inr (0, [.int R.2.1, .int R.2.2.1, .long R.2.2.2.1, .long R.2.2.2.2.1, .long R.2.2.2.2.2])), (s0, .inr (2, [.ref xa, .ref ya, .int (nI n)])), (xa, .inl (cI, 20, .inl x)), (ya, .inl (cI, 20, .inl y))]) ([.ref m0, .int (nI a), .int (nI b)] : List Value).toArray s 0 0 A) (F0 m 5 ls []) := by
    intro f
    induction f with
    | zero =>
      intro t K k R H locs ls h1 h2
      omega
    | succ f ih_loop =>
      intro t K k R H locs ls h1 h2 hF hP hD hS hl
      refine lv_iload hx hb dX1_layLeftOf_5 (lv_at hl 4 rfl) ?_
      refine lv_aload_n hx hb dX1_layLeftOf_7 rfl (lv_at hl 0 rfl) ?_
      refine va_get (D := (dC, dI)) (ci := 1) (v := .ref s0) (C := RX1) (T := TX1) (N := 8) hx hb hts (by decide +kernel) hown hK hP 0 rfl rfl 0 (by decide) (hts (.fieldLink RX1 38 "CircleCells$Mosaic" "sites" "LCircleCells$Sites;") (by decide +kernel)) (fun _ h9 => h9) rfl dX1_layLeftOf_8 ?_
      refine va_get (D := (dC, dI)) (ci := 2) (v := .int (nI n)) (C := RX2) (T := TX2) (N := 3) hx hb hts (by decide +kernel) hown hK hP 2 rfl rfl 2 (by decide) (hts (.fieldLink RX1 48 "CircleCells$Sites" "size" "I") (by decide +kernel)) (fun _ h9 => h9) rfl dX1_layLeftOf_11 ?_
      refine q_icmp_ge (tgt := 69) (by omega) (by omega) hx hb dX1_layLeftOf_14 (by decide) (fun c14 => ?_) (fun c14 => ?_)
      · rw [j_left, if_neg (by omega)] at hF
        subst hF
        refine lv_iload_n hx hb dX1_layLeftOf_69 rfl (lv_at hl 3 rfl) ?_
        exact W.zret (v := bI t) hx hb hr (bI_nar _) (q_retm hP hS) hS.2.2 dX1_layLeftOf_70
      · rw [j_left, if_pos c14] at hF
        refine lv_aload_n hx hb dX1_layLeftOf_17 rfl (lv_at hl 0 rfl) ?_
        refine va_get (D := (dC, dI)) (ci := 1) (v := .ref s0) (C := RX1) (T := TX1) (N := 8) hx hb hts (by decide +kernel) hown hK hP 0 rfl rfl 0 (by decide) (hts (.fieldLink RX1 38 "CircleCells$Mosaic" "sites" "LCircleCells$Sites;") (by decide +kernel)) (fun _ h9 => h9) rfl dX1_layLeftOf_18 ?_
        refine lv_iload_n hx hb dX1_layLeftOf_21 rfl (lv_at hl 1 rfl) ?_
        refine lv_iload_n hx hb dX1_layLeftOf_22 rfl (lv_at hl 2 rfl) ?_
        refine lv_iload hx hb dX1_layLeftOf_23 (lv_at hl 4 rfl) ?_
        refine q_cV (As := [.int (nI a), .int (nI b), .int (nI k)]) (rest := []) ⟨hx, hb, hml, hown, hts⟩ (c_X2_turn_ l dC dI s0 xa ya cI x y (nI n) a b k (by omega) (by omega) (by omega)) (cwV 3 hts gX1_layLeftOf_X2_turn_ rfl rfl rfl (by decide +kernel) ⟨Nat.le_of_ble_eq_true rfl, Nat.le_of_ble_eq_true rfl⟩) (q_pV hK hP [2, 3, 4] [0] 2 2 rfl rfl rfl rfl rfl rfl) rfl hl.1 rfl (Nat.le_of_ble_eq_true rfl) ⟨Nat.zero_le _, Nat.zero_le _⟩ dX1_layLeftOf_25 ?_
        refine lv_if_le (tgt := 63) hx hb dX1_layLeftOf_28 (by decide) (fun c28 => ?_) (fun c28 => ?_)
        · rw [if_pos c28] at hF
          refine lv_iinc (v := nI (k + 1)) (lv' := [(4, .int (nI (k + 1))), (0, .ref m0), (1, .int (nI a)), (2, .int (nI b)), (3, .int (bI t))]) hx hb dX1_layLeftOf_63 hl (k := 4) rfl (by rw [show Int32.ofInt 1 = 1 from rfl]; exact nI_1 _) (by decide) rfl (fun ls hl => ?_)
          refine lv_goto (tgt := 5) hx hb dX1_layLeftOf_66 (by decide) ?_
          exact ih_loop t K (k + 1) R H locs ls (by omega) (by omega) hF hP hD hS (lv_sub hl [1, 2, 3, 4, 0] rfl)
        · rw [if_neg c28] at hF
          refine lv_iload_n hx hb dX1_layLeftOf_31 rfl (lv_at hl 3 rfl) ?_
          refine q_ifb_eq (tgt := 46) hx hb dX1_layLeftOf_32 (by decide) (fun c32 => ?_) (fun c32 => ?_)
          · rw [if_pos c32] at hF
            refine lv_aload_n hx hb dX1_layLeftOf_46 rfl (lv_at hl 0 rfl) ?_
            refine va_get (D := (dC, dI)) (ci := 1) (v := .ref g0) (C := RX1) (T := TX1) (N := 8) hx hb hts (by decide +kernel) hown hK hP 0 rfl rfl 1 (by decide) (hts (.fieldLink RX1 12 "CircleCells$Mosaic" "circle" "LCircleCells$Circle;") (by decide +kernel)) (fun _ h9 => h9) rfl dX1_layLeftOf_47 ?_
            refine lv_aload_n hx hb dX1_layLeftOf_50 rfl (lv_at hl 0 rfl) ?_
            refine va_get (D := (dC, dI)) (ci := 1) (v := .ref s0) (C := RX1) (T := TX1) (N := 8) hx hb hts (by decide +kernel) hown hK hP 0 rfl rfl 0 (by decide) (hts (.fieldLink RX1 38 "CircleCells$Mosaic" "sites" "LCircleCells$Sites;") (by decide +kernel)) (fun _ h9 => h9) rfl dX1_layLeftOf_51 ?_
            refine lv_iload_n hx hb dX1_layLeftOf_54 rfl (lv_at hl 1 rfl) ?_
            refine lv_iload_n hx hb dX1_layLeftOf_55 rfl (lv_at hl 2 rfl) ?_
            refine lv_iload hx hb dX1_layLeftOf_56 (lv_at hl 4 rfl) ?_
            obtain ⟨K2, hK2⟩ : ∃ r : Int32 × Int32 × Int64 × Int64 × Int64, j_lay x y a b k = r := ⟨_, rfl⟩
            refine q_mV (wc' := [(g0, .inr (0, [.int K2.1, .int K2.2.1, .long K2.2.2.1, .long K2.2.2.2.1, .long K2.2.2.2.2])), (s0, .inr (2, [.ref xa, .ref ya, .int (nI n)])), (xa, .inl (cI, 20, .inl x)), (ya, .inl (cI, 20, .inl y))]) (wsN := [(m0, .inr (1, [.ref s0, .ref g0, .ref ra, .ref sa, .ref oa, .int cc, .ref ma, .int rc])), (g0, .inr (0, [.int K2.1, .int K2.2.1, .long K2.2.2.1, .long K2.2.2.2.1, .long K2.2.2.2.2])), (s0, .inr (2, [.ref xa, .ref ya, .int (nI n)])), (xa, .inl (cI, 20, .inl x)), (ya, .inl (cI, 20, .inl y))]) (As := [.ref s0, .int (nI a), .int (nI b), .int (nI k)]) (rest := []) ⟨hx, hb, hml, hown, hts⟩ (c_X0_layThrough l dC dI g0 s0 xa ya cI x y K.1 K.2.1 K.2.2.1 K.2.2.2.1 K.2.2.2.2 (nI n) a b k (by omega) (by omega) (by omega) K2 hK2) (cwV 4 hts gX1_layLeftOf_X0_layThrough rfl rfl rfl (by decide +kernel) ⟨Nat.le_of_ble_eq_true rfl, Nat.le_of_ble_eq_true rfl⟩) hK hP hD hS [1, 2, 3, 4] [0] 0 1 rfl rfl rfl rfl rfl rfl rfl rfl rfl hl.1 rfl (Nat.le_of_ble_eq_true rfl) ⟨Nat.zero_le _, Nat.zero_le _⟩ dX1_layLeftOf_58 rfl (fun H locs hP hD hS => ?_)
            refine W.eq (g2 := F0 m 61 ls []) rfl ?_
            rw [hK2] at hF
            refine lv_iconst (v := bI true) hx hb dX1_layLeftOf_61 (by decide) ?_
            refine lv_istore_n (lv' := [(3, .int (bI true)), (0, .ref m0), (1, .int (nI a)), (2, .int (nI b)), (4, .int (nI k))]) hx hb dX1_layLeftOf_62 rfl hl (by decide) rfl (fun ls hl => ?_)
            refine lv_iinc (v := nI (k + 1)) (lv' := [(4, .int (nI (k + 1))), (3, .int (bI true)), (0, .ref m0), (1, .int (nI a)), (2, .int (nI b))]) hx hb dX1_layLeftOf_63 hl (k := 4) rfl (by rw [show Int32.ofInt 1 = 1 from rfl]; exact nI_1 _) (by decide) rfl (fun ls hl => ?_)
            refine lv_goto (tgt := 5) hx hb dX1_layLeftOf_66 (by decide) ?_
            exact ih_loop true K2 (k + 1) R H locs ls (by omega) (by omega) hF hP hD hS (lv_sub hl [2, 3, 4, 1, 0] rfl)
          · rw [if_neg (by rw [c32]; decide)] at hF
            refine lv_aload_n hx hb dX1_layLeftOf_35 rfl (lv_at hl 0 rfl) ?_
            refine lv_iload hx hb dX1_layLeftOf_36 (lv_at hl 4 rfl) ?_
            refine q_cV (As := [.int (nI k)]) (rest := []) ⟨hx, hb, hml, hown, hts⟩ (c_X1_powerOf l dC dI m0 s0 g0 ra sa oa ma cI xa ya (nI n) cc rc x y K.1 K.2.1 K.2.2.1 K.2.2.2.1 K.2.2.2.2 k (by omega)) (cwV 1 hts gX1_layLeftOf_X1_powerOf rfl rfl rfl (by decide +kernel) ⟨Nat.le_of_ble_eq_true rfl, Nat.le_of_ble_eq_true rfl⟩) (q_pV hK hP [0, 1, 2, 3, 4] [0] 1 0 rfl rfl rfl rfl rfl rfl) rfl hl.1 rfl (Nat.le_of_ble_eq_true rfl) ⟨Nat.zero_le _, Nat.zero_le _⟩ dX1_layLeftOf_38 ?_
            refine lv_lconst (v := 0) hx hb dX1_layLeftOf_41 (by decide) ?_
            refine q_lcmp_ge (tgt := 63) hx hb dX1_layLeftOf_42 dX1_layLeftOf_43 (by decide) (fun c43 => ?_) (fun c43 => ?_)
            · rw [if_pos (show 0 ≤ j_powC K (x k) (y k) from c43)] at hF
              refine lv_iinc (v := nI (k + 1)) (lv' := [(4, .int (nI (k + 1))), (0, .ref m0), (1, .int (nI a)), (2, .int (nI b)), (3, .int (bI t))]) hx hb dX1_layLeftOf_63 hl (k := 4) rfl (by rw [show Int32.ofInt 1 = 1 from rfl]; exact nI_1 _) (by decide) rfl (fun ls hl => ?_)
              refine lv_goto (tgt := 5) hx hb dX1_layLeftOf_66 (by decide) ?_
              exact ih_loop t K (k + 1) R H locs ls (by omega) (by omega) hF hP hD hS (lv_sub hl [1, 2, 3, 4, 0] rfl)
            · rw [if_neg (show ¬ 0 ≤ j_powC K (x k) (y k) from c43)] at hF
              refine lv_aload_n hx hb dX1_layLeftOf_46 rfl (lv_at hl 0 rfl) ?_
              refine va_get (D := (dC, dI)) (ci := 1) (v := .ref g0) (C := RX1) (T := TX1) (N := 8) hx hb hts (by decide +kernel) hown hK hP 0 rfl rfl 1 (by decide) (hts (.fieldLink RX1 12 "CircleCells$Mosaic" "circle" "LCircleCells$Circle;") (by decide +kernel)) (fun _ h9 => h9) rfl dX1_layLeftOf_47 ?_
              refine lv_aload_n hx hb dX1_layLeftOf_50 rfl (lv_at hl 0 rfl) ?_
              refine va_get (D := (dC, dI)) (ci := 1) (v := .ref s0) (C := RX1) (T := TX1) (N := 8) hx hb hts (by decide +kernel) hown hK hP 0 rfl rfl 0 (by decide) (hts (.fieldLink RX1 38 "CircleCells$Mosaic" "sites" "LCircleCells$Sites;") (by decide +kernel)) (fun _ h9 => h9) rfl dX1_layLeftOf_51 ?_
              refine lv_iload_n hx hb dX1_layLeftOf_54 rfl (lv_at hl 1 rfl) ?_
              refine lv_iload_n hx hb dX1_layLeftOf_55 rfl (lv_at hl 2 rfl) ?_
              refine lv_iload hx hb dX1_layLeftOf_56 (lv_at hl 4 rfl) ?_
              obtain ⟨K2, hK2⟩ : ∃ r : Int32 × Int32 × Int64 × Int64 × Int64, j_lay x y a b k = r := ⟨_, rfl⟩
              refine q_mV (wc' := [(g0, .inr (0, [.int K2.1, .int K2.2.1, .long K2.2.2.1, .long K2.2.2.2.1, .long K2.2.2.2.2])), (s0, .inr (2, [.ref xa, .ref ya, .int (nI n)])), (xa, .inl (cI, 20, .inl x)), (ya, .inl (cI, 20, .inl y))]) (wsN := [(m0, .inr (1, [.ref s0, .ref g0, .ref ra, .ref sa, .ref oa, .int cc, .ref ma, .int rc])), (g0, .inr (0, [.int K2.1, .int K2.2.1, .long K2.2.2.1, .long K2.2.2.2.1, .long K2.2.2.2.2])), (s0, .inr (2, [.ref xa, .ref ya, .int (nI n)])), (xa, .inl (cI, 20, .inl x)), (ya, .inl (cI, 20, .inl y))]) (As := [.ref s0, .int (nI a), .int (nI b), .int (nI k)]) (rest := []) ⟨hx, hb, hml, hown, hts⟩ (c_X0_layThrough l dC dI g0 s0 xa ya cI x y K.1 K.2.1 K.2.2.1 K.2.2.2.1 K.2.2.2.2 (nI n) a b k (by omega) (by omega) (by omega) K2 hK2) (cwV 4 hts gX1_layLeftOf_X0_layThrough rfl rfl rfl (by decide +kernel) ⟨Nat.le_of_ble_eq_true rfl, Nat.le_of_ble_eq_true rfl⟩) hK hP hD hS [1, 2, 3, 4] [0] 0 1 rfl rfl rfl rfl rfl rfl rfl rfl rfl hl.1 rfl (Nat.le_of_ble_eq_true rfl) ⟨Nat.zero_le _, Nat.zero_le _⟩ dX1_layLeftOf_58 rfl (fun H locs hP hD hS => ?_)
              refine W.eq (g2 := F0 m 61 ls []) rfl ?_
              rw [hK2] at hF
              refine lv_iconst (v := bI true) hx hb dX1_layLeftOf_61 (by decide) ?_
              refine lv_istore_n (lv' := [(3, .int (bI true)), (0, .ref m0), (1, .int (nI a)), (2, .int (nI b)), (4, .int (nI k))]) hx hb dX1_layLeftOf_62 rfl hl (by decide) rfl (fun ls hl => ?_)
              refine lv_iinc (v := nI (k + 1)) (lv' := [(4, .int (nI (k + 1))), (3, .int (bI true)), (0, .ref m0), (1, .int (nI a)), (2, .int (nI b))]) hx hb dX1_layLeftOf_63 hl (k := 4) rfl (by rw [show Int32.ofInt 1 = 1 from rfl]; exact nI_1 _) (by decide) rfl (fun ls hl => ?_)
              refine lv_goto (tgt := 5) hx hb dX1_layLeftOf_66 (by decide) ?_
              exact ih_loop true K2 (k + 1) R H locs ls (by omega) (by omega) hF hP hD hS (lv_sub hl [2, 3, 4, 1, 0] rfl)
  exact loop (n + 1) false (fx, fy, ax, ay, sp) 0 R _ _ ls (by omega) (by omega) hR hP hD hS (lv_sub hl [2, 3, 4, 1, 0] rfl)
set_option maxHeartbeats 4000000 in
set_option maxRecDepth 100000 in
theorem c_X1_insertRound (l : Launch) (dC : Nat → ClassId) (dI : Nat → Nat → Nat) (m0 s0 g0 ra sa oa ma : Nat) (cI : ClassId) (xa ya : Nat) (cc rc : Int32) (x y : Nat → Int32) (sz : Int32) (rg : Nat → Nat) (fi en v : Nat) (l1 : fi ≤ en) (l2 : en < 105) (lv : v < 20) (lr : ∀ j, rg j < 20) (R : Nat → Nat) (hR : j_ins x y fi v rg en = R) : Met l yX1_insertRound wsX1_insertRound ({ frames := 2, cells := 0, slots := 0, locals := 47 }) (q_Pm (dC, dI) [.ref m0, .int (nI fi), .int (nI en), .int (nI v)] [(m0, .inr (1, [.ref s0, .ref g0, .ref ra, .ref sa, .ref oa, .int cc, .ref ma, .int rc])), (ra, .inl (cI, 105, .inl (fun j9 => nI (rg j9)))), (s0, .inr (2, [.ref xa, .ref ya, .int sz])), (xa, .inl (cI, 20, .inl x)), (ya, .inl (cI, 20, .inl y))] [(cI, .int)]) (q_Qm (dC, dI) (q_in [(m0, .inr (1, [.ref s0, .ref g0, .ref ra, .ref sa, .ref oa, .int cc, .ref ma, .int rc])), (ra, .inl (cI, 105, .inl (fun j9 => nI (rg j9)))), (s0, .inr (2, [.ref xa, .ref ya, .int sz])), (xa, .inl (cI, 20, .inl x)), (ya, .inl (cI, 20, .inl y))]) none [(m0, .inr (1, [.ref s0, .ref g0, .ref ra, .ref sa, .ref oa, .int cc, .ref ma, .int rc])), (ra, .inl (cI, 105, .inl (fun j9 => nI (R j9)))), (s0, .inr (2, [.ref xa, .ref ya, .int sz])), (xa, .inl (cI, 20, .inl x)), (ya, .inl (cI, 20, .inl y))]) 0 0 (q_in [(m0, .inr (1, [.ref s0, .ref g0, .ref ra, .ref sa, .ref oa, .int cc, .ref ma, .int rc])), (ra, .inl (cI, 105, .inl (fun j9 => nI (rg j9)))), (s0, .inr (2, [.ref xa, .ref ya, .int sz])), (xa, .inl (cI, 20, .inl x)), (ya, .inl (cI, 20, .inl y))]) := by
  refine Met.ofW (cc := cX1_insertRound) (maxL := 5) (ret := none) (by decide) rfl ?_
  intro p e s m args below meth c s₁ B hml hv
  obtain ⟨rfl, hP, hK, hD0⟩ := hv
  have hx := B.exec
  have hb := B.bytes
  have hr := B.returns
  have hts := atoms_spec (ws := wsX1_insertRound) B.pre
  have hown : s.vm.findClass RX1 = some m.cls := findClass_of_methodNamed B.named
  have hlocks := B.notSynchronized
  have hD := q_inD hD0
  generalize hAe : q_in [(m0, .inr (1, [.ref s0, .ref g0, .ref ra, .ref sa, .ref oa, .int cc, .ref ma, .int rc])), (ra, .inl (cI, 105, .inl (fun j9 => nI (rg j9)))), (s0, .inr (2, [.ref xa, .ref ya, .int sz])), (xa, .inl (cI, 20, .inl x)), (ya, .inl (cI, 20, .inl y))] = A at hD ⊢
  have hS : va_S A s.heap s.heap [] := va_S.rf
  have hP : va_P (dC, dI) vwCl [(m0, .inr (1, [.ref s0, .ref g0, .ref ra, .ref sa, .ref oa, .int cc, .ref ma, .int rc])), (ra, .inl (cI, 105, .inl (fun j9 => nI (rg j9)))), (s0, .inr (2, [.ref xa, .ref ya, .int sz])), (xa, .inl (cI, 20, .inl x)), (ya, .inl (cI, 20, .inl y))] s.heap := hP
  have hl := lv_entry ([.ref m0, .int (nI fi), .int (nI en), .int (nI v)]) (n := 5) (Nat.le_of_ble_eq_true rfl)
  rw [lg_entry_eq]
  generalize (lg_sl ([.ref m0, .int (nI fi), .int (nI en), .int (nI v)]) ++ List.replicate (5 - (lg_sl ([.ref m0, .int (nI fi), .int (nI en), .int (nI v)])).length) Slot.unset).toArray = ls at hl ⊢
  have hl : lv_has ls 5 [(0, .ref m0), (1, .int (nI fi)), (2, .int (nI en)), (3, .int (nI v))] := hl
  refine lv_iload_n hx hb dX1_insertRound_0 rfl (lv_at hl 2 rfl) ?_
  refine lv_istore (lv' := [(4, .int (nI en)), (0, .ref m0), (1, .int (nI fi)), (2, .int (nI en)), (3, .int (nI v))]) hx hb dX1_insertRound_1 hl (by decide) rfl (fun ls hl => ?_)
  have loop : ∀ (f : Nat) (rg : Nat → Nat) (t : Nat) (R : Nat → Nat) (H : Heap) (locs : List Loc) (ls : Array Slot), (fi ≤ t) → (t < 105) → (t + 1 ≤ f) → (∀ j, rg j < 20) → j_ins x y fi v rg t = R → va_P (dC, dI) vwCl [(m0, .inr (1, [.ref s0, .ref g0, .ref ra, .ref sa, .ref oa, .int cc, .ref ma, .int rc])), (ra, .inl (cI, 105, .inl (fun j9 => nI (rg j9)))), (s0, .inr (2, [.ref xa, .ref ya, .int sz])), (xa, .inl (cI, 20, .inl x)), (ya, .inl (cI, 20, .inl y))] H → va_D A [(m0, .inr (1, [.ref s0, .ref g0, .ref ra, .ref sa, .ref oa, .int cc, .ref ma, .int rc])), (ra, .inl (cI, 105, .inl (fun j9 => nI (rg j9)))), (s0, .inr (2, [.ref xa, .ref ya, .int sz])), (xa, .inl (cI, 20, .inl x)), (ya, .inl (cI, 20, .inl y))] → va_S A s.heap H locs → lv_has ls 5 [(0, .ref m0), (1, .int (nI fi)), (2, .int (nI en)), (3, .int (nI v)), (4, .int (nI t))] → W p l e (headSpec wsX1_insertRound ({ frames := 2, cells := 0, slots := 0, locals := 47 })).room s m ([.ref m0, .int (nI fi), .int (nI en), .int (nI v)] : List Value).toArray below meth c H locs 0 0 (MQ below (q_Qm (dC, dI) A none [(m0, .inr (1, [.ref s0, .ref g0, .ref ra, .ref sa, .ref oa, .int cc, .ref ma, .int rc])), (ra, .inl (cI, 105, .inl (fun j9 => nI (R j9)))), (s0, .inr (2, [.ref xa, .ref ya, .int sz])), (xa, .inl (cI, 20, .inl x)), (ya, .inl (cI, 20, .inl y))]) ([.ref m0, .int (nI fi), .int (nI en), .int (nI v)] : List Value).toArray s 0 0 A) (F0 m 3 ls []) := by
    intro f
    induction f with
    | zero =>
      intro rg t R H locs ls h1 h2 h3 h4
      omega
    | succ f ih_loop =>
      intro rg t R H locs ls h1 h2 h3 h4 hF hP hD hS hl
      refine lv_iload hx hb dX1_insertRound_3 (lv_at hl 4 rfl) ?_
      refine lv_iload_n hx hb dX1_insertRound_5 rfl (lv_at hl 1 rfl) ?_
      refine lv_iconst (v := nI 1) hx hb dX1_insertRound_6 (by decide) ?_
      refine q_iadd hx hb dX1_insertRound_7 ?_
      refine q_icmp_le (tgt := 59) (by omega) (by omega) hx hb dX1_insertRound_8 (by decide) (fun c8 => ?_) (fun c8 => ?_)
      · rw [j_ins, if_pos c8] at hF
        subst hF
        refine lv_aload_n hx hb dX1_insertRound_59 rfl (lv_at hl 0 rfl) ?_
        refine va_get (D := (dC, dI)) (ci := 1) (v := .ref ra) (C := RX1) (T := TX1) (N := 8) hx hb hts (by decide +kernel) hown hK hP 0 rfl rfl 2 (by decide) (hts (.fieldLink RX1 18 "CircleCells$Mosaic" "ring" "[I") (by decide +kernel)) (fun _ h9 => h9) rfl dX1_insertRound_60 ?_
        refine lv_iload hx hb dX1_insertRound_63 (lv_at hl 4 rfl) ?_
        refine lv_iload_n hx hb dX1_insertRound_65 rfl (lv_at hl 3 rfl) ?_
        refine q_iast (ws' := [(m0, .inr (1, [.ref s0, .ref g0, .ref ra, .ref sa, .ref oa, .int cc, .ref ma, .int rc])), (ra, .inl (cI, 105, .inl (fun j9 => nI ((updN rg t v) j9)))), (s0, .inr (2, [.ref xa, .ref ya, .int sz])), (xa, .inl (cI, 20, .inl x)), (ya, .inl (cI, 20, .inl y))]) hx hb hK hP hD hS 1 0 rfl rfl (t) rfl (by omega) (by decide) dX1_insertRound_66 (by rw [upd_nI]; rfl) (fun H locs hP hD hS => ?_)
        exact W.vret hx hb hr (q_retm hP hS) hS.2.2 dX1_insertRound_67
      · rw [j_ins, if_neg (by omega)] at hF
        refine lv_aload_n hx hb dX1_insertRound_11 rfl (lv_at hl 0 rfl) ?_
        refine va_get (D := (dC, dI)) (ci := 1) (v := .ref s0) (C := RX1) (T := TX1) (N := 8) hx hb hts (by decide +kernel) hown hK hP 0 rfl rfl 0 (by decide) (hts (.fieldLink RX1 38 "CircleCells$Mosaic" "sites" "LCircleCells$Sites;") (by decide +kernel)) (fun _ h9 => h9) rfl dX1_insertRound_12 ?_
        refine lv_aload_n hx hb dX1_insertRound_15 rfl (lv_at hl 0 rfl) ?_
        refine va_get (D := (dC, dI)) (ci := 1) (v := .ref ra) (C := RX1) (T := TX1) (N := 8) hx hb hts (by decide +kernel) hown hK hP 0 rfl rfl 2 (by decide) (hts (.fieldLink RX1 18 "CircleCells$Mosaic" "ring" "[I") (by decide +kernel)) (fun _ h9 => h9) rfl dX1_insertRound_16 ?_
        refine lv_iload_n hx hb dX1_insertRound_19 rfl (lv_at hl 1 rfl) ?_
        refine q_iald hx hb hK hP 1 0 rfl rfl (fi) rfl (by omega) (by decide) dX1_insertRound_20 ?_
        refine lv_aload_n hx hb dX1_insertRound_21 rfl (lv_at hl 0 rfl) ?_
        refine va_get (D := (dC, dI)) (ci := 1) (v := .ref ra) (C := RX1) (T := TX1) (N := 8) hx hb hts (by decide +kernel) hown hK hP 0 rfl rfl 2 (by decide) (hts (.fieldLink RX1 18 "CircleCells$Mosaic" "ring" "[I") (by decide +kernel)) (fun _ h9 => h9) rfl dX1_insertRound_22 ?_
        refine lv_iload hx hb dX1_insertRound_25 (lv_at hl 4 rfl) ?_
        refine lv_iconst (v := nI 1) hx hb dX1_insertRound_27 (by decide) ?_
        refine q_isub (by omega) hx hb dX1_insertRound_28 ?_
        refine q_iald hx hb hK hP 1 0 rfl rfl (t - 1) rfl (by omega) (by decide) dX1_insertRound_29 ?_
        refine lv_iload_n hx hb dX1_insertRound_30 rfl (lv_at hl 3 rfl) ?_
        refine q_cV (As := [.int (nI (rg fi)), .int (nI (rg (t - 1))), .int (nI v)]) (rest := []) ⟨hx, hb, hml, hown, hts⟩ (c_X2_turn_ l dC dI s0 xa ya cI x y sz (rg fi) (rg (t - 1)) v (h4 _) (h4 _) (by omega)) (cwV 3 hts gX1_insertRound_X2_turn_ rfl rfl rfl (by decide +kernel) ⟨Nat.le_of_ble_eq_true rfl, Nat.le_of_ble_eq_true rfl⟩) (q_pV hK hP [2, 3, 4] [0] 2 2 rfl rfl rfl rfl rfl rfl) rfl hl.1 rfl (Nat.le_of_ble_eq_true rfl) ⟨Nat.zero_le _, Nat.zero_le _⟩ dX1_insertRound_31 ?_
        refine lv_if_ge (tgt := 59) hx hb dX1_insertRound_34 (by decide) (fun c34 => ?_) (fun c34 => ?_)
        · rw [if_pos c34] at hF
          subst hF
          refine lv_aload_n hx hb dX1_insertRound_59 rfl (lv_at hl 0 rfl) ?_
          refine va_get (D := (dC, dI)) (ci := 1) (v := .ref ra) (C := RX1) (T := TX1) (N := 8) hx hb hts (by decide +kernel) hown hK hP 0 rfl rfl 2 (by decide) (hts (.fieldLink RX1 18 "CircleCells$Mosaic" "ring" "[I") (by decide +kernel)) (fun _ h9 => h9) rfl dX1_insertRound_60 ?_
          refine lv_iload hx hb dX1_insertRound_63 (lv_at hl 4 rfl) ?_
          refine lv_iload_n hx hb dX1_insertRound_65 rfl (lv_at hl 3 rfl) ?_
          refine q_iast (ws' := [(m0, .inr (1, [.ref s0, .ref g0, .ref ra, .ref sa, .ref oa, .int cc, .ref ma, .int rc])), (ra, .inl (cI, 105, .inl (fun j9 => nI ((updN rg t v) j9)))), (s0, .inr (2, [.ref xa, .ref ya, .int sz])), (xa, .inl (cI, 20, .inl x)), (ya, .inl (cI, 20, .inl y))]) hx hb hK hP hD hS 1 0 rfl rfl (t) rfl (by omega) (by decide) dX1_insertRound_66 (by rw [upd_nI]; rfl) (fun H locs hP hD hS => ?_)
          exact W.vret hx hb hr (q_retm hP hS) hS.2.2 dX1_insertRound_67
        · rw [if_neg c34] at hF
          refine lv_aload_n hx hb dX1_insertRound_37 rfl (lv_at hl 0 rfl) ?_
          refine va_get (D := (dC, dI)) (ci := 1) (v := .ref ra) (C := RX1) (T := TX1) (N := 8) hx hb hts (by decide +kernel) hown hK hP 0 rfl rfl 2 (by decide) (hts (.fieldLink RX1 18 "CircleCells$Mosaic" "ring" "[I") (by decide +kernel)) (fun _ h9 => h9) rfl dX1_insertRound_38 ?_
          refine lv_iload hx hb dX1_insertRound_41 (lv_at hl 4 rfl) ?_
          refine lv_aload_n hx hb dX1_insertRound_43 rfl (lv_at hl 0 rfl) ?_
          refine va_get (D := (dC, dI)) (ci := 1) (v := .ref ra) (C := RX1) (T := TX1) (N := 8) hx hb hts (by decide +kernel) hown hK hP 0 rfl rfl 2 (by decide) (hts (.fieldLink RX1 18 "CircleCells$Mosaic" "ring" "[I") (by decide +kernel)) (fun _ h9 => h9) rfl dX1_insertRound_44 ?_
          refine lv_iload hx hb dX1_insertRound_47 (lv_at hl 4 rfl) ?_
          refine lv_iconst (v := nI 1) hx hb dX1_insertRound_49 (by decide) ?_
          refine q_isub (by omega) hx hb dX1_insertRound_50 ?_
          refine q_iald hx hb hK hP 1 0 rfl rfl (t - 1) rfl (by omega) (by decide) dX1_insertRound_51 ?_
          refine q_iast (ws' := [(m0, .inr (1, [.ref s0, .ref g0, .ref ra, .ref sa, .ref oa, .int cc, .ref ma, .int rc])), (ra, .inl (cI, 105, .inl (fun j9 => nI ((updN rg t (rg (t - 1))) j9)))), (s0, .inr (2, [.ref xa, .ref ya, .int sz])), (xa, .inl (cI, 20, .inl x)), (ya, .inl (cI, 20, .inl y))]) hx hb hK hP hD hS 1 0 rfl rfl (t) rfl (by omega) (by decide) dX1_insertRound_52 (by rw [upd_nI]; rfl) (fun H locs hP hD hS => ?_)
          refine lv_iinc (v := nI (t - 1)) (lv' := [(4, .int (nI (t - 1))), (0, .ref m0), (1, .int (nI fi)), (2, .int (nI en)), (3, .int (nI v))]) hx hb dX1_insertRound_53 hl (k := 4) rfl (by rw [show Int32.ofInt (-1) = -1 from rfl]; exact sb_m1 (by omega)) (by decide) rfl (fun ls hl => ?_)
          refine lv_goto (tgt := 3) hx hb dX1_insertRound_56 (by decide) ?_
          exact ih_loop (updN rg t (rg (t - 1))) (t - 1) R H locs ls (by omega) (by omega) (by omega) (updN_lt h4 (h4 _)) hF hP hD hS (lv_sub hl [1, 2, 3, 4, 0] rfl)
  exact loop (en + 1) rg en R _ _ ls (by omega) (by omega) (by omega) lr hR hP hD hS (lv_sub hl [1, 2, 3, 4, 0] rfl)
set_option maxHeartbeats 4000000 in
set_option maxRecDepth 100000 in
theorem c_X1_claimSides (l : Launch) (dC : Nat → ClassId) (dI : Nat → Nat → Nat) (m0 s0 g0 ra sa oa ma : Nat) (cI : ClassId) (cc rc : Int32) (rg sr : Nat → Nat) (ow : Nat → Int32) (d : Nat) (ld : d < 35) (lm : sr d ≤ sr (d + 1)) (le : sr (d + 1) ≤ 105) (lr : ∀ j, rg j < 20) (R : Nat → Int32) (hR : j_claim rg sr d ow 0 = R) : Met l yX1_claimSides wsX1_claimSides ({ frames := 2, cells := 0, slots := 0, locals := 44 }) (q_Pm (dC, dI) [.ref m0, .int (nI d)] [(m0, .inr (1, [.ref s0, .ref g0, .ref ra, .ref sa, .ref oa, .int cc, .ref ma, .int rc])), (ra, .inl (cI, 105, .inl (fun j9 => nI (rg j9)))), (sa, .inl (cI, 36, .inl (fun j9 => nI (sr j9)))), (oa, .inl (cI, 400, .inl ow))] [(cI, .int)]) (q_Qm (dC, dI) (q_in [(m0, .inr (1, [.ref s0, .ref g0, .ref ra, .ref sa, .ref oa, .int cc, .ref ma, .int rc])), (ra, .inl (cI, 105, .inl (fun j9 => nI (rg j9)))), (sa, .inl (cI, 36, .inl (fun j9 => nI (sr j9)))), (oa, .inl (cI, 400, .inl ow))]) none [(m0, .inr (1, [.ref s0, .ref g0, .ref ra, .ref sa, .ref oa, .int cc, .ref ma, .int rc])), (ra, .inl (cI, 105, .inl (fun j9 => nI (rg j9)))), (sa, .inl (cI, 36, .inl (fun j9 => nI (sr j9)))), (oa, .inl (cI, 400, .inl R))]) 0 0 (q_in [(m0, .inr (1, [.ref s0, .ref g0, .ref ra, .ref sa, .ref oa, .int cc, .ref ma, .int rc])), (ra, .inl (cI, 105, .inl (fun j9 => nI (rg j9)))), (sa, .inl (cI, 36, .inl (fun j9 => nI (sr j9)))), (oa, .inl (cI, 400, .inl ow))]) := by
  refine Met.ofW (cc := cX1_claimSides) (maxL := 4) (ret := none) (by decide) rfl ?_
  intro p e s m args below meth c s₁ B hml hv
  obtain ⟨rfl, hP, hK, hD0⟩ := hv
  have hx := B.exec
  have hb := B.bytes
  have hr := B.returns
  have hts := atoms_spec (ws := wsX1_claimSides) B.pre
  have hown : s.vm.findClass RX1 = some m.cls := findClass_of_methodNamed B.named
  have hlocks := B.notSynchronized
  have hD := q_inD hD0
  generalize hAe : q_in [(m0, .inr (1, [.ref s0, .ref g0, .ref ra, .ref sa, .ref oa, .int cc, .ref ma, .int rc])), (ra, .inl (cI, 105, .inl (fun j9 => nI (rg j9)))), (sa, .inl (cI, 36, .inl (fun j9 => nI (sr j9)))), (oa, .inl (cI, 400, .inl ow))] = A at hD ⊢
  have hS : va_S A s.heap s.heap [] := va_S.rf
  have hP : va_P (dC, dI) vwCl [(m0, .inr (1, [.ref s0, .ref g0, .ref ra, .ref sa, .ref oa, .int cc, .ref ma, .int rc])), (ra, .inl (cI, 105, .inl (fun j9 => nI (rg j9)))), (sa, .inl (cI, 36, .inl (fun j9 => nI (sr j9)))), (oa, .inl (cI, 400, .inl ow))] s.heap := hP
  have hl := lv_entry ([.ref m0, .int (nI d)]) (n := 4) (Nat.le_of_ble_eq_true rfl)
  rw [lg_entry_eq]
  generalize (lg_sl ([.ref m0, .int (nI d)]) ++ List.replicate (4 - (lg_sl ([.ref m0, .int (nI d)])).length) Slot.unset).toArray = ls at hl ⊢
  have hl : lv_has ls 4 [(0, .ref m0), (1, .int (nI d))] := hl
  refine lv_aload_n hx hb dX1_claimSides_0 rfl (lv_at hl 0 rfl) ?_
  refine lv_iload_n hx hb dX1_claimSides_1 rfl (lv_at hl 1 rfl) ?_
  refine q_cV (As := [.int (nI d)]) (rest := []) ⟨hx, hb, hml, hown, hts⟩ (c_X1_sideCount l dC dI m0 s0 g0 ra sa oa ma cI cc rc sr d (by omega) (by omega)) (cwV 1 hts gX1_claimSides_X1_sideCount rfl rfl rfl (by decide +kernel) ⟨Nat.le_of_ble_eq_true rfl, Nat.le_of_ble_eq_true rfl⟩) (q_pV hK hP [0, 2] [0] 1 0 rfl rfl rfl rfl rfl rfl) rfl hl.1 rfl (Nat.le_of_ble_eq_true rfl) ⟨Nat.zero_le _, Nat.zero_le _⟩ dX1_claimSides_2 ?_
  refine lv_istore_n (lv' := [(2, .int (nI (sr (d + 1) - sr d))), (0, .ref m0), (1, .int (nI d))]) hx hb dX1_claimSides_5 rfl hl (by decide) rfl (fun ls hl => ?_)
  refine lv_iconst (v := nI 0) hx hb dX1_claimSides_6 (by decide) ?_
  refine lv_istore_n (lv' := [(3, .int (nI 0)), (2, .int (nI (sr (d + 1) - sr d))), (0, .ref m0), (1, .int (nI d))]) hx hb dX1_claimSides_7 rfl hl (by decide) rfl (fun ls hl => ?_)
  have loop : ∀ (f : Nat) (ow : Nat → Int32) (i : Nat) (R : Nat → Int32) (H : Heap) (locs : List Loc) (ls : Array Slot), (i ≤ sr (d + 1) - sr d) → (sr (d + 1) - sr d + 1 ≤ i + f) → j_claim rg sr d ow i = R → va_P (dC, dI) vwCl [(m0, .inr (1, [.ref s0, .ref g0, .ref ra, .ref sa, .ref oa, .int cc, .ref ma, .int rc])), (ra, .inl (cI, 105, .inl (fun j9 => nI (rg j9)))), (sa, .inl (cI, 36, .inl (fun j9 => nI (sr j9)))), (oa, .inl (cI, 400, .inl ow))] H → va_D A [(m0, .inr (1, [.ref s0, .ref g0, .ref ra, .ref sa, .ref oa, .int cc, .ref ma, .int rc])), (ra, .inl (cI, 105, .inl (fun j9 => nI (rg j9)))), (sa, .inl (cI, 36, .inl (fun j9 => nI (sr j9)))), (oa, .inl (cI, 400, .inl ow))] → va_S A s.heap H locs → lv_has ls 4 [(0, .ref m0), (1, .int (nI d)), (2, .int (nI (sr (d + 1) - sr d))), (3, .int (nI i))] → W p l e (headSpec wsX1_claimSides ({ frames := 2, cells := 0, slots := 0, locals := 44 })).room s m ([.ref m0, .int (nI d)] : List Value).toArray below meth c H locs 0 0 (MQ below (q_Qm (dC, dI) A none [(m0, .inr (1, [.ref s0, .ref g0, .ref ra, .ref sa, .ref oa, .int cc, .ref ma, .int rc])), (ra, .inl (cI, 105, .inl (fun j9 => nI (rg j9)))), (sa, .inl (cI, 36, .inl (fun j9 => nI (sr j9)))), (oa, .inl (cI, 400, .inl R))]) ([.ref m0, .int (nI d)] : List Value).toArray s 0 0 A) (F0 m 8 ls []) := by
    intro f
    induction f with
    | zero =>
      intro ow i R H locs ls h1 h2
      omega
    | succ f ih_loop =>
      intro ow i R H locs ls h1 h2 hF hP hD hS hl
      refine lv_iload_n hx hb dX1_claimSides_8 rfl (lv_at hl 3 rfl) ?_
      refine lv_iload_n hx hb dX1_claimSides_9 rfl (lv_at hl 2 rfl) ?_
      refine q_icmp_ge (tgt := 40) (by omega) (by omega) hx hb dX1_claimSides_10 (by decide) (fun c10 => ?_) (fun c10 => ?_)
      · rw [j_claim, if_neg (by omega)] at hF
        subst hF
        exact W.vret hx hb hr (q_retm hP hS) hS.2.2 dX1_claimSides_40
      · rw [j_claim, if_pos c10] at hF
        refine lv_aload_n hx hb dX1_claimSides_13 rfl (lv_at hl 0 rfl) ?_
        refine va_get (D := (dC, dI)) (ci := 1) (v := .ref oa) (C := RX1) (T := TX1) (N := 8) hx hb hts (by decide +kernel) hown hK hP 0 rfl rfl 4 (by decide) (hts (.fieldLink RX1 25 "CircleCells$Mosaic" "owner" "[I") (by decide +kernel)) (fun _ h9 => h9) rfl dX1_claimSides_14 ?_
        refine lv_aload_n hx hb dX1_claimSides_17 rfl (lv_at hl 0 rfl) ?_
        refine lv_iload_n hx hb dX1_claimSides_18 rfl (lv_at hl 1 rfl) ?_
        refine lv_iload_n hx hb dX1_claimSides_19 rfl (lv_at hl 3 rfl) ?_
        refine q_cV (As := [.int (nI d), .int (nI i)]) (rest := [.ref oa]) ⟨hx, hb, hml, hown, hts⟩ (c_X1_siteOf l dC dI m0 s0 g0 ra sa oa ma cI cc rc rg sr d i (by omega) (by omega)) (cwV 2 hts gX1_claimSides_X1_siteOf rfl rfl rfl (by decide +kernel) ⟨Nat.le_of_ble_eq_true rfl, Nat.le_of_ble_eq_true rfl⟩) (q_pV hK hP [0, 1, 2] [0] 1 0 rfl rfl rfl rfl rfl rfl) rfl hl.1 rfl (Nat.le_of_ble_eq_true rfl) ⟨Nat.zero_le _, Nat.zero_le _⟩ dX1_claimSides_20 ?_
        refine lv_aload_n hx hb dX1_claimSides_23 rfl (lv_at hl 0 rfl) ?_
        refine lv_iload_n hx hb dX1_claimSides_24 rfl (lv_at hl 1 rfl) ?_
        refine lv_iload_n hx hb dX1_claimSides_25 rfl (lv_at hl 3 rfl) ?_
        refine q_cV (As := [.int (nI d), .int (nI i)]) (rest := [.int (nI (rg (sr d + i))), .ref oa]) ⟨hx, hb, hml, hown, hts⟩ (c_X1_siteAfter l dC dI m0 s0 g0 ra sa oa ma cI cc rc rg sr d i (by omega) (by omega) (by omega) (by omega)) (cwV 2 hts gX1_claimSides_X1_siteAfter rfl rfl rfl (by decide +kernel) ⟨Nat.le_of_ble_eq_true rfl, Nat.le_of_ble_eq_true rfl⟩) (q_pV hK hP [0, 1, 2] [0] 1 0 rfl rfl rfl rfl rfl rfl) rfl hl.1 rfl (Nat.le_of_ble_eq_true rfl) ⟨Nat.zero_le _, Nat.zero_le _⟩ dX1_claimSides_26 ?_
        refine q_cS (As := [.int (nI (rg (sr d + i))), .int (nI (j_after rg sr d i))]) (rest := [.ref oa]) ⟨hx, hb, hml, hown, hts⟩ (c_X1_sideKey l dC dI (rg (sr d + i)) (j_after rg sr d i)) (va_cwS 2 hts gX1_claimSides_X1_sideKey rfl rfl rfl (by decide +kernel) ⟨Nat.le_of_ble_eq_true rfl, Nat.le_of_ble_eq_true rfl⟩) (q_pS hK hP [] [] rfl rfl rfl) rfl hl.1 rfl (Nat.le_of_ble_eq_true rfl) ⟨Nat.zero_le _, Nat.zero_le _⟩ dX1_claimSides_29 ?_
        refine lv_iload_n hx hb dX1_claimSides_32 rfl (lv_at hl 1 rfl) ?_
        refine q_iast (ws' := [(m0, .inr (1, [.ref s0, .ref g0, .ref ra, .ref sa, .ref oa, .int cc, .ref ma, .int rc])), (ra, .inl (cI, 105, .inl (fun j9 => nI (rg j9)))), (sa, .inl (cI, 36, .inl (fun j9 => nI (sr j9)))), (oa, .inl (cI, 400, .inl (upd ow ((rg (sr d + i)) * 20 + (j_after rg sr d i)) (nI d))))]) hx hb hK hP hD hS 3 0 rfl rfl ((rg (sr d + i)) * 20 + (j_after rg sr d i)) rfl (by have h8 := lr (sr d + i); have h9 : j_after rg sr d i < 20 := lr _; omega) (by decide) dX1_claimSides_33 rfl (fun H locs hP hD hS => ?_)
        refine lv_iinc (v := nI (i + 1)) (lv' := [(3, .int (nI (i + 1))), (0, .ref m0), (1, .int (nI d)), (2, .int (nI (sr (d + 1) - sr d)))]) hx hb dX1_claimSides_34 hl (k := 3) rfl (by rw [show Int32.ofInt 1 = 1 from rfl]; exact nI_1 _) (by decide) rfl (fun ls hl => ?_)
        refine lv_goto (tgt := 8) hx hb dX1_claimSides_37 (by decide) ?_
        exact ih_loop (upd ow ((rg (sr d + i)) * 20 + (j_after rg sr d i)) (nI d)) (i + 1) R H locs ls (by omega) (by omega) hF hP hD hS (lv_sub hl [1, 2, 3, 0] rfl)
  exact loop (sr (d + 1) - sr d + 1) ow 0 R _ _ ls (by omega) (by omega) hR hP hD hS (lv_sub hl [2, 3, 1, 0] rfl)
set_option maxHeartbeats 4000000 in
set_option maxRecDepth 100000 in
theorem c_J7_fill_53178 (l : Launch) (dC : Nat → ClassId) (dI : Nat → Nat → Nat) (oa : Nat) (cI : ClassId) (N : Nat) (ow : Nat → Int32) (v : Int32) (lN : N < 2 ^ 31) (R : Nat → Int32) (hR : j_fill v N ow 0 = R) : Met l yJ7_fill_53178 wsJ7_fill_53178 ({ frames := 0, cells := 0, slots := 0, locals := 0 }) (q_Pm (dC, dI) [.ref oa, .int v] [(oa, .inl (cI, N, .inl ow))] [(cI, .int)]) (q_Qm (dC, dI) (q_in [(oa, .inl (cI, N, .inl ow))]) none [(oa, .inl (cI, N, .inl R))]) 0 0 (q_in [(oa, .inl (cI, N, .inl ow))]) := by
  refine Met.ofW (cc := cJ7_fill_53178) (maxL := 4) (ret := none) (by decide) rfl ?_
  intro p e s m args below meth c s₁ B hml hv
  obtain ⟨rfl, hP, hK, hD0⟩ := hv
  have hx := B.exec
  have hb := B.bytes
  have hr := B.returns
  have hts := atoms_spec (ws := wsJ7_fill_53178) B.pre
  have hown : s.vm.findClass RJ7 = some m.cls := findClass_of_methodNamed B.named
  have hlocks := B.notSynchronized
  have hD := q_inD hD0
  generalize hAe : q_in [(oa, .inl (cI, N, .inl ow))] = A at hD ⊢
  have hS : va_S A s.heap s.heap [] := va_S.rf
  have hP : va_P (dC, dI) vwCl [(oa, .inl (cI, N, .inl ow))] s.heap := hP
  have hl := lv_entry ([.ref oa, .int v]) (n := 4) (Nat.le_of_ble_eq_true rfl)
  rw [lg_entry_eq]
  generalize (lg_sl ([.ref oa, .int v]) ++ List.replicate (4 - (lg_sl ([.ref oa, .int v])).length) Slot.unset).toArray = ls at hl ⊢
  have hl : lv_has ls 4 [(0, .ref oa), (1, .int v)] := hl
  refine lv_iconst (v := nI 0) hx hb dJ7_fill_53178_0 (by decide) ?_
  refine lv_istore_n (lv' := [(2, .int (nI 0)), (0, .ref oa), (1, .int v)]) hx hb dJ7_fill_53178_1 rfl hl (by decide) rfl (fun ls hl => ?_)
  refine lv_aload_n hx hb dJ7_fill_53178_2 rfl (lv_at hl 1 rfl) ?_
  refine va_alen (v := nI N) hx hb hK hP 0 0 rfl rfl rfl dJ7_fill_53178_3 ?_
  refine lv_istore_n (lv' := [(3, .int (nI N)), (2, .int (nI 0)), (0, .ref oa), (1, .int v)]) hx hb dJ7_fill_53178_4 rfl hl (by decide) rfl (fun ls hl => ?_)
  have loop : ∀ (f : Nat) (ow : Nat → Int32) (k : Nat) (R : Nat → Int32) (H : Heap) (locs : List Loc) (ls : Array Slot), (k ≤ N) → (N + 1 ≤ k + f) → j_fill v N ow k = R → va_P (dC, dI) vwCl [(oa, .inl (cI, N, .inl ow))] H → va_D A [(oa, .inl (cI, N, .inl ow))] → va_S A s.heap H locs → lv_has ls 4 [(0, .ref oa), (1, .int v), (2, .int (nI k)), (3, .int (nI N))] → W p l e (headSpec wsJ7_fill_53178 ({ frames := 0, cells := 0, slots := 0, locals := 0 })).room s m ([.ref oa, .int v] : List Value).toArray below meth c H locs 0 0 (MQ below (q_Qm (dC, dI) A none [(oa, .inl (cI, N, .inl R))]) ([.ref oa, .int v] : List Value).toArray s 0 0 A) (F0 m 5 ls []) := by
    intro f
    induction f with
    | zero =>
      intro ow k R H locs ls h1 h2
      omega
    | succ f ih_loop =>
      intro ow k R H locs ls h1 h2 hF hP hD hS hl
      refine lv_iload_n hx hb dJ7_fill_53178_5 rfl (lv_at hl 2 rfl) ?_
      refine lv_iload_n hx hb dJ7_fill_53178_6 rfl (lv_at hl 3 rfl) ?_
      refine q_icmp_ge (tgt := 20) (by omega) (by omega) hx hb dJ7_fill_53178_7 (by decide) (fun c7 => ?_) (fun c7 => ?_)
      · rw [j_fill, if_neg (by omega)] at hF
        subst hF
        exact W.vret hx hb hr (q_retm hP hS) hS.2.2 dJ7_fill_53178_20
      · rw [j_fill, if_pos c7] at hF
        refine lv_aload_n hx hb dJ7_fill_53178_10 rfl (lv_at hl 0 rfl) ?_
        refine lv_iload_n hx hb dJ7_fill_53178_11 rfl (lv_at hl 2 rfl) ?_
        refine lv_iload_n hx hb dJ7_fill_53178_12 rfl (lv_at hl 1 rfl) ?_
        refine q_iast (ws' := [(oa, .inl (cI, N, .inl (upd ow k v)))]) hx hb hK hP hD hS 0 0 rfl rfl (k) rfl (by omega) (by omega) dJ7_fill_53178_13 rfl (fun H locs hP hD hS => ?_)
        refine lv_iinc (v := nI (k + 1)) (lv' := [(2, .int (nI (k + 1))), (0, .ref oa), (1, .int v), (3, .int (nI N))]) hx hb dJ7_fill_53178_14 hl (k := 2) rfl (by rw [show Int32.ofInt 1 = 1 from rfl]; exact nI_1 _) (by decide) rfl (fun ls hl => ?_)
        refine lv_goto (tgt := 5) hx hb dJ7_fill_53178_17 (by decide) ?_
        exact ih_loop (upd ow k v) (k + 1) R H locs ls (by omega) (by omega) hF hP hD hS (lv_sub hl [1, 2, 0, 3] rfl)
  exact loop (N + 1) ow 0 R _ _ ls (by omega) (by omega) hR hP hD hS (lv_sub hl [2, 3, 1, 0] rfl)
