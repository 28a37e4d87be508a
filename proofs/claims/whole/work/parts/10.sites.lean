/-! Sites: what its reading methods answer -/
def j_turn (x y : Nat → Int32) (a b : Nat) (px py : Int32) : Int32 := (x b - x a) * (py - y a) - (y b - y a) * (px - x a)
def j_sq (x y : Nat → Int32) (k : Nat) (px py : Int32) : Int32 := (x k - px) * (x k - px) + (y k - py) * (y k - py)
def j_num (x y : Nat → Int32) (n : Nat) (px py : Int32) (k : Nat) : Int32 :=
  if k < n then (if x k = px then (if y k = py then nI k else j_num x y n px py (k + 1)) else j_num x y n px py (k + 1)) else -1
termination_by n - k
def j_near (x y : Nat → Int32) (n : Nat) (px py : Int32) (b k : Nat) : Nat :=
  if k < n then (if j_sq x y b px py ≤ j_sq x y k px py then j_near x y n px py b (k + 1) else j_near x y n px py k (k + 1)) else b
termination_by n - k
set_option maxHeartbeats 4000000 in
set_option maxRecDepth 100000 in
theorem c_X2_turn (l : Launch) (dC : Nat → ClassId) (dI : Nat → Nat → Nat) (h0 xa ya : Nat) (cI : ClassId) (x y : Nat → Int32) (n : Int32) (a b : Nat) (px py : Int32) (la : a < 20) (lb : b < 20) : Met l yX2_turn wsX2_turn ({ frames := 0, cells := 0, slots := 0, locals := 0 }) (q_Pc (dC, dI) [.ref h0, .int (nI a), .int (nI b), .int px, .int py] [(h0, .inr (2, [.ref xa, .ref ya, .int n])), (xa, .inl (cI, 20, .inl x)), (ya, .inl (cI, 20, .inl y))] [(cI, .int)]) (k2_QcV (.int (j_turn x y a b px py))) 0 0 (fun _ => False) := by
  refine Met.ofW (cc := cX2_turn) (maxL := 5) (ret := (some .int)) (by decide) rfl ?_
  intro p e s m args below meth c s₁ B hml hv
  obtain ⟨rfl, hP, hK⟩ := hv
  have hx := B.exec
  have hb := B.bytes
  have hr := B.returns
  have hts := atoms_spec (ws := wsX2_turn) B.pre
  have hown : s.vm.findClass RX2 = some m.cls := findClass_of_methodNamed B.named
  have hlocks := B.notSynchronized
  have hP : va_P (dC, dI) vwCl [(h0, .inr (2, [.ref xa, .ref ya, .int n])), (xa, .inl (cI, 20, .inl x)), (ya, .inl (cI, 20, .inl y))] s.heap := hP
  have hl := lv_entry ([.ref h0, .int (nI a), .int (nI b), .int px, .int py]) (n := 5) (Nat.le_of_ble_eq_true rfl)
  rw [lg_entry_eq]
  generalize (lg_sl ([.ref h0, .int (nI a), .int (nI b), .int px, .int py]) ++ List.replicate (5 - (lg_sl ([.ref h0, .int (nI a), .int (nI b), .int px, .int py])).length) Slot.unset).toArray = ls at hl ⊢
  have hl : lv_has ls 5 [(0, .ref h0), (1, .int (nI a)), (2, .int (nI b)), (3, .int px), (4, .int py)] := hl
  refine lv_aload_n hx hb dX2_turn_0 rfl (lv_at hl 0 rfl) ?_
  refine va_get (D := (dC, dI)) (ci := 2) (v := .ref xa) (C := RX2) (T := TX2) (N := 3) hx hb hts (by decide +kernel) hown hK hP 0 rfl rfl 0 (by decide) (hts (.fieldLink RX2 9 "CircleCells$Sites" "x" "[I") (by decide +kernel)) (fun _ h9 => h9) rfl dX2_turn_1 ?_
  refine lv_iload_n hx hb dX2_turn_4 rfl (lv_at hl 2 rfl) ?_
  refine q_iald hx hb hK hP 1 0 rfl rfl (b) rfl (by omega) (by decide) dX2_turn_5 ?_
  refine lv_aload_n hx hb dX2_turn_6 rfl (lv_at hl 0 rfl) ?_
  refine va_get (D := (dC, dI)) (ci := 2) (v := .ref xa) (C := RX2) (T := TX2) (N := 3) hx hb hts (by decide +kernel) hown hK hP 0 rfl rfl 0 (by decide) (hts (.fieldLink RX2 9 "CircleCells$Sites" "x" "[I") (by decide +kernel)) (fun _ h9 => h9) rfl dX2_turn_7 ?_
  refine lv_iload_n hx hb dX2_turn_10 rfl (lv_at hl 1 rfl) ?_
  refine q_iald hx hb hK hP 1 0 rfl rfl (a) rfl (by omega) (by decide) dX2_turn_11 ?_
  refine lv_isub hx hb dX2_turn_12 ?_
  refine lv_iload hx hb dX2_turn_13 (lv_at hl 4 rfl) ?_
  refine lv_aload_n hx hb dX2_turn_15 rfl (lv_at hl 0 rfl) ?_
  refine va_get (D := (dC, dI)) (ci := 2) (v := .ref ya) (C := RX2) (T := TX2) (N := 3) hx hb hts (by decide +kernel) hown hK hP 0 rfl rfl 1 (by decide) (hts (.fieldLink RX2 15 "CircleCells$Sites" "y" "[I") (by decide +kernel)) (fun _ h9 => h9) rfl dX2_turn_16 ?_
  refine lv_iload_n hx hb dX2_turn_19 rfl (lv_at hl 1 rfl) ?_
  refine q_iald hx hb hK hP 2 0 rfl rfl (a) rfl (by omega) (by decide) dX2_turn_20 ?_
  refine lv_isub hx hb dX2_turn_21 ?_
  refine lv_imul hx hb dX2_turn_22 ?_
  refine lv_aload_n hx hb dX2_turn_23 rfl (lv_at hl 0 rfl) ?_
  refine va_get (D := (dC, dI)) (ci := 2) (v := .ref ya) (C := RX2) (T := TX2) (N := 3) hx hb hts (by decide +kernel) hown hK hP 0 rfl rfl 1 (by decide) (hts (.fieldLink RX2 15 "CircleCells$Sites" "y" "[I") (by decide +kernel)) (fun _ h9 => h9) rfl dX2_turn_24 ?_
  refine lv_iload_n hx hb dX2_turn_27 rfl (lv_at hl 2 rfl) ?_
  refine q_iald hx hb hK hP 2 0 rfl rfl (b) rfl (by omega) (by decide) dX2_turn_28 ?_
  refine lv_aload_n hx hb dX2_turn_29 rfl (lv_at hl 0 rfl) ?_
  refine va_get (D := (dC, dI)) (ci := 2) (v := .ref ya) (C := RX2) (T := TX2) (N := 3) hx hb hts (by decide +kernel) hown hK hP 0 rfl rfl 1 (by decide) (hts (.fieldLink RX2 15 "CircleCells$Sites" "y" "[I") (by decide +kernel)) (fun _ h9 => h9) rfl dX2_turn_30 ?_
  refine lv_iload_n hx hb dX2_turn_33 rfl (lv_at hl 1 rfl) ?_
  refine q_iald hx hb hK hP 2 0 rfl rfl (a) rfl (by omega) (by decide) dX2_turn_34 ?_
  refine lv_isub hx hb dX2_turn_35 ?_
  refine lv_iload_n hx hb dX2_turn_36 rfl (lv_at hl 3 rfl) ?_
  refine lv_aload_n hx hb dX2_turn_37 rfl (lv_at hl 0 rfl) ?_
  refine va_get (D := (dC, dI)) (ci := 2) (v := .ref xa) (C := RX2) (T := TX2) (N := 3) hx hb hts (by decide +kernel) hown hK hP 0 rfl rfl 0 (by decide) (hts (.fieldLink RX2 9 "CircleCells$Sites" "x" "[I") (by decide +kernel)) (fun _ h9 => h9) rfl dX2_turn_38 ?_
  refine lv_iload_n hx hb dX2_turn_41 rfl (lv_at hl 1 rfl) ?_
  refine q_iald hx hb hK hP 1 0 rfl rfl (a) rfl (by omega) (by decide) dX2_turn_42 ?_
  refine lv_isub hx hb dX2_turn_43 ?_
  refine lv_imul hx hb dX2_turn_44 ?_
  refine lv_isub hx hb dX2_turn_45 ?_
  exact W.iret (v := (((x b) - (x a)) * (py - (y a))) - (((y b) - (y a)) * (px - (x a)))) hx hb hr q_ret (fun _ h => nomatch h) dX2_turn_46
set_option maxHeartbeats 4000000 in
set_option maxRecDepth 100000 in
theorem c_X2_turn_ (l : Launch) (dC : Nat → ClassId) (dI : Nat → Nat → Nat) (h0 xa ya : Nat) (cI : ClassId) (x y : Nat → Int32) (n : Int32) (a b d : Nat) (la : a < 20) (lb : b < 20) (ld : d < 20) : Met l yX2_turn_ wsX2_turn_ ({ frames := 1, cells := 0, slots := 0, locals := 24 }) (q_Pc (dC, dI) [.ref h0, .int (nI a), .int (nI b), .int (nI d)] [(h0, .inr (2, [.ref xa, .ref ya, .int n])), (xa, .inl (cI, 20, .inl x)), (ya, .inl (cI, 20, .inl y))] [(cI, .int)]) (k2_QcV (.int (j_turn x y a b (x d) (y d)))) 0 0 (fun _ => False) := by
  refine Met.ofW (cc := cX2_turn_) (maxL := 4) (ret := (some .int)) (by decide) rfl ?_
  intro p e s m args below meth c s₁ B hml hv
  obtain ⟨rfl, hP, hK⟩ := hv
  have hx := B.exec
  have hb := B.bytes
  have hr := B.returns
  have hts := atoms_spec (ws := wsX2_turn_) B.pre
  have hown : s.vm.findClass RX2 = some m.cls := findClass_of_methodNamed B.named
  have hlocks := B.notSynchronized
  have hP : va_P (dC, dI) vwCl [(h0, .inr (2, [.ref xa, .ref ya, .int n])), (xa, .inl (cI, 20, .inl x)), (ya, .inl (cI, 20, .inl y))] s.heap := hP
  have hl := lv_entry ([.ref h0, .int (nI a), .int (nI b), .int (nI d)]) (n := 4) (Nat.le_of_ble_eq_true rfl)
  rw [lg_entry_eq]
  generalize (lg_sl ([.ref h0, .int (nI a), .int (nI b), .int (nI d)]) ++ List.replicate (4 - (lg_sl ([.ref h0, .int (nI a), .int (nI b), .int (nI d)])).length) Slot.unset).toArray = ls at hl ⊢
  have hl : lv_has ls 4 [(0, .ref h0), (1, .int (nI a)), (2, .int (nI b)), (3, .int (nI d))] := hl
  refine lv_aload_n hx hb dX2_turn__0 rfl (lv_at hl 0 rfl) ?_
  refine lv_iload_n hx hb dX2_turn__1 rfl (lv_at hl 1 rfl) ?_
  refine lv_iload_n hx hb dX2_turn__2 rfl (lv_at hl 2 rfl) ?_
  refine lv_aload_n hx hb dX2_turn__3 rfl (lv_at hl 0 rfl) ?_
  refine va_get (D := (dC, dI)) (ci := 2) (v := .ref xa) (C := RX2) (T := TX2) (N := 3) hx hb hts (by decide +kernel) hown hK hP 0 rfl rfl 0 (by decide) (hts (.fieldLink RX2 9 "CircleCells$Sites" "x" "[I") (by decide +kernel)) (fun _ h9 => h9) rfl dX2_turn__4 ?_
  refine lv_iload_n hx hb dX2_turn__7 rfl (lv_at hl 3 rfl) ?_
  refine q_iald hx hb hK hP 1 0 rfl rfl (d) rfl (by omega) (by decide) dX2_turn__8 ?_
  refine lv_aload_n hx hb dX2_turn__9 rfl (lv_at hl 0 rfl) ?_
  refine va_get (D := (dC, dI)) (ci := 2) (v := .ref ya) (C := RX2) (T := TX2) (N := 3) hx hb hts (by decide +kernel) hown hK hP 0 rfl rfl 1 (by decide) (hts (.fieldLink RX2 15 "CircleCells$Sites" "y" "[I") (by decide +kernel)) (fun _ h9 => h9) rfl dX2_turn__10 ?_
  refine lv_iload_n hx hb dX2_turn__13 rfl (lv_at hl 3 rfl) ?_
  refine q_iald hx hb hK hP 2 0 rfl rfl (d) rfl (by omega) (by decide) dX2_turn__14 ?_
  refine q_cV (As := [.int (nI a), .int (nI b), .int (x d), .int (y d)]) (rest := []) ⟨hx, hb, hml, hown, hts⟩ (c_X2_turn l dC dI h0 xa ya cI x y n a b (x d) (y d) (by omega) (by omega)) (cwV 4 hts gX2_turn__X2_turn rfl rfl rfl (by decide +kernel) ⟨Nat.le_of_ble_eq_true rfl, Nat.le_of_ble_eq_true rfl⟩) (q_pV hK hP [0, 1, 2] [0] 2 0 rfl rfl rfl rfl rfl rfl) rfl hl.1 rfl (Nat.le_of_ble_eq_true rfl) ⟨Nat.zero_le _, Nat.zero_le _⟩ dX2_turn__15 ?_
  exact W.iret (v := j_turn x y a b (x d) (y d)) hx hb hr q_ret (fun _ h => nomatch h) dX2_turn__18
set_option maxHeartbeats 4000000 in
set_option maxRecDepth 100000 in
theorem c_X2_squareTo (l : Launch) (dC : Nat → ClassId) (dI : Nat → Nat → Nat) (h0 xa ya : Nat) (cI : ClassId) (x y : Nat → Int32) (n : Int32) (k : Nat) (px py : Int32) (lk : k < 20) : Met l yX2_squareTo wsX2_squareTo ({ frames := 0, cells := 0, slots := 0, locals := 0 }) (q_Pc (dC, dI) [.ref h0, .int (nI k), .int px, .int py] [(h0, .inr (2, [.ref xa, .ref ya, .int n])), (xa, .inl (cI, 20, .inl x)), (ya, .inl (cI, 20, .inl y))] [(cI, .int)]) (k2_QcV (.int (j_sq x y k px py))) 0 0 (fun _ => False) := by
  refine Met.ofW (cc := cX2_squareTo) (maxL := 6) (ret := (some .int)) (by decide) rfl ?_
  intro p e s m args below meth c s₁ B hml hv
  obtain ⟨rfl, hP, hK⟩ := hv
  have hx := B.exec
  have hb := B.bytes
  have hr := B.returns
  have hts := atoms_spec (ws := wsX2_squareTo) B.pre
  have hown : s.vm.findClass RX2 = some m.cls := findClass_of_methodNamed B.named
  have hlocks := B.notSynchronized
  have hP : va_P (dC, dI) vwCl [(h0, .inr (2, [.ref xa, .ref ya, .int n])), (xa, .inl (cI, 20, .inl x)), (ya, .inl (cI, 20, .inl y))] s.heap := hP
  have hl := lv_entry ([.ref h0, .int (nI k), .int px, .int py]) (n := 6) (Nat.le_of_ble_eq_true rfl)
  rw [lg_entry_eq]
  generalize (lg_sl ([.ref h0, .int (nI k), .int px, .int py]) ++ List.replicate (6 - (lg_sl ([.ref h0, .int (nI k), .int px, .int py])).length) Slot.unset).toArray = ls at hl ⊢
  have hl : lv_has ls 6 [(0, .ref h0), (1, .int (nI k)), (2, .int px), (3, .int py)] := hl
  refine lv_aload_n hx hb dX2_squareTo_0 rfl (lv_at hl 0 rfl) ?_
  refine va_get (D := (dC, dI)) (ci := 2) (v := .ref xa) (C := RX2) (T := TX2) (N := 3) hx hb hts (by decide +kernel) hown hK hP 0 rfl rfl 0 (by decide) (hts (.fieldLink RX2 9 "CircleCells$Sites" "x" "[I") (by decide +kernel)) (fun _ h9 => h9) rfl dX2_squareTo_1 ?_
  refine lv_iload_n hx hb dX2_squareTo_4 rfl (lv_at hl 1 rfl) ?_
  refine q_iald hx hb hK hP 1 0 rfl rfl (k) rfl (by omega) (by decide) dX2_squareTo_5 ?_
  refine lv_iload_n hx hb dX2_squareTo_6 rfl (lv_at hl 2 rfl) ?_
  refine lv_isub hx hb dX2_squareTo_7 ?_
  refine lv_istore (lv' := [(4, .int ((x k) - px)), (0, .ref h0), (1, .int (nI k)), (2, .int px), (3, .int py)]) hx hb dX2_squareTo_8 hl (by decide) rfl (fun ls hl => ?_)
  refine lv_aload_n hx hb dX2_squareTo_10 rfl (lv_at hl 1 rfl) ?_
  refine va_get (D := (dC, dI)) (ci := 2) (v := .ref ya) (C := RX2) (T := TX2) (N := 3) hx hb hts (by decide +kernel) hown hK hP 0 rfl rfl 1 (by decide) (hts (.fieldLink RX2 15 "CircleCells$Sites" "y" "[I") (by decide +kernel)) (fun _ h9 => h9) rfl dX2_squareTo_11 ?_
  refine lv_iload_n hx hb dX2_squareTo_14 rfl (lv_at hl 2 rfl) ?_
  refine q_iald hx hb hK hP 2 0 rfl rfl (k) rfl (by omega) (by decide) dX2_squareTo_15 ?_
  refine lv_iload_n hx hb dX2_squareTo_16 rfl (lv_at hl 4 rfl) ?_
  refine lv_isub hx hb dX2_squareTo_17 ?_
  refine lv_istore (lv' := [(5, .int ((y k) - py)), (4, .int ((x k) - px)), (0, .ref h0), (1, .int (nI k)), (2, .int px), (3, .int py)]) hx hb dX2_squareTo_18 hl (by decide) rfl (fun ls hl => ?_)
  refine lv_iload hx hb dX2_squareTo_20 (lv_at hl 1 rfl) ?_
  refine lv_iload hx hb dX2_squareTo_22 (lv_at hl 1 rfl) ?_
  refine lv_imul hx hb dX2_squareTo_24 ?_
  refine lv_iload hx hb dX2_squareTo_25 (lv_at hl 0 rfl) ?_
  refine lv_iload hx hb dX2_squareTo_27 (lv_at hl 0 rfl) ?_
  refine lv_imul hx hb dX2_squareTo_29 ?_
  refine lv_iadd hx hb dX2_squareTo_30 ?_
  exact W.iret (v := (((x k) - px) * ((x k) - px)) + (((y k) - py) * ((y k) - py))) hx hb hr q_ret (fun _ h => nomatch h) dX2_squareTo_31
set_option maxHeartbeats 4000000 in
set_option maxRecDepth 100000 in
theorem c_X2_numberAt (l : Launch) (dC : Nat → ClassId) (dI : Nat → Nat → Nat) (h0 xa ya : Nat) (cI : ClassId) (x y : Nat → Int32) (n : Nat) (px py : Int32) (ln : n ≤ 20) : Met l yX2_numberAt wsX2_numberAt ({ frames := 0, cells := 0, slots := 0, locals := 0 }) (q_Pc (dC, dI) [.ref h0, .int px, .int py] [(h0, .inr (2, [.ref xa, .ref ya, .int (nI n)])), (xa, .inl (cI, 20, .inl x)), (ya, .inl (cI, 20, .inl y))] [(cI, .int)]) (k2_QcV (.int (j_num x y n px py 0))) 0 0 (fun _ => False) := by
  refine Met.ofW (cc := cX2_numberAt) (maxL := 4) (ret := (some .int)) (by decide) rfl ?_
  intro p e s m args below meth c s₁ B hml hv
  obtain ⟨rfl, hP, hK⟩ := hv
  have hx := B.exec
  have hb := B.bytes
  have hr := B.returns
  have hts := atoms_spec (ws := wsX2_numberAt) B.pre
  have hown : s.vm.findClass RX2 = some m.cls := findClass_of_methodNamed B.named
  have hlocks := B.notSynchronized
  have hP : va_P (dC, dI) vwCl [(h0, .inr (2, [.ref xa, .ref ya, .int (nI n)])), (xa, .inl (cI, 20, .inl x)), (ya, .inl (cI, 20, .inl y))] s.heap := hP
  have hl := lv_entry ([.ref h0, .int px, .int py]) (n := 4) (Nat.le_of_ble_eq_true rfl)
  rw [lg_entry_eq]
  generalize (lg_sl ([.ref h0, .int px, .int py]) ++ List.replicate (4 - (lg_sl ([.ref h0, .int px, .int py])).length) Slot.unset).toArray = ls at hl ⊢
  have hl : lv_has ls 4 [(0, .ref h0), (1, .int px), (2, .int py)] := hl
  refine lv_iconst (v := nI 0) hx hb dX2_numberAt_0 (by decide) ?_
  refine lv_istore_n (lv' := [(3, .int (nI 0)), (0, .ref h0), (1, .int px), (2, .int py)]) hx hb dX2_numberAt_1 rfl hl (by decide) rfl (fun ls hl => ?_)
  have loop : ∀ (f : Nat) (k : Nat) (R : Int32) (ls : Array Slot), (k ≤ n) → (n + 1 ≤ k + f) → j_num x y n px py k = R → lv_has ls 4 [(0, .ref h0), (1, .int px), (2, .int py), (3, .int (nI k))] → W p l e (headSpec wsX2_numberAt ({ frames := 0, cells := 0, slots := 0, locals := 0 })).room s m ([.ref h0, .int px, .int py] : List Value).toArray below meth c s.heap [] 0 0 (MQ below (k2_QcV (.int R)) ([.ref h0, .int px, .int py] : List Value).toArray s 0 0 (fun _ => False)) (F0 m 2 ls []) := by
    intro f
    induction f with
    | zero =>
      intro k R ls h1 h2
      omega
    | succ f ih_loop =>
      intro k R ls h1 h2 hF hl
      refine lv_iload_n hx hb dX2_numberAt_2 rfl (lv_at hl 3 rfl) ?_
      refine lv_aload_n hx hb dX2_numberAt_3 rfl (lv_at hl 0 rfl) ?_
      refine va_get (D := (dC, dI)) (ci := 2) (v := .int (nI n)) (C := RX2) (T := TX2) (N := 3) hx hb hts (by decide +kernel) hown hK hP 0 rfl rfl 2 (by decide) (hts (.fieldLink RX2 18 "CircleCells$Sites" "size" "I") (by decide +kernel)) (fun _ h9 => h9) rfl dX2_numberAt_4 ?_
      refine q_icmp_ge (tgt := 38) (by omega) (by omega) hx hb dX2_numberAt_7 (by decide) (fun c7 => ?_) (fun c7 => ?_)
      · rw [j_num, if_neg (by omega)] at hF
        subst hF
        refine lv_iconst (v := (-1)) hx hb dX2_numberAt_38 (by decide) ?_
        exact W.iret (v := (-1)) hx hb hr q_ret (fun _ h => nomatch h) dX2_numberAt_39
      · rw [j_num, if_pos c7] at hF
        refine lv_aload_n hx hb dX2_numberAt_10 rfl (lv_at hl 0 rfl) ?_
        refine va_get (D := (dC, dI)) (ci := 2) (v := .ref xa) (C := RX2) (T := TX2) (N := 3) hx hb hts (by decide +kernel) hown hK hP 0 rfl rfl 0 (by decide) (hts (.fieldLink RX2 9 "CircleCells$Sites" "x" "[I") (by decide +kernel)) (fun _ h9 => h9) rfl dX2_numberAt_11 ?_
        refine lv_iload_n hx hb dX2_numberAt_14 rfl (lv_at hl 3 rfl) ?_
        refine q_iald hx hb hK hP 1 0 rfl rfl (k) rfl (by omega) (by decide) dX2_numberAt_15 ?_
        refine lv_iload_n hx hb dX2_numberAt_16 rfl (lv_at hl 1 rfl) ?_
        refine lv_icmp_ne (tgt := 32) hx hb dX2_numberAt_17 (by decide) (fun c17 => ?_) (fun c17 => ?_)
        · rw [if_neg c17] at hF
          refine lv_iinc (v := nI (k + 1)) (lv' := [(3, .int (nI (k + 1))), (0, .ref h0), (1, .int px), (2, .int py)]) hx hb dX2_numberAt_32 hl (k := 3) rfl (by rw [show Int32.ofInt 1 = 1 from rfl]; exact nI_1 _) (by decide) rfl (fun ls hl => ?_)
          refine lv_goto (tgt := 2) hx hb dX2_numberAt_35 (by decide) ?_
          exact ih_loop (k + 1) R ls (by omega) (by omega) hF (lv_sub hl [1, 2, 3, 0] rfl)
        · rw [if_pos c17] at hF
          refine lv_aload_n hx hb dX2_numberAt_20 rfl (lv_at hl 0 rfl) ?_
          refine va_get (D := (dC, dI)) (ci := 2) (v := .ref ya) (C := RX2) (T := TX2) (N := 3) hx hb hts (by decide +kernel) hown hK hP 0 rfl rfl 1 (by decide) (hts (.fieldLink RX2 15 "CircleCells$Sites" "y" "[I") (by decide +kernel)) (fun _ h9 => h9) rfl dX2_numberAt_21 ?_
          refine lv_iload_n hx hb dX2_numberAt_24 rfl (lv_at hl 3 rfl) ?_
          refine q_iald hx hb hK hP 2 0 rfl rfl (k) rfl (by omega) (by decide) dX2_numberAt_25 ?_
          refine lv_iload_n hx hb dX2_numberAt_26 rfl (lv_at hl 2 rfl) ?_
          refine lv_icmp_ne (tgt := 32) hx hb dX2_numberAt_27 (by decide) (fun c27 => ?_) (fun c27 => ?_)
          · rw [if_neg c27] at hF
            refine lv_iinc (v := nI (k + 1)) (lv' := [(3, .int (nI (k + 1))), (0, .ref h0), (1, .int px), (2, .int py)]) hx hb dX2_numberAt_32 hl (k := 3) rfl (by rw [show Int32.ofInt 1 = 1 from rfl]; exact nI_1 _) (by decide) rfl (fun ls hl => ?_)
            refine lv_goto (tgt := 2) hx hb dX2_numberAt_35 (by decide) ?_
            exact ih_loop (k + 1) R ls (by omega) (by omega) hF (lv_sub hl [1, 2, 3, 0] rfl)
          · rw [if_pos c27] at hF
            subst hF
            refine lv_iload_n hx hb dX2_numberAt_30 rfl (lv_at hl 3 rfl) ?_
            exact W.iret (v := nI k) hx hb hr q_ret (fun _ h => nomatch h) dX2_numberAt_31
  exact loop (n + 1) 0 _ ls (by omega) (by omega) rfl (lv_sub hl [1, 2, 3, 0] rfl)
set_option maxHeartbeats 4000000 in
set_option maxRecDepth 100000 in
theorem c_X2_closestTo (l : Launch) (dC : Nat → ClassId) (dI : Nat → Nat → Nat) (h0 xa ya : Nat) (cI : ClassId) (x y : Nat → Int32) (n : Nat) (px py : Int32) (l0 : 0 < n) (ln : n ≤ 20) : Met l yX2_closestTo wsX2_closestTo ({ frames := 1, cells := 0, slots := 0, locals := 25 }) (q_Pc (dC, dI) [.ref h0, .int px, .int py] [(h0, .inr (2, [.ref xa, .ref ya, .int (nI n)])), (xa, .inl (cI, 20, .inl x)), (ya, .inl (cI, 20, .inl y))] [(cI, .int)]) (k2_QcV (.int (nI (j_near x y n px py 0 1)))) 0 0 (fun _ => False) := by
  refine Met.ofW (cc := cX2_closestTo) (maxL := 5) (ret := (some .int)) (by decide) rfl ?_
  intro p e s m args below meth c s₁ B hml hv
  obtain ⟨rfl, hP, hK⟩ := hv
  have hx := B.exec
  have hb := B.bytes
  have hr := B.returns
  have hts := atoms_spec (ws := wsX2_closestTo) B.pre
  have hown : s.vm.findClass RX2 = some m.cls := findClass_of_methodNamed B.named
  have hlocks := B.notSynchronized
  have hP : va_P (dC, dI) vwCl [(h0, .inr (2, [.ref xa, .ref ya, .int (nI n)])), (xa, .inl (cI, 20, .inl x)), (ya, .inl (cI, 20, .inl y))] s.heap := hP
  have hl := lv_entry ([.ref h0, .int px, .int py]) (n := 5) (Nat.le_of_ble_eq_true rfl)
  rw [lg_entry_eq]
  generalize (lg_sl ([.ref h0, .int px, .int py]) ++ List.replicate (5 - (lg_sl ([.ref h0, .int px, .int py])).length) Slot.unset).toArray = ls at hl ⊢
  have hl : lv_has ls 5 [(0, .ref h0), (1, .int px), (2, .int py)] := hl
  refine lv_iconst (v := nI 0) hx hb dX2_closestTo_0 (by decide) ?_
  refine lv_istore_n (lv' := [(3, .int (nI 0)), (0, .ref h0), (1, .int px), (2, .int py)]) hx hb dX2_closestTo_1 rfl hl (by decide) rfl (fun ls hl => ?_)
  refine lv_iconst (v := nI 1) hx hb dX2_closestTo_2 (by decide) ?_
  refine lv_istore (lv' := [(4, .int (nI 1)), (3, .int (nI 0)), (0, .ref h0), (1, .int px), (2, .int py)]) hx hb dX2_closestTo_3 hl (by decide) rfl (fun ls hl => ?_)
  have loop : ∀ (f : Nat) (b : Nat) (k : Nat) (R : Nat) (ls : Array Slot), (k ≤ n) → (n + 1 ≤ k + f) → (b < n) → j_near x y n px py b k = R → lv_has ls 5 [(0, .ref h0), (1, .int px), (2, .int py), (3, .int (nI b)), (4, .int (nI k))] → W p l e (headSpec wsX2_closestTo ({ frames := 1, cells := 0, slots := 0, locals := 25 })).room s m ([.ref h0, .int px, .int py] : List Value).toArray below meth c s.heap [] 0 0 (MQ below (k2_QcV (.int (nI R))) ([.ref h0, .int px, .int py] : List Value).toArray s 0 0 (fun _ => False)) (F0 m 5 ls []) := by
    intro f
    induction f with
    | zero =>
      intro b k R ls h1 h2 h3
      omega
    | succ f ih_loop =>
      intro b k R ls h1 h2 h3 hF hl
      refine lv_iload hx hb dX2_closestTo_5 (lv_at hl 4 rfl) ?_
      refine lv_aload_n hx hb dX2_closestTo_7 rfl (lv_at hl 0 rfl) ?_
      refine va_get (D := (dC, dI)) (ci := 2) (v := .int (nI n)) (C := RX2) (T := TX2) (N := 3) hx hb hts (by decide +kernel) hown hK hP 0 rfl rfl 2 (by decide) (hts (.fieldLink RX2 18 "CircleCells$Sites" "size" "I") (by decide +kernel)) (fun _ h9 => h9) rfl dX2_closestTo_8 ?_
      refine q_icmp_ge (tgt := 41) (by omega) (by omega) hx hb dX2_closestTo_11 (by decide) (fun c11 => ?_) (fun c11 => ?_)
      · rw [j_near, if_neg (by omega)] at hF
        subst hF
        refine lv_iload_n hx hb dX2_closestTo_41 rfl (lv_at hl 3 rfl) ?_
        exact W.iret (v := nI b) hx hb hr q_ret (fun _ h => nomatch h) dX2_closestTo_42
      · rw [j_near, if_pos c11] at hF
        refine lv_aload_n hx hb dX2_closestTo_14 rfl (lv_at hl 0 rfl) ?_
        refine lv_iload hx hb dX2_closestTo_15 (lv_at hl 4 rfl) ?_
        refine lv_iload_n hx hb dX2_closestTo_17 rfl (lv_at hl 1 rfl) ?_
        refine lv_iload_n hx hb dX2_closestTo_18 rfl (lv_at hl 2 rfl) ?_
        refine q_cV (As := [.int (nI k), .int px, .int py]) (rest := []) ⟨hx, hb, hml, hown, hts⟩ (c_X2_squareTo l dC dI h0 xa ya cI x y (nI n) k px py (by omega)) (cwV 3 hts gX2_closestTo_X2_squareTo rfl rfl rfl (by decide +kernel) ⟨Nat.le_of_ble_eq_true rfl, Nat.le_of_ble_eq_true rfl⟩) (q_pV hK hP [0, 1, 2] [0] 2 0 rfl rfl rfl rfl rfl rfl) rfl hl.1 rfl (Nat.le_of_ble_eq_true rfl) ⟨Nat.zero_le _, Nat.zero_le _⟩ dX2_closestTo_19 ?_
        refine lv_aload_n hx hb dX2_closestTo_22 rfl (lv_at hl 0 rfl) ?_
        refine lv_iload_n hx hb dX2_closestTo_23 rfl (lv_at hl 3 rfl) ?_
        refine lv_iload_n hx hb dX2_closestTo_24 rfl (lv_at hl 1 rfl) ?_
        refine lv_iload_n hx hb dX2_closestTo_25 rfl (lv_at hl 2 rfl) ?_
        refine q_cV (As := [.int (nI b), .int px, .int py]) (rest := [.int (j_sq x y k px py)]) ⟨hx, hb, hml, hown, hts⟩ (c_X2_squareTo l dC dI h0 xa ya cI x y (nI n) b px py (by omega)) (cwV 3 hts gX2_closestTo_X2_squareTo rfl rfl rfl (by decide +kernel) ⟨Nat.le_of_ble_eq_true rfl, Nat.le_of_ble_eq_true rfl⟩) (q_pV hK hP [0, 1, 2] [0] 2 0 rfl rfl rfl rfl rfl rfl) rfl hl.1 rfl (Nat.le_of_ble_eq_true rfl) ⟨Nat.zero_le _, Nat.zero_le _⟩ dX2_closestTo_26 ?_
        refine lv_icmp_ge (tgt := 35) hx hb dX2_closestTo_29 (by decide) (fun c29 => ?_) (fun c29 => ?_)
        · rw [if_pos c29] at hF
          refine lv_iinc (v := nI (k + 1)) (lv' := [(4, .int (nI (k + 1))), (0, .ref h0), (1, .int px), (2, .int py), (3, .int (nI b))]) hx hb dX2_closestTo_35 hl (k := 4) rfl (by rw [show Int32.ofInt 1 = 1 from rfl]; exact nI_1 _) (by decide) rfl (fun ls hl => ?_)
          refine lv_goto (tgt := 5) hx hb dX2_closestTo_38 (by decide) ?_
          exact ih_loop b (k + 1) R ls (by omega) (by omega) (by omega) hF (lv_sub hl [1, 2, 3, 4, 0] rfl)
        · rw [if_neg c29] at hF
          refine lv_iload hx hb dX2_closestTo_32 (lv_at hl 4 rfl) ?_
          refine lv_istore_n (lv' := [(3, .int (nI k)), (0, .ref h0), (1, .int px), (2, .int py), (4, .int (nI k))]) hx hb dX2_closestTo_34 rfl hl (by decide) rfl (fun ls hl => ?_)
          refine lv_iinc (v := nI (k + 1)) (lv' := [(4, .int (nI (k + 1))), (3, .int (nI k)), (0, .ref h0), (1, .int px), (2, .int py)]) hx hb dX2_closestTo_35 hl (k := 4) rfl (by rw [show Int32.ofInt 1 = 1 from rfl]; exact nI_1 _) (by decide) rfl (fun ls hl => ?_)
          refine lv_goto (tgt := 5) hx hb dX2_closestTo_38 (by decide) ?_
          exact ih_loop k (k + 1) R ls (by omega) (by omega) (by omega) hF (lv_sub hl [2, 3, 4, 1, 0] rfl)
  exact loop (n + 1) 0 1 _ ls (by omega) (by omega) (by omega) rfl (lv_sub hl [2, 3, 4, 1, 0] rfl)
