/-! The reference: what its reading methods answer -/
def r_out (k t : Int32) : Bool := if k < 0 then true else if k < t then false else true
def r_far (px py : Int32) : Bool := if px < -400 then true else if 400 < px then true else if py < -400 then true else if py ≤ 400 then false else true
def r_taken (x y : Nat → Int32) (n : Nat) (px py bt : Int32) (t : Bool) (k : Nat) : Bool :=
  if k < n then (if t = true then r_taken x y n px py bt true (k + 1) else if nI k = bt then r_taken x y n px py bt false (k + 1) else if x k = px then (if y k = py then r_taken x y n px py bt true (k + 1) else r_taken x y n px py bt false (k + 1)) else r_taken x y n px py bt false (k + 1)) else t
termination_by n - k
def r_turn (x y : Nat → Int32) (a b : Nat) (px py : Int32) : Int64 := (x b - x a).toInt64 * (py - y a).toInt64 - (y b - y a).toInt64 * (px - x a).toInt64
def r_sq (x y : Nat → Int32) (a b : Nat) : Int64 := (x a - x b).toInt64 * (x a - x b).toInt64 + (y a - y b).toInt64 * (y a - y b).toInt64
def r_ar (x y : Nat → Int32) (a b d : Nat) : Int64 := (x b - x a).toInt64 * (y d - y a).toInt64 - (y b - y a).toInt64 * (x d - x a).toInt64
def r_vv (x y : Nat → Int32) (a b d k : Nat) : Int64 := (r_sq x y a b * (y d - y a).toInt64 - r_sq x y a d * (y b - y a).toInt64) * (x k - x a).toInt64 + (r_sq x y a d * (x b - x a).toInt64 - r_sq x y a b * (x d - x a).toInt64) * (y k - y a).toInt64 - r_ar x y a b d * r_sq x y a k
def r_pow (x y : Nat → Int32) (a b d k : Nat) : Int64 := if r_ar x y a b d ≤ 0 then -r_vv x y a b d k else r_vv x y a b d k
def r_on (x y : Nat → Int32) (n a b d : Nat) (mk : Int32) (k : Nat) : Int32 :=
  if k < n then (if r_pow x y a b d k ≤ 0 then (if ¬ r_pow x y a b d k = 0 then r_on x y n a b d mk (k + 1) else r_on x y n a b d (mk ||| ((1 : Int32) <<< (nI k &&& 31))) (k + 1)) else 0) else mk
termination_by n - k
def r_gd (x y : Nat → Int32) (n : Nat) (mk : Int32) (a k : Nat) (t : Bool) (i : Nat) : Bool :=
  if i < n then (if t = false then r_gd x y n mk a k false (i + 1) else if (mk >>> (nI i &&& 31)) &&& 1 = 0 then r_gd x y n mk a k true (i + 1) else if r_turn x y a k (x i) (y i) < 0 then r_gd x y n mk a k false (i + 1) else r_gd x y n mk a k true (i + 1)) else t
termination_by n - i
def r_behind (x y : Nat → Int32) (n : Nat) (mk : Int32) (a k : Nat) : Nat :=
  if k < n then (if (mk >>> (nI k &&& 31)) &&& 1 = 0 then r_behind x y n mk a (k + 1) else if k = a then r_behind x y n mk a (k + 1) else if r_gd x y n mk a k true 0 = false then r_behind x y n mk a (k + 1) else k) else a
termination_by n - k
def r_bef (sz rd : Nat → Nat) (a b i : Nat) : Bool :=
  if i < sz a then (if i < sz b then (if rd (20 * a + i) = rd (20 * b + i) then r_bef sz rd a b (i + 1) else if rd (20 * b + i) ≤ rd (20 * a + i) then false else true) else if sz b ≤ sz a then false else true) else if sz b ≤ sz a then false else true
termination_by sz a - i
def r_after (sz rd : Nat → Nat) (d i : Nat) : Nat := rd (20 * d + (i + 1) % sz d)
def r_wi (sz rd : Nat → Nat) (d a b i : Nat) : Bool :=
  if i < sz d then (if rd (20 * d + i) = a then (if r_after sz rd d i = b then true else r_wi sz rd d a b (i + 1)) else r_wi sz rd d a b (i + 1)) else false
termination_by sz d - i
def r_ws (od sz rd : Nat → Nat) (n a b k : Nat) : Int32 :=
  if k < n then (if r_wi sz rd (od k) a b 0 = true then nI k else r_ws od sz rd n a b (k + 1)) else -1
termination_by n - k
def r_oi (od sz rd : Nat → Nat) (n v d i : Nat) : Int32 :=
  if i < sz d then (if rd (20 * d + i) = v then (if 0 ≤ r_ws od sz rd n (r_after sz rd d i) v 0 then r_oi od sz rd n v d (i + 1) else nI (r_after sz rd d i)) else r_oi od sz rd n v d (i + 1)) else -1
termination_by sz d - i
def r_oh (od sz rd : Nat → Nat) (n v d : Nat) : Int32 :=
  if d < n then (if r_oi od sz rd n v d 0 = -1 then r_oh od sz rd n v (d + 1) else r_oi od sz rd n v d 0) else -1
termination_by n - d
set_option maxHeartbeats 4000000 in
set_option maxRecDepth 100000 in
theorem c_X4_thrown (l : Launch) (dC : Nat → ClassId) (dI : Nat → Nat → Nat) (o0 xb yb za ua wa va : Nat) (cI : ClassId) (th ns md nc hz : Int32) : Met l yX4_thrown wsX4_thrown ({ frames := 0, cells := 0, slots := 0, locals := 0 }) (q_Pc (dC, dI) [.ref o0] [(o0, .inr (4, [.int th, .int ns, .ref xb, .ref yb, .int md, .int nc, .ref za, .ref ua, .ref wa, .int hz, .ref va]))] []) (k2_QcV (.int th)) 0 0 (fun _ => False) := by
  refine Met.ofW (cc := cX4_thrown) (maxL := 1) (ret := (some .int)) (by decide) rfl ?_
  intro p e s m args below meth c s₁ B hml hv
  obtain ⟨rfl, hP, hK⟩ := hv
  have hx := B.exec
  have hb := B.bytes
  have hr := B.returns
  have hts := atoms_spec (ws := wsX4_thrown) B.pre
  have hown : s.vm.findClass RX4 = some m.cls := findClass_of_methodNamed B.named
  have hlocks := B.notSynchronized
  have hP : va_P (dC, dI) vwCl [(o0, .inr (4, [.int th, .int ns, .ref xb, .ref yb, .int md, .int nc, .ref za, .ref ua, .ref wa, .int hz, .ref va]))] s.heap := hP
  have hl := lv_entry ([.ref o0]) (n := 1) (Nat.le_of_ble_eq_true rfl)
  rw [lg_entry_eq]
  generalize (lg_sl ([.ref o0]) ++ List.replicate (1 - (lg_sl ([.ref o0])).length) Slot.unset).toArray = ls at hl ⊢
  have hl : lv_has ls 1 [(0, .ref o0)] := hl
  refine lv_aload_n hx hb dX4_thrown_0 rfl (lv_at hl 0 rfl) ?_
  refine va_get (D := (dC, dI)) (ci := 4) (v := .int th) (C := RX4) (T := TX4) (N := 11) hx hb hts (by decide +kernel) hown hK hP 0 rfl rfl 0 (by decide) (hts (.fieldLink RX4 28 "CircleCellsModel" "thrown" "I") (by decide +kernel)) (fun _ h9 => h9) rfl dX4_thrown_1 ?_
  exact W.iret (v := th) hx hb hr q_ret (fun _ h => nomatch h) dX4_thrown_4
set_option maxHeartbeats 4000000 in
set_option maxRecDepth 100000 in
theorem c_X4_out (l : Launch) (dC : Nat → ClassId) (dI : Nat → Nat → Nat) (k t : Int32) : Met l yX4_out wsX4_out ({ frames := 0, cells := 0, slots := 0, locals := 0 }) (q_Pc (dC, dI) [.int k, .int t] [] []) (k2_QcV (.int (bI (r_out k t)))) 0 0 (fun _ => False) := by
  refine Met.ofW (cc := cX4_out) (maxL := 2) (ret := (some .boolean)) (by decide) rfl ?_
  intro p e s m args below meth c s₁ B hml hv
  obtain ⟨rfl, hP, hK⟩ := hv
  have hx := B.exec
  have hb := B.bytes
  have hr := B.returns
  have hts := atoms_spec (ws := wsX4_out) B.pre
  have hown : s.vm.findClass RX4 = some m.cls := findClass_of_methodNamed B.named
  have hlocks := B.notSynchronized
  have hP : va_P (dC, dI) vwCl [] s.heap := hP
  have hl := lv_entry ([.int k, .int t]) (n := 2) (Nat.le_of_ble_eq_true rfl)
  rw [lg_entry_eq]
  generalize (lg_sl ([.int k, .int t]) ++ List.replicate (2 - (lg_sl ([.int k, .int t])).length) Slot.unset).toArray = ls at hl ⊢
  have hl : lv_has ls 2 [(0, .int k), (1, .int t)] := hl
  refine lv_iload_n hx hb dX4_out_0 rfl (lv_at hl 0 rfl) ?_
  refine lv_if_lt (tgt := 9) hx hb dX4_out_1 (by decide) (fun c1 => ?_) (fun c1 => ?_)
  · unfold r_out
    rw [if_pos c1]
    refine lv_iconst (v := bI true) hx hb dX4_out_9 (by decide) ?_
    refine lv_goto (tgt := 14) hx hb dX4_out_10 (by decide) ?_
    exact W.zret (v := bI true) hx hb hr (bI_nar _) q_ret (fun _ h => nomatch h) dX4_out_14
  · unfold r_out
    rw [if_neg c1]
    refine lv_iload_n hx hb dX4_out_4 rfl (lv_at hl 0 rfl) ?_
    refine lv_iload_n hx hb dX4_out_5 rfl (lv_at hl 1 rfl) ?_
    refine lv_icmp_lt (tgt := 13) hx hb dX4_out_6 (by decide) (fun c6 => ?_) (fun c6 => ?_)
    · rw [if_pos c6]
      refine lv_iconst (v := bI false) hx hb dX4_out_13 (by decide) ?_
      exact W.zret (v := bI false) hx hb hr (bI_nar _) q_ret (fun _ h => nomatch h) dX4_out_14
    · rw [if_neg c6]
      refine lv_iconst (v := bI true) hx hb dX4_out_9 (by decide) ?_
      refine lv_goto (tgt := 14) hx hb dX4_out_10 (by decide) ?_
      exact W.zret (v := bI true) hx hb hr (bI_nar _) q_ret (fun _ h => nomatch h) dX4_out_14
set_option maxHeartbeats 4000000 in
set_option maxRecDepth 100000 in
theorem c_X4_isFar (l : Launch) (dC : Nat → ClassId) (dI : Nat → Nat → Nat) (px py : Int32) : Met l yX4_isFar wsX4_isFar ({ frames := 0, cells := 0, slots := 0, locals := 0 }) (q_Pc (dC, dI) [.int px, .int py] [] []) (k2_QcV (.int (bI (r_far px py)))) 0 0 (fun _ => False) := by
  refine Met.ofW (cc := cX4_isFar) (maxL := 2) (ret := (some .boolean)) (by decide) rfl ?_
  intro p e s m args below meth c s₁ B hml hv
  obtain ⟨rfl, hP, hK⟩ := hv
  have hx := B.exec
  have hb := B.bytes
  have hr := B.returns
  have hts := atoms_spec (ws := wsX4_isFar) B.pre
  have hown : s.vm.findClass RX4 = some m.cls := findClass_of_methodNamed B.named
  have hlocks := B.notSynchronized
  have hP : va_P (dC, dI) vwCl [] s.heap := hP
  have hl := lv_entry ([.int px, .int py]) (n := 2) (Nat.le_of_ble_eq_true rfl)
  rw [lg_entry_eq]
  generalize (lg_sl ([.int px, .int py]) ++ List.replicate (2 - (lg_sl ([.int px, .int py])).length) Slot.unset).toArray = ls at hl ⊢
  have hl : lv_has ls 2 [(0, .int px), (1, .int py)] := hl
  refine lv_iload_n hx hb dX4_isFar_0 rfl (lv_at hl 0 rfl) ?_
  refine lv_sipush (v := (-400)) hx hb dX4_isFar_1 (by decide) ?_
  refine lv_icmp_lt (tgt := 28) hx hb dX4_isFar_4 (by decide) (fun c4 => ?_) (fun c4 => ?_)
  · unfold r_far
    rw [if_pos c4]
    refine lv_iconst (v := bI true) hx hb dX4_isFar_28 (by decide) ?_
    refine lv_goto (tgt := 33) hx hb dX4_isFar_29 (by decide) ?_
    exact W.zret (v := bI true) hx hb hr (bI_nar _) q_ret (fun _ h => nomatch h) dX4_isFar_33
  · unfold r_far
    rw [if_neg c4]
    refine lv_iload_n hx hb dX4_isFar_7 rfl (lv_at hl 0 rfl) ?_
    refine lv_sipush (v := 400) hx hb dX4_isFar_8 (by decide) ?_
    refine lv_icmp_gt (tgt := 28) hx hb dX4_isFar_11 (by decide) (fun c11 => ?_) (fun c11 => ?_)
    · rw [if_pos c11]
      refine lv_iconst (v := bI true) hx hb dX4_isFar_28 (by decide) ?_
      refine lv_goto (tgt := 33) hx hb dX4_isFar_29 (by decide) ?_
      exact W.zret (v := bI true) hx hb hr (bI_nar _) q_ret (fun _ h => nomatch h) dX4_isFar_33
    · rw [if_neg c11]
      refine lv_iload_n hx hb dX4_isFar_14 rfl (lv_at hl 1 rfl) ?_
      refine lv_sipush (v := (-400)) hx hb dX4_isFar_15 (by decide) ?_
      refine lv_icmp_lt (tgt := 28) hx hb dX4_isFar_18 (by decide) (fun c18 => ?_) (fun c18 => ?_)
      · rw [if_pos c18]
        refine lv_iconst (v := bI true) hx hb dX4_isFar_28 (by decide) ?_
        refine lv_goto (tgt := 33) hx hb dX4_isFar_29 (by decide) ?_
        exact W.zret (v := bI true) hx hb hr (bI_nar _) q_ret (fun _ h => nomatch h) dX4_isFar_33
      · rw [if_neg c18]
        refine lv_iload_n hx hb dX4_isFar_21 rfl (lv_at hl 1 rfl) ?_
        refine lv_sipush (v := 400) hx hb dX4_isFar_22 (by decide) ?_
        refine lv_icmp_le (tgt := 32) hx hb dX4_isFar_25 (by decide) (fun c25 => ?_) (fun c25 => ?_)
        · rw [if_pos c25]
          refine lv_iconst (v := bI false) hx hb dX4_isFar_32 (by decide) ?_
          exact W.zret (v := bI false) hx hb hr (bI_nar _) q_ret (fun _ h => nomatch h) dX4_isFar_33
        · rw [if_neg c25]
          refine lv_iconst (v := bI true) hx hb dX4_isFar_28 (by decide) ?_
          refine lv_goto (tgt := 33) hx hb dX4_isFar_29 (by decide) ?_
          exact W.zret (v := bI true) hx hb hr (bI_nar _) q_ret (fun _ h => nomatch h) dX4_isFar_33
set_option maxHeartbeats 4000000 in
set_option maxRecDepth 100000 in
theorem c_X4_isTaken (l : Launch) (dC : Nat → ClassId) (dI : Nat → Nat → Nat) (o0 xb yb za ua wa va : Nat) (cI : ClassId) (th md nc hz : Int32) (x y : Nat → Int32) (n : Nat) (px py bt : Int32) (ln : n ≤ 20) : Met l yX4_isTaken wsX4_isTaken ({ frames := 0, cells := 0, slots := 0, locals := 0 }) (q_Pc (dC, dI) [.ref o0, .int px, .int py, .int bt] [(o0, .inr (4, [.int th, .int (nI n), .ref xb, .ref yb, .int md, .int nc, .ref za, .ref ua, .ref wa, .int hz, .ref va])), (xb, .inl (cI, 20, .inl x)), (yb, .inl (cI, 20, .inl y))] [(cI, .int)]) (k2_QcV (.int (bI (r_taken x y n px py bt false 0)))) 0 0 (fun _ => False) := by
  refine Met.ofW (cc := cX4_isTaken) (maxL := 6) (ret := (some .boolean)) (by decide) rfl ?_
  intro p e s m args below meth c s₁ B hml hv
  obtain ⟨rfl, hP, hK⟩ := hv
  have hx := B.exec
  have hb := B.bytes
  have hr := B.returns
  have hts := atoms_spec (ws := wsX4_isTaken) B.pre
  have hown : s.vm.findClass RX4 = some m.cls := findClass_of_methodNamed B.named
  have hlocks := B.notSynchronized
  have hP : va_P (dC, dI) vwCl [(o0, .inr (4, [.int th, .int (nI n), .ref xb, .ref yb, .int md, .int nc, .ref za, .ref ua, .ref wa, .int hz, .ref va])), (xb, .inl (cI, 20, .inl x)), (yb, .inl (cI, 20, .inl y))] s.heap := hP
  have hl := lv_entry ([.ref o0, .int px, .int py, .int bt]) (n := 6) (Nat.le_of_ble_eq_true rfl)
  rw [lg_entry_eq]
  generalize (lg_sl ([.ref o0, .int px, .int py, .int bt]) ++ List.replicate (6 - (lg_sl ([.ref o0, .int px, .int py, .int bt])).length) Slot.unset).toArray = ls at hl ⊢
  have hl : lv_has ls 6 [(0, .ref o0), (1, .int px), (2, .int py), (3, .int bt)] := hl
  refine lv_iconst (v := bI false) hx hb dX4_isTaken_0 (by decide) ?_
  refine lv_istore (lv' := [(4, .int (bI false)), (0, .ref o0), (1, .int px), (2, .int py), (3, .int bt)]) hx hb dX4_isTaken_1 hl (by decide) rfl (fun ls hl => ?_)
  refine lv_iconst (v := nI 0) hx hb dX4_isTaken_3 (by decide) ?_
  refine lv_istore (lv' := [(5, .int (nI 0)), (4, .int (bI false)), (0, .ref o0), (1, .int px), (2, .int py), (3, .int bt)]) hx hb dX4_isTaken_4 hl (by decide) rfl (fun ls hl => ?_)
  have loop : ∀ (f : Nat) (t : Bool) (k : Nat) (R : Bool) (ls : Array Slot), (k ≤ n) → (n + 1 ≤ k + f) → r_taken x y n px py bt t k = R → lv_has ls 6 [(0, .ref o0), (1, .int px), (2, .int py), (3, .int bt), (4, .int (bI t)), (5, .int (nI k))] → W p l e (headSpec wsX4_isTaken ({ frames := 0, cells := 0, slots := 0, locals := 0 })).room s m ([.ref o0, .int px, .int py, .int bt] : List Value).toArray below meth c s.heap [] 0 0 (MQ below (k2_QcV (.int (bI R))) ([.ref o0, .int px, .int py, .int bt] : List Value).toArray s 0 0 (fun _ => False)) (F0 m 6 ls []) := by
    intro f
    induction f with
    | zero =>
      intro t k R ls h1 h2
      omega
    | succ f ih_loop =>
      intro t k R ls h1 h2 hF hl
      refine lv_iload hx hb dX4_isTaken_6 (lv_at hl 5 rfl) ?_
      refine lv_aload_n hx hb dX4_isTaken_8 rfl (lv_at hl 0 rfl) ?_
      refine va_get (D := (dC, dI)) (ci := 4) (v := .int (nI n)) (C := RX4) (T := TX4) (N := 11) hx hb hts (by decide +kernel) hown hK hP 0 rfl rfl 1 (by decide) (hts (.fieldLink RX4 32 "CircleCellsModel" "sites" "I") (by decide +kernel)) (fun _ h9 => h9) rfl dX4_isTaken_9 ?_
      refine q_icmp_ge (tgt := 61) (by omega) (by omega) hx hb dX4_isTaken_12 (by decide) (fun c12 => ?_) (fun c12 => ?_)
      · rw [r_taken, if_neg (by omega)] at hF
        subst hF
        refine lv_iload hx hb dX4_isTaken_61 (lv_at hl 4 rfl) ?_
        exact W.zret (v := bI t) hx hb hr (bI_nar _) q_ret (fun _ h => nomatch h) dX4_isTaken_63
      · rw [r_taken, if_pos c12] at hF
        refine lv_iload hx hb dX4_isTaken_15 (lv_at hl 4 rfl) ?_
        refine q_ifb_ne (tgt := 48) hx hb dX4_isTaken_17 (by decide) (fun c17 => ?_) (fun c17 => ?_)
        · rw [if_pos c17] at hF
          refine lv_iconst (v := bI true) hx hb dX4_isTaken_48 (by decide) ?_
          refine lv_goto (tgt := 53) hx hb dX4_isTaken_49 (by decide) ?_
          refine lv_istore (lv' := [(4, .int (bI true)), (0, .ref o0), (1, .int px), (2, .int py), (3, .int bt), (5, .int (nI k))]) hx hb dX4_isTaken_53 hl (by decide) rfl (fun ls hl => ?_)
          refine lv_iinc (v := nI (k + 1)) (lv' := [(5, .int (nI (k + 1))), (4, .int (bI true)), (0, .ref o0), (1, .int px), (2, .int py), (3, .int bt)]) hx hb dX4_isTaken_55 hl (k := 5) rfl (by rw [show Int32.ofInt 1 = 1 from rfl]; exact nI_1 _) (by decide) rfl (fun ls hl => ?_)
          refine lv_goto (tgt := 6) hx hb dX4_isTaken_58 (by decide) ?_
          exact ih_loop true (k + 1) R ls (by omega) (by omega) hF (lv_sub hl [2, 3, 4, 5, 1, 0] rfl)
        · rw [if_neg (by rw [c17]; decide)] at hF
          refine lv_iload hx hb dX4_isTaken_20 (lv_at hl 5 rfl) ?_
          refine lv_iload_n hx hb dX4_isTaken_22 rfl (lv_at hl 3 rfl) ?_
          refine lv_icmp_eq (tgt := 52) hx hb dX4_isTaken_23 (by decide) (fun c23 => ?_) (fun c23 => ?_)
          · rw [if_pos c23] at hF
            refine lv_iconst (v := bI false) hx hb dX4_isTaken_52 (by decide) ?_
            refine lv_istore (lv' := [(4, .int (bI false)), (0, .ref o0), (1, .int px), (2, .int py), (3, .int bt), (5, .int (nI k))]) hx hb dX4_isTaken_53 hl (by decide) rfl (fun ls hl => ?_)
            refine lv_iinc (v := nI (k + 1)) (lv' := [(5, .int (nI (k + 1))), (4, .int (bI false)), (0, .ref o0), (1, .int px), (2, .int py), (3, .int bt)]) hx hb dX4_isTaken_55 hl (k := 5) rfl (by rw [show Int32.ofInt 1 = 1 from rfl]; exact nI_1 _) (by decide) rfl (fun ls hl => ?_)
            refine lv_goto (tgt := 6) hx hb dX4_isTaken_58 (by decide) ?_
            exact ih_loop false (k + 1) R ls (by omega) (by omega) hF (lv_sub hl [2, 3, 4, 5, 1, 0] rfl)
          · rw [if_neg c23] at hF
            refine lv_aload_n hx hb dX4_isTaken_26 rfl (lv_at hl 0 rfl) ?_
            refine va_get (D := (dC, dI)) (ci := 4) (v := .ref xb) (C := RX4) (T := TX4) (N := 11) hx hb hts (by decide +kernel) hown hK hP 0 rfl rfl 2 (by decide) (hts (.fieldLink RX4 7 "CircleCellsModel" "x" "[I") (by decide +kernel)) (fun _ h9 => h9) rfl dX4_isTaken_27 ?_
            refine lv_iload hx hb dX4_isTaken_30 (lv_at hl 5 rfl) ?_
            refine q_iald hx hb hK hP 1 0 rfl rfl (k) rfl (by omega) (by decide) dX4_isTaken_32 ?_
            refine lv_iload_n hx hb dX4_isTaken_33 rfl (lv_at hl 1 rfl) ?_
            refine lv_icmp_ne (tgt := 52) hx hb dX4_isTaken_34 (by decide) (fun c34 => ?_) (fun c34 => ?_)
            · rw [if_neg c34] at hF
              refine lv_iconst (v := bI false) hx hb dX4_isTaken_52 (by decide) ?_
              refine lv_istore (lv' := [(4, .int (bI false)), (0, .ref o0), (1, .int px), (2, .int py), (3, .int bt), (5, .int (nI k))]) hx hb dX4_isTaken_53 hl (by decide) rfl (fun ls hl => ?_)
              refine lv_iinc (v := nI (k + 1)) (lv' := [(5, .int (nI (k + 1))), (4, .int (bI false)), (0, .ref o0), (1, .int px), (2, .int py), (3, .int bt)]) hx hb dX4_isTaken_55 hl (k := 5) rfl (by rw [show Int32.ofInt 1 = 1 from rfl]; exact nI_1 _) (by decide) rfl (fun ls hl => ?_)
              refine lv_goto (tgt := 6) hx hb dX4_isTaken_58 (by decide) ?_
              exact ih_loop false (k + 1) R ls (by omega) (by omega) hF (lv_sub hl [2, 3, 4, 5, 1, 0] rfl)
            · rw [if_pos c34] at hF
              refine lv_aload_n hx hb dX4_isTaken_37 rfl (lv_at hl 0 rfl) ?_
              refine va_get (D := (dC, dI)) (ci := 4) (v := .ref yb) (C := RX4) (T := TX4) (N := 11) hx hb hts (by decide +kernel) hown hK hP 0 rfl rfl 3 (by decide) (hts (.fieldLink RX4 13 "CircleCellsModel" "y" "[I") (by decide +kernel)) (fun _ h9 => h9) rfl dX4_isTaken_38 ?_
              refine lv_iload hx hb dX4_isTaken_41 (lv_at hl 5 rfl) ?_
              refine q_iald hx hb hK hP 2 0 rfl rfl (k) rfl (by omega) (by decide) dX4_isTaken_43 ?_
              refine lv_iload_n hx hb dX4_isTaken_44 rfl (lv_at hl 2 rfl) ?_
              refine lv_icmp_ne (tgt := 52) hx hb dX4_isTaken_45 (by decide) (fun c45 => ?_) (fun c45 => ?_)
              · rw [if_neg c45] at hF
                refine lv_iconst (v := bI false) hx hb dX4_isTaken_52 (by decide) ?_
                refine lv_istore (lv' := [(4, .int (bI false)), (0, .ref o0), (1, .int px), (2, .int py), (3, .int bt), (5, .int (nI k))]) hx hb dX4_isTaken_53 hl (by decide) rfl (fun ls hl => ?_)
                refine lv_iinc (v := nI (k + 1)) (lv' := [(5, .int (nI (k + 1))), (4, .int (bI false)), (0, .ref o0), (1, .int px), (2, .int py), (3, .int bt)]) hx hb dX4_isTaken_55 hl (k := 5) rfl (by rw [show Int32.ofInt 1 = 1 from rfl]; exact nI_1 _) (by decide) rfl (fun ls hl => ?_)
                refine lv_goto (tgt := 6) hx hb dX4_isTaken_58 (by decide) ?_
                exact ih_loop false (k + 1) R ls (by omega) (by omega) hF (lv_sub hl [2, 3, 4, 5, 1, 0] rfl)
              · rw [if_pos c45] at hF
                refine lv_iconst (v := bI true) hx hb dX4_isTaken_48 (by decide) ?_
                refine lv_goto (tgt := 53) hx hb dX4_isTaken_49 (by decide) ?_
                refine lv_istore (lv' := [(4, .int (bI true)), (0, .ref o0), (1, .int px), (2, .int py), (3, .int bt), (5, .int (nI k))]) hx hb dX4_isTaken_53 hl (by decide) rfl (fun ls hl => ?_)
                refine lv_iinc (v := nI (k + 1)) (lv' := [(5, .int (nI (k + 1))), (4, .int (bI true)), (0, .ref o0), (1, .int px), (2, .int py), (3, .int bt)]) hx hb dX4_isTaken_55 hl (k := 5) rfl (by rw [show Int32.ofInt 1 = 1 from rfl]; exact nI_1 _) (by decide) rfl (fun ls hl => ?_)
                refine lv_goto (tgt := 6) hx hb dX4_isTaken_58 (by decide) ?_
                exact ih_loop true (k + 1) R ls (by omega) (by omega) hF (lv_sub hl [2, 3, 4, 5, 1, 0] rfl)
  exact loop (n + 1) false 0 _ ls (by omega) (by omega) rfl (lv_sub hl [2, 3, 4, 5, 1, 0] rfl)
set_option maxHeartbeats 4000000 in
set_option maxRecDepth 100000 in
theorem c_X4_turn (l : Launch) (dC : Nat → ClassId) (dI : Nat → Nat → Nat) (o0 xb yb za ua wa va : Nat) (cI : ClassId) (th ns md nc hz : Int32) (x y : Nat → Int32) (a b : Nat) (px py : Int32) (la : a < 20) (lb : b < 20) : Met l yX4_turn wsX4_turn ({ frames := 0, cells := 0, slots := 0, locals := 0 }) (q_Pc (dC, dI) [.ref o0, .int (nI a), .int (nI b), .int px, .int py] [(o0, .inr (4, [.int th, .int ns, .ref xb, .ref yb, .int md, .int nc, .ref za, .ref ua, .ref wa, .int hz, .ref va])), (xb, .inl (cI, 20, .inl x)), (yb, .inl (cI, 20, .inl y))] [(cI, .int)]) (k2_QcV (.long (r_turn x y a b px py))) 0 0 (fun _ => False) := by
  refine Met.ofW (cc := cX4_turn) (maxL := 5) (ret := (some .long)) (by decide) rfl ?_
  intro p e s m args below meth c s₁ B hml hv
  obtain ⟨rfl, hP, hK⟩ := hv
  have hx := B.exec
  have hb := B.bytes
  have hr := B.returns
  have hts := atoms_spec (ws := wsX4_turn) B.pre
  have hown : s.vm.findClass RX4 = some m.cls := findClass_of_methodNamed B.named
  have hlocks := B.notSynchronized
  have hP : va_P (dC, dI) vwCl [(o0, .inr (4, [.int th, .int ns, .ref xb, .ref yb, .int md, .int nc, .ref za, .ref ua, .ref wa, .int hz, .ref va])), (xb, .inl (cI, 20, .inl x)), (yb, .inl (cI, 20, .inl y))] s.heap := hP
  have hl := lv_entry ([.ref o0, .int (nI a), .int (nI b), .int px, .int py]) (n := 5) (Nat.le_of_ble_eq_true rfl)
  rw [lg_entry_eq]
  generalize (lg_sl ([.ref o0, .int (nI a), .int (nI b), .int px, .int py]) ++ List.replicate (5 - (lg_sl ([.ref o0, .int (nI a), .int (nI b), .int px, .int py])).length) Slot.unset).toArray = ls at hl ⊢
  have hl : lv_has ls 5 [(0, .ref o0), (1, .int (nI a)), (2, .int (nI b)), (3, .int px), (4, .int py)] := hl
  refine lv_aload_n hx hb dX4_turn_0 rfl (lv_at hl 0 rfl) ?_
  refine va_get (D := (dC, dI)) (ci := 4) (v := .ref xb) (C := RX4) (T := TX4) (N := 11) hx hb hts (by decide +kernel) hown hK hP 0 rfl rfl 2 (by decide) (hts (.fieldLink RX4 7 "CircleCellsModel" "x" "[I") (by decide +kernel)) (fun _ h9 => h9) rfl dX4_turn_1 ?_
  refine lv_iload_n hx hb dX4_turn_4 rfl (lv_at hl 2 rfl) ?_
  refine q_iald hx hb hK hP 1 0 rfl rfl (b) rfl (by omega) (by decide) dX4_turn_5 ?_
  refine lv_aload_n hx hb dX4_turn_6 rfl (lv_at hl 0 rfl) ?_
  refine va_get (D := (dC, dI)) (ci := 4) (v := .ref xb) (C := RX4) (T := TX4) (N := 11) hx hb hts (by decide +kernel) hown hK hP 0 rfl rfl 2 (by decide) (hts (.fieldLink RX4 7 "CircleCellsModel" "x" "[I") (by decide +kernel)) (fun _ h9 => h9) rfl dX4_turn_7 ?_
  refine lv_iload_n hx hb dX4_turn_10 rfl (lv_at hl 1 rfl) ?_
  refine q_iald hx hb hK hP 1 0 rfl rfl (a) rfl (by omega) (by decide) dX4_turn_11 ?_
  refine lv_isub hx hb dX4_turn_12 ?_
  refine lv_i2l (v := ((x b) - (x a)).toInt64) hx hb dX4_turn_13 rfl ?_
  refine lv_iload hx hb dX4_turn_14 (lv_at hl 4 rfl) ?_
  refine lv_aload_n hx hb dX4_turn_16 rfl (lv_at hl 0 rfl) ?_
  refine va_get (D := (dC, dI)) (ci := 4) (v := .ref yb) (C := RX4) (T := TX4) (N := 11) hx hb hts (by decide +kernel) hown hK hP 0 rfl rfl 3 (by decide) (hts (.fieldLink RX4 13 "CircleCellsModel" "y" "[I") (by decide +kernel)) (fun _ h9 => h9) rfl dX4_turn_17 ?_
  refine lv_iload_n hx hb dX4_turn_20 rfl (lv_at hl 1 rfl) ?_
  refine q_iald hx hb hK hP 2 0 rfl rfl (a) rfl (by omega) (by decide) dX4_turn_21 ?_
  refine lv_isub hx hb dX4_turn_22 ?_
  refine lv_i2l (v := (py - (y a)).toInt64) hx hb dX4_turn_23 rfl ?_
  refine lv_lmul hx hb dX4_turn_24 ?_
  refine lv_aload_n hx hb dX4_turn_25 rfl (lv_at hl 0 rfl) ?_
  refine va_get (D := (dC, dI)) (ci := 4) (v := .ref yb) (C := RX4) (T := TX4) (N := 11) hx hb hts (by decide +kernel) hown hK hP 0 rfl rfl 3 (by decide) (hts (.fieldLink RX4 13 "CircleCellsModel" "y" "[I") (by decide +kernel)) (fun _ h9 => h9) rfl dX4_turn_26 ?_
  refine lv_iload_n hx hb dX4_turn_29 rfl (lv_at hl 2 rfl) ?_
  refine q_iald hx hb hK hP 2 0 rfl rfl (b) rfl (by omega) (by decide) dX4_turn_30 ?_
  refine lv_aload_n hx hb dX4_turn_31 rfl (lv_at hl 0 rfl) ?_
  refine va_get (D := (dC, dI)) (ci := 4) (v := .ref yb) (C := RX4) (T := TX4) (N := 11) hx hb hts (by decide +kernel) hown hK hP 0 rfl rfl 3 (by decide) (hts (.fieldLink RX4 13 "CircleCellsModel" "y" "[I") (by decide +kernel)) (fun _ h9 => h9) rfl dX4_turn_32 ?_
  refine lv_iload_n hx hb dX4_turn_35 rfl (lv_at hl 1 rfl) ?_
  refine q_iald hx hb hK hP 2 0 rfl rfl (a) rfl (by omega) (by decide) dX4_turn_36 ?_
  refine lv_isub hx hb dX4_turn_37 ?_
  refine lv_i2l (v := ((y b) - (y a)).toInt64) hx hb dX4_turn_38 rfl ?_
  refine lv_iload_n hx hb dX4_turn_39 rfl (lv_at hl 3 rfl) ?_
  refine lv_aload_n hx hb dX4_turn_40 rfl (lv_at hl 0 rfl) ?_
  refine va_get (D := (dC, dI)) (ci := 4) (v := .ref xb) (C := RX4) (T := TX4) (N := 11) hx hb hts (by decide +kernel) hown hK hP 0 rfl rfl 2 (by decide) (hts (.fieldLink RX4 7 "CircleCellsModel" "x" "[I") (by decide +kernel)) (fun _ h9 => h9) rfl dX4_turn_41 ?_
  refine lv_iload_n hx hb dX4_turn_44 rfl (lv_at hl 1 rfl) ?_
  refine q_iald hx hb hK hP 1 0 rfl rfl (a) rfl (by omega) (by decide) dX4_turn_45 ?_
  refine lv_isub hx hb dX4_turn_46 ?_
  refine lv_i2l (v := (px - (x a)).toInt64) hx hb dX4_turn_47 rfl ?_
  refine lv_lmul hx hb dX4_turn_48 ?_
  refine lv_lsub hx hb dX4_turn_49 ?_
  exact W.lret (v := ((((x b) - (x a)).toInt64) * ((py - (y a)).toInt64)) - ((((y b) - (y a)).toInt64) * ((px - (x a)).toInt64))) hx hb hr q_ret (fun _ h => nomatch h) dX4_turn_50
set_option maxHeartbeats 4000000 in
set_option maxRecDepth 100000 in
theorem c_X4_square (l : Launch) (dC : Nat → ClassId) (dI : Nat → Nat → Nat) (o0 xb yb za ua wa va : Nat) (cI : ClassId) (th ns md nc hz : Int32) (x y : Nat → Int32) (a b : Nat) (la : a < 20) (lb : b < 20) : Met l yX4_square wsX4_square ({ frames := 0, cells := 0, slots := 0, locals := 0 }) (q_Pc (dC, dI) [.ref o0, .int (nI a), .int (nI b)] [(o0, .inr (4, [.int th, .int ns, .ref xb, .ref yb, .int md, .int nc, .ref za, .ref ua, .ref wa, .int hz, .ref va])), (xb, .inl (cI, 20, .inl x)), (yb, .inl (cI, 20, .inl y))] [(cI, .int)]) (k2_QcV (.long (r_sq x y a b))) 0 0 (fun _ => False) := by
  refine Met.ofW (cc := cX4_square) (maxL := 3) (ret := (some .long)) (by decide) rfl ?_
  intro p e s m args below meth c s₁ B hml hv
  obtain ⟨rfl, hP, hK⟩ := hv
  have hx := B.exec
  have hb := B.bytes
  have hr := B.returns
  have hts := atoms_spec (ws := wsX4_square) B.pre
  have hown : s.vm.findClass RX4 = some m.cls := findClass_of_methodNamed B.named
  have hlocks := B.notSynchronized
  have hP : va_P (dC, dI) vwCl [(o0, .inr (4, [.int th, .int ns, .ref xb, .ref yb, .int md, .int nc, .ref za, .ref ua, .ref wa, .int hz, .ref va])), (xb, .inl (cI, 20, .inl x)), (yb, .inl (cI, 20, .inl y))] s.heap := hP
  have hl := lv_entry ([.ref o0, .int (nI a), .int (nI b)]) (n := 3) (Nat.le_of_ble_eq_true rfl)
  rw [lg_entry_eq]
  generalize (lg_sl ([.ref o0, .int (nI a), .int (nI b)]) ++ List.replicate (3 - (lg_sl ([.ref o0, .int (nI a), .int (nI b)])).length) Slot.unset).toArray = ls at hl ⊢
  have hl : lv_has ls 3 [(0, .ref o0), (1, .int (nI a)), (2, .int (nI b))] := hl
  refine lv_aload_n hx hb dX4_square_0 rfl (lv_at hl 0 rfl) ?_
  refine va_get (D := (dC, dI)) (ci := 4) (v := .ref xb) (C := RX4) (T := TX4) (N := 11) hx hb hts (by decide +kernel) hown hK hP 0 rfl rfl 2 (by decide) (hts (.fieldLink RX4 7 "CircleCellsModel" "x" "[I") (by decide +kernel)) (fun _ h9 => h9) rfl dX4_square_1 ?_
  refine lv_iload_n hx hb dX4_square_4 rfl (lv_at hl 1 rfl) ?_
  refine q_iald hx hb hK hP 1 0 rfl rfl (a) rfl (by omega) (by decide) dX4_square_5 ?_
  refine lv_aload_n hx hb dX4_square_6 rfl (lv_at hl 0 rfl) ?_
  refine va_get (D := (dC, dI)) (ci := 4) (v := .ref xb) (C := RX4) (T := TX4) (N := 11) hx hb hts (by decide +kernel) hown hK hP 0 rfl rfl 2 (by decide) (hts (.fieldLink RX4 7 "CircleCellsModel" "x" "[I") (by decide +kernel)) (fun _ h9 => h9) rfl dX4_square_7 ?_
  refine lv_iload_n hx hb dX4_square_10 rfl (lv_at hl 2 rfl) ?_
  refine q_iald hx hb hK hP 1 0 rfl rfl (b) rfl (by omega) (by decide) dX4_square_11 ?_
  refine lv_isub hx hb dX4_square_12 ?_
  refine lv_i2l (v := ((x a) - (x b)).toInt64) hx hb dX4_square_13 rfl ?_
  refine lv_aload_n hx hb dX4_square_14 rfl (lv_at hl 0 rfl) ?_
  refine va_get (D := (dC, dI)) (ci := 4) (v := .ref xb) (C := RX4) (T := TX4) (N := 11) hx hb hts (by decide +kernel) hown hK hP 0 rfl rfl 2 (by decide) (hts (.fieldLink RX4 7 "CircleCellsModel" "x" "[I") (by decide +kernel)) (fun _ h9 => h9) rfl dX4_square_15 ?_
  refine lv_iload_n hx hb dX4_square_18 rfl (lv_at hl 1 rfl) ?_
  refine q_iald hx hb hK hP 1 0 rfl rfl (a) rfl (by omega) (by decide) dX4_square_19 ?_
  refine lv_aload_n hx hb dX4_square_20 rfl (lv_at hl 0 rfl) ?_
  refine va_get (D := (dC, dI)) (ci := 4) (v := .ref xb) (C := RX4) (T := TX4) (N := 11) hx hb hts (by decide +kernel) hown hK hP 0 rfl rfl 2 (by decide) (hts (.fieldLink RX4 7 "CircleCellsModel" "x" "[I") (by decide +kernel)) (fun _ h9 => h9) rfl dX4_square_21 ?_
  refine lv_iload_n hx hb dX4_square_24 rfl (lv_at hl 2 rfl) ?_
  refine q_iald hx hb hK hP 1 0 rfl rfl (b) rfl (by omega) (by decide) dX4_square_25 ?_
  refine lv_isub hx hb dX4_square_26 ?_
  refine lv_i2l (v := ((x a) - (x b)).toInt64) hx hb dX4_square_27 rfl ?_
  refine lv_lmul hx hb dX4_square_28 ?_
  refine lv_aload_n hx hb dX4_square_29 rfl (lv_at hl 0 rfl) ?_
  refine va_get (D := (dC, dI)) (ci := 4) (v := .ref yb) (C := RX4) (T := TX4) (N := 11) hx hb hts (by decide +kernel) hown hK hP 0 rfl rfl 3 (by decide) (hts (.fieldLink RX4 13 "CircleCellsModel" "y" "[I") (by decide +kernel)) (fun _ h9 => h9) rfl dX4_square_30 ?_
  refine lv_iload_n hx hb dX4_square_33 rfl (lv_at hl 1 rfl) ?_
  refine q_iald hx hb hK hP 2 0 rfl rfl (a) rfl (by omega) (by decide) dX4_square_34 ?_
  refine lv_aload_n hx hb dX4_square_35 rfl (lv_at hl 0 rfl) ?_
  refine va_get (D := (dC, dI)) (ci := 4) (v := .ref yb) (C := RX4) (T := TX4) (N := 11) hx hb hts (by decide +kernel) hown hK hP 0 rfl rfl 3 (by decide) (hts (.fieldLink RX4 13 "CircleCellsModel" "y" "[I") (by decide +kernel)) (fun _ h9 => h9) rfl dX4_square_36 ?_
  refine lv_iload_n hx hb dX4_square_39 rfl (lv_at hl 2 rfl) ?_
  refine q_iald hx hb hK hP 2 0 rfl rfl (b) rfl (by omega) (by decide) dX4_square_40 ?_
  refine lv_isub hx hb dX4_square_41 ?_
  refine lv_i2l (v := ((y a) - (y b)).toInt64) hx hb dX4_square_42 rfl ?_
  refine lv_aload_n hx hb dX4_square_43 rfl (lv_at hl 0 rfl) ?_
  refine va_get (D := (dC, dI)) (ci := 4) (v := .ref yb) (C := RX4) (T := TX4) (N := 11) hx hb hts (by decide +kernel) hown hK hP 0 rfl rfl 3 (by decide) (hts (.fieldLink RX4 13 "CircleCellsModel" "y" "[I") (by decide +kernel)) (fun _ h9 => h9) rfl dX4_square_44 ?_
  refine lv_iload_n hx hb dX4_square_47 rfl (lv_at hl 1 rfl) ?_
  refine q_iald hx hb hK hP 2 0 rfl rfl (a) rfl (by omega) (by decide) dX4_square_48 ?_
  refine lv_aload_n hx hb dX4_square_49 rfl (lv_at hl 0 rfl) ?_
  refine va_get (D := (dC, dI)) (ci := 4) (v := .ref yb) (C := RX4) (T := TX4) (N := 11) hx hb hts (by decide +kernel) hown hK hP 0 rfl rfl 3 (by decide) (hts (.fieldLink RX4 13 "CircleCellsModel" "y" "[I") (by decide +kernel)) (fun _ h9 => h9) rfl dX4_square_50 ?_
  refine lv_iload_n hx hb dX4_square_53 rfl (lv_at hl 2 rfl) ?_
  refine q_iald hx hb hK hP 2 0 rfl rfl (b) rfl (by omega) (by decide) dX4_square_54 ?_
  refine lv_isub hx hb dX4_square_55 ?_
  refine lv_i2l (v := ((y a) - (y b)).toInt64) hx hb dX4_square_56 rfl ?_
  refine lv_lmul hx hb dX4_square_57 ?_
  refine lv_ladd hx hb dX4_square_58 ?_
  exact W.lret (v := ((((x a) - (x b)).toInt64) * (((x a) - (x b)).toInt64)) + ((((y a) - (y b)).toInt64) * (((y a) - (y b)).toInt64))) hx hb hr q_ret (fun _ h => nomatch h) dX4_square_59
set_option maxHeartbeats 4000000 in
set_option maxRecDepth 100000 in
theorem c_X4_power (l : Launch) (dC : Nat → ClassId) (dI : Nat → Nat → Nat) (o0 xb yb za ua wa va : Nat) (cI : ClassId) (th ns md nc hz : Int32) (x y : Nat → Int32) (a b d k : Nat) (la : a < 20) (lb : b < 20) (ld : d < 20) (lk : k < 20) : Met l yX4_power wsX4_power ({ frames := 1, cells := 0, slots := 0, locals := 22 }) (q_Pc (dC, dI) [.ref o0, .int (nI a), .int (nI b), .int (nI d), .int (nI k)] [(o0, .inr (4, [.int th, .int ns, .ref xb, .ref yb, .int md, .int nc, .ref za, .ref ua, .ref wa, .int hz, .ref va])), (xb, .inl (cI, 20, .inl x)), (yb, .inl (cI, 20, .inl y))] [(cI, .int)]) (k2_QcV (.long (r_pow x y a b d k))) 0 0 (fun _ => False) := by
  refine Met.ofW (cc := cX4_power) (maxL := 21) (ret := (some .long)) (by decide) rfl ?_
  intro p e s m args below meth c s₁ B hml hv
  obtain ⟨rfl, hP, hK⟩ := hv
  have hx := B.exec
  have hb := B.bytes
  have hr := B.returns
  have hts := atoms_spec (ws := wsX4_power) B.pre
  have hown : s.vm.findClass RX4 = some m.cls := findClass_of_methodNamed B.named
  have hlocks := B.notSynchronized
  have hP : va_P (dC, dI) vwCl [(o0, .inr (4, [.int th, .int ns, .ref xb, .ref yb, .int md, .int nc, .ref za, .ref ua, .ref wa, .int hz, .ref va])), (xb, .inl (cI, 20, .inl x)), (yb, .inl (cI, 20, .inl y))] s.heap := hP
  have hl := lv_entry ([.ref o0, .int (nI a), .int (nI b), .int (nI d), .int (nI k)]) (n := 21) (Nat.le_of_ble_eq_true rfl)
  rw [lg_entry_eq]
  generalize (lg_sl ([.ref o0, .int (nI a), .int (nI b), .int (nI d), .int (nI k)]) ++ List.replicate (21 - (lg_sl ([.ref o0, .int (nI a), .int (nI b), .int (nI d), .int (nI k)])).length) Slot.unset).toArray = ls at hl ⊢
  have hl : lv_has ls 21 [(0, .ref o0), (1, .int (nI a)), (2, .int (nI b)), (3, .int (nI d)), (4, .int (nI k))] := hl
  refine lv_aload_n hx hb dX4_power_0 rfl (lv_at hl 0 rfl) ?_
  refine va_get (D := (dC, dI)) (ci := 4) (v := .ref xb) (C := RX4) (T := TX4) (N := 11) hx hb hts (by decide +kernel) hown hK hP 0 rfl rfl 2 (by decide) (hts (.fieldLink RX4 7 "CircleCellsModel" "x" "[I") (by decide +kernel)) (fun _ h9 => h9) rfl dX4_power_1 ?_
  refine lv_iload_n hx hb dX4_power_4 rfl (lv_at hl 2 rfl) ?_
  refine q_iald hx hb hK hP 1 0 rfl rfl (b) rfl (by omega) (by decide) dX4_power_5 ?_
  refine lv_aload_n hx hb dX4_power_6 rfl (lv_at hl 0 rfl) ?_
  refine va_get (D := (dC, dI)) (ci := 4) (v := .ref xb) (C := RX4) (T := TX4) (N := 11) hx hb hts (by decide +kernel) hown hK hP 0 rfl rfl 2 (by decide) (hts (.fieldLink RX4 7 "CircleCellsModel" "x" "[I") (by decide +kernel)) (fun _ h9 => h9) rfl dX4_power_7 ?_
  refine lv_iload_n hx hb dX4_power_10 rfl (lv_at hl 1 rfl) ?_
  refine q_iald hx hb hK hP 1 0 rfl rfl (a) rfl (by omega) (by decide) dX4_power_11 ?_
  refine lv_isub hx hb dX4_power_12 ?_
  refine lv_i2l (v := ((x b) - (x a)).toInt64) hx hb dX4_power_13 rfl ?_
  refine lv_lstore (lv' := [(5, .long (((x b) - (x a)).toInt64)), (0, .ref o0), (1, .int (nI a)), (2, .int (nI b)), (3, .int (nI d)), (4, .int (nI k))]) hx hb dX4_power_14 hl (by decide) rfl (fun ls hl => ?_)
  refine lv_aload_n hx hb dX4_power_16 rfl (lv_at hl 1 rfl) ?_
  refine va_get (D := (dC, dI)) (ci := 4) (v := .ref yb) (C := RX4) (T := TX4) (N := 11) hx hb hts (by decide +kernel) hown hK hP 0 rfl rfl 3 (by decide) (hts (.fieldLink RX4 13 "CircleCellsModel" "y" "[I") (by decide +kernel)) (fun _ h9 => h9) rfl dX4_power_17 ?_
  refine lv_iload_n hx hb dX4_power_20 rfl (lv_at hl 3 rfl) ?_
  refine q_iald hx hb hK hP 2 0 rfl rfl (b) rfl (by omega) (by decide) dX4_power_21 ?_
  refine lv_aload_n hx hb dX4_power_22 rfl (lv_at hl 1 rfl) ?_
  refine va_get (D := (dC, dI)) (ci := 4) (v := .ref yb) (C := RX4) (T := TX4) (N := 11) hx hb hts (by decide +kernel) hown hK hP 0 rfl rfl 3 (by decide) (hts (.fieldLink RX4 13 "CircleCellsModel" "y" "[I") (by decide +kernel)) (fun _ h9 => h9) rfl dX4_power_23 ?_
  refine lv_iload_n hx hb dX4_power_26 rfl (lv_at hl 2 rfl) ?_
  refine q_iald hx hb hK hP 2 0 rfl rfl (a) rfl (by omega) (by decide) dX4_power_27 ?_
  refine lv_isub hx hb dX4_power_28 ?_
  refine lv_i2l (v := ((y b) - (y a)).toInt64) hx hb dX4_power_29 rfl ?_
  refine lv_lstore (lv' := [(7, .long (((y b) - (y a)).toInt64)), (5, .long (((x b) - (x a)).toInt64)), (0, .ref o0), (1, .int (nI a)), (2, .int (nI b)), (3, .int (nI d)), (4, .int (nI k))]) hx hb dX4_power_30 hl (by decide) rfl (fun ls hl => ?_)
  refine lv_aload_n hx hb dX4_power_32 rfl (lv_at hl 2 rfl) ?_
  refine va_get (D := (dC, dI)) (ci := 4) (v := .ref xb) (C := RX4) (T := TX4) (N := 11) hx hb hts (by decide +kernel) hown hK hP 0 rfl rfl 2 (by decide) (hts (.fieldLink RX4 7 "CircleCellsModel" "x" "[I") (by decide +kernel)) (fun _ h9 => h9) rfl dX4_power_33 ?_
  refine lv_iload_n hx hb dX4_power_36 rfl (lv_at hl 5 rfl) ?_
  refine q_iald hx hb hK hP 1 0 rfl rfl (d) rfl (by omega) (by decide) dX4_power_37 ?_
  refine lv_aload_n hx hb dX4_power_38 rfl (lv_at hl 2 rfl) ?_
  refine va_get (D := (dC, dI)) (ci := 4) (v := .ref xb) (C := RX4) (T := TX4) (N := 11) hx hb hts (by decide +kernel) hown hK hP 0 rfl rfl 2 (by decide) (hts (.fieldLink RX4 7 "CircleCellsModel" "x" "[I") (by decide +kernel)) (fun _ h9 => h9) rfl dX4_power_39 ?_
  refine lv_iload_n hx hb dX4_power_42 rfl (lv_at hl 3 rfl) ?_
  refine q_iald hx hb hK hP 1 0 rfl rfl (a) rfl (by omega) (by decide) dX4_power_43 ?_
  refine lv_isub hx hb dX4_power_44 ?_
  refine lv_i2l (v := ((x d) - (x a)).toInt64) hx hb dX4_power_45 rfl ?_
  refine lv_lstore (lv' := [(9, .long (((x d) - (x a)).toInt64)), (7, .long (((y b) - (y a)).toInt64)), (5, .long (((x b) - (x a)).toInt64)), (0, .ref o0), (1, .int (nI a)), (2, .int (nI b)), (3, .int (nI d)), (4, .int (nI k))]) hx hb dX4_power_46 hl (by decide) rfl (fun ls hl => ?_)
  refine lv_aload_n hx hb dX4_power_48 rfl (lv_at hl 3 rfl) ?_
  refine va_get (D := (dC, dI)) (ci := 4) (v := .ref yb) (C := RX4) (T := TX4) (N := 11) hx hb hts (by decide +kernel) hown hK hP 0 rfl rfl 3 (by decide) (hts (.fieldLink RX4 13 "CircleCellsModel" "y" "[I") (by decide +kernel)) (fun _ h9 => h9) rfl dX4_power_49 ?_
  refine lv_iload_n hx hb dX4_power_52 rfl (lv_at hl 6 rfl) ?_
  refine q_iald hx hb hK hP 2 0 rfl rfl (d) rfl (by omega) (by decide) dX4_power_53 ?_
  refine lv_aload_n hx hb dX4_power_54 rfl (lv_at hl 3 rfl) ?_
  refine va_get (D := (dC, dI)) (ci := 4) (v := .ref yb) (C := RX4) (T := TX4) (N := 11) hx hb hts (by decide +kernel) hown hK hP 0 rfl rfl 3 (by decide) (hts (.fieldLink RX4 13 "CircleCellsModel" "y" "[I") (by decide +kernel)) (fun _ h9 => h9) rfl dX4_power_55 ?_
  refine lv_iload_n hx hb dX4_power_58 rfl (lv_at hl 4 rfl) ?_
  refine q_iald hx hb hK hP 2 0 rfl rfl (a) rfl (by omega) (by decide) dX4_power_59 ?_
  refine lv_isub hx hb dX4_power_60 ?_
  refine lv_i2l (v := ((y d) - (y a)).toInt64) hx hb dX4_power_61 rfl ?_
  refine lv_lstore (lv' := [(11, .long (((y d) - (y a)).toInt64)), (9, .long (((x d) - (x a)).toInt64)), (7, .long (((y b) - (y a)).toInt64)), (5, .long (((x b) - (x a)).toInt64)), (0, .ref o0), (1, .int (nI a)), (2, .int (nI b)), (3, .int (nI d)), (4, .int (nI k))]) hx hb dX4_power_62 hl (by decide) rfl (fun ls hl => ?_)
  refine lv_lload hx hb dX4_power_64 (lv_at hl 3 rfl) ?_
  refine lv_lload hx hb dX4_power_66 (lv_at hl 0 rfl) ?_
  refine lv_lmul hx hb dX4_power_68 ?_
  refine lv_lload hx hb dX4_power_69 (lv_at hl 2 rfl) ?_
  refine lv_lload hx hb dX4_power_71 (lv_at hl 1 rfl) ?_
  refine lv_lmul hx hb dX4_power_73 ?_
  refine lv_lsub hx hb dX4_power_74 ?_
  refine lv_lstore (lv' := [(13, .long (((((x b) - (x a)).toInt64) * (((y d) - (y a)).toInt64)) - ((((y b) - (y a)).toInt64) * (((x d) - (x a)).toInt64)))), (11, .long (((y d) - (y a)).toInt64)), (9, .long (((x d) - (x a)).toInt64)), (7, .long (((y b) - (y a)).toInt64)), (5, .long (((x b) - (x a)).toInt64)), (0, .ref o0), (1, .int (nI a)), (2, .int (nI b)), (3, .int (nI d)), (4, .int (nI k))]) hx hb dX4_power_75 hl (by decide) rfl (fun ls hl => ?_)
  refine lv_aload_n hx hb dX4_power_77 rfl (lv_at hl 5 rfl) ?_
  refine lv_iload_n hx hb dX4_power_78 rfl (lv_at hl 6 rfl) ?_
  refine lv_iload_n hx hb dX4_power_79 rfl (lv_at hl 7 rfl) ?_
  refine q_cV (As := [.int (nI a), .int (nI b)]) (rest := []) ⟨hx, hb, hml, hown, hts⟩ (c_X4_square l dC dI o0 xb yb za ua wa va cI th ns md nc hz x y a b (by omega) (by omega)) (cwV 2 hts gX4_power_X4_square rfl rfl rfl (by decide +kernel) ⟨Nat.le_of_ble_eq_true rfl, Nat.le_of_ble_eq_true rfl⟩) (q_pV hK hP [0, 1, 2] [0] 4 0 rfl rfl rfl rfl rfl rfl) rfl hl.1 rfl (Nat.le_of_ble_eq_true rfl) ⟨Nat.zero_le _, Nat.zero_le _⟩ dX4_power_80 ?_
  refine lv_lload hx hb dX4_power_83 (lv_at hl 1 rfl) ?_
  refine lv_lmul hx hb dX4_power_85 ?_
  refine lv_aload_n hx hb dX4_power_86 rfl (lv_at hl 5 rfl) ?_
  refine lv_iload_n hx hb dX4_power_87 rfl (lv_at hl 6 rfl) ?_
  refine lv_iload_n hx hb dX4_power_88 rfl (lv_at hl 8 rfl) ?_
  refine q_cV (As := [.int (nI a), .int (nI d)]) (rest := [.long ((r_sq x y a b) * (((y d) - (y a)).toInt64))]) ⟨hx, hb, hml, hown, hts⟩ (c_X4_square l dC dI o0 xb yb za ua wa va cI th ns md nc hz x y a d (by omega) (by omega)) (cwV 2 hts gX4_power_X4_square rfl rfl rfl (by decide +kernel) ⟨Nat.le_of_ble_eq_true rfl, Nat.le_of_ble_eq_true rfl⟩) (q_pV hK hP [0, 1, 2] [0] 4 0 rfl rfl rfl rfl rfl rfl) rfl hl.1 rfl (Nat.le_of_ble_eq_true rfl) ⟨Nat.zero_le _, Nat.zero_le _⟩ dX4_power_89 ?_
  refine lv_lload hx hb dX4_power_92 (lv_at hl 3 rfl) ?_
  refine lv_lmul hx hb dX4_power_94 ?_
  refine lv_lsub hx hb dX4_power_95 ?_
  refine lv_lstore (lv' := [(15, .long (((r_sq x y a b) * (((y d) - (y a)).toInt64)) - ((r_sq x y a d) * (((y b) - (y a)).toInt64)))), (13, .long (((((x b) - (x a)).toInt64) * (((y d) - (y a)).toInt64)) - ((((y b) - (y a)).toInt64) * (((x d) - (x a)).toInt64)))), (11, .long (((y d) - (y a)).toInt64)), (9, .long (((x d) - (x a)).toInt64)), (7, .long (((y b) - (y a)).toInt64)), (5, .long (((x b) - (x a)).toInt64)), (0, .ref o0), (1, .int (nI a)), (2, .int (nI b)), (3, .int (nI d)), (4, .int (nI k))]) hx hb dX4_power_96 hl (by decide) rfl (fun ls hl => ?_)
  refine lv_aload_n hx hb dX4_power_98 rfl (lv_at hl 6 rfl) ?_
  refine lv_iload_n hx hb dX4_power_99 rfl (lv_at hl 7 rfl) ?_
  refine lv_iload_n hx hb dX4_power_100 rfl (lv_at hl 9 rfl) ?_
  refine q_cV (As := [.int (nI a), .int (nI d)]) (rest := []) ⟨hx, hb, hml, hown, hts⟩ (c_X4_square l dC dI o0 xb yb za ua wa va cI th ns md nc hz x y a d (by omega) (by omega)) (cwV 2 hts gX4_power_X4_square rfl rfl rfl (by decide +kernel) ⟨Nat.le_of_ble_eq_true rfl, Nat.le_of_ble_eq_true rfl⟩) (q_pV hK hP [0, 1, 2] [0] 4 0 rfl rfl rfl rfl rfl rfl) rfl hl.1 rfl (Nat.le_of_ble_eq_true rfl) ⟨Nat.zero_le _, Nat.zero_le _⟩ dX4_power_101 ?_
  refine lv_lload hx hb dX4_power_104 (lv_at hl 5 rfl) ?_
  refine lv_lmul hx hb dX4_power_106 ?_
  refine lv_aload_n hx hb dX4_power_107 rfl (lv_at hl 6 rfl) ?_
  refine lv_iload_n hx hb dX4_power_108 rfl (lv_at hl 7 rfl) ?_
  refine lv_iload_n hx hb dX4_power_109 rfl (lv_at hl 8 rfl) ?_
  refine q_cV (As := [.int (nI a), .int (nI b)]) (rest := [.long ((r_sq x y a d) * (((x b) - (x a)).toInt64))]) ⟨hx, hb, hml, hown, hts⟩ (c_X4_square l dC dI o0 xb yb za ua wa va cI th ns md nc hz x y a b (by omega) (by omega)) (cwV 2 hts gX4_power_X4_square rfl rfl rfl (by decide +kernel) ⟨Nat.le_of_ble_eq_true rfl, Nat.le_of_ble_eq_true rfl⟩) (q_pV hK hP [0, 1, 2] [0] 4 0 rfl rfl rfl rfl rfl rfl) rfl hl.1 rfl (Nat.le_of_ble_eq_true rfl) ⟨Nat.zero_le _, Nat.zero_le _⟩ dX4_power_110 ?_
  refine lv_lload hx hb dX4_power_113 (lv_at hl 3 rfl) ?_
  refine lv_lmul hx hb dX4_power_115 ?_
  refine lv_lsub hx hb dX4_power_116 ?_
  refine lv_lstore (lv' := [(17, .long (((r_sq x y a d) * (((x b) - (x a)).toInt64)) - ((r_sq x y a b) * (((x d) - (x a)).toInt64)))), (15, .long (((r_sq x y a b) * (((y d) - (y a)).toInt64)) - ((r_sq x y a d) * (((y b) - (y a)).toInt64)))), (13, .long (((((x b) - (x a)).toInt64) * (((y d) - (y a)).toInt64)) - ((((y b) - (y a)).toInt64) * (((x d) - (x a)).toInt64)))), (11, .long (((y d) - (y a)).toInt64)), (9, .long (((x d) - (x a)).toInt64)), (7, .long (((y b) - (y a)).toInt64)), (5, .long (((x b) - (x a)).toInt64)), (0, .ref o0), (1, .int (nI a)), (2, .int (nI b)), (3, .int (nI d)), (4, .int (nI k))]) hx hb dX4_power_117 hl (by decide) rfl (fun ls hl => ?_)
  refine lv_lload hx hb dX4_power_119 (lv_at hl 1 rfl) ?_
  refine lv_aload_n hx hb dX4_power_121 rfl (lv_at hl 7 rfl) ?_
  refine va_get (D := (dC, dI)) (ci := 4) (v := .ref xb) (C := RX4) (T := TX4) (N := 11) hx hb hts (by decide +kernel) hown hK hP 0 rfl rfl 2 (by decide) (hts (.fieldLink RX4 7 "CircleCellsModel" "x" "[I") (by decide +kernel)) (fun _ h9 => h9) rfl dX4_power_122 ?_
  refine lv_iload hx hb dX4_power_125 (lv_at hl 11 rfl) ?_
  refine q_iald hx hb hK hP 1 0 rfl rfl (k) rfl (by omega) (by decide) dX4_power_127 ?_
  refine lv_aload_n hx hb dX4_power_128 rfl (lv_at hl 7 rfl) ?_
  refine va_get (D := (dC, dI)) (ci := 4) (v := .ref xb) (C := RX4) (T := TX4) (N := 11) hx hb hts (by decide +kernel) hown hK hP 0 rfl rfl 2 (by decide) (hts (.fieldLink RX4 7 "CircleCellsModel" "x" "[I") (by decide +kernel)) (fun _ h9 => h9) rfl dX4_power_129 ?_
  refine lv_iload_n hx hb dX4_power_132 rfl (lv_at hl 8 rfl) ?_
  refine q_iald hx hb hK hP 1 0 rfl rfl (a) rfl (by omega) (by decide) dX4_power_133 ?_
  refine lv_isub hx hb dX4_power_134 ?_
  refine lv_i2l (v := ((x k) - (x a)).toInt64) hx hb dX4_power_135 rfl ?_
  refine lv_lmul hx hb dX4_power_136 ?_
  refine lv_lload hx hb dX4_power_137 (lv_at hl 0 rfl) ?_
  refine lv_aload_n hx hb dX4_power_139 rfl (lv_at hl 7 rfl) ?_
  refine va_get (D := (dC, dI)) (ci := 4) (v := .ref yb) (C := RX4) (T := TX4) (N := 11) hx hb hts (by decide +kernel) hown hK hP 0 rfl rfl 3 (by decide) (hts (.fieldLink RX4 13 "CircleCellsModel" "y" "[I") (by decide +kernel)) (fun _ h9 => h9) rfl dX4_power_140 ?_
  refine lv_iload hx hb dX4_power_143 (lv_at hl 11 rfl) ?_
  refine q_iald hx hb hK hP 2 0 rfl rfl (k) rfl (by omega) (by decide) dX4_power_145 ?_
  refine lv_aload_n hx hb dX4_power_146 rfl (lv_at hl 7 rfl) ?_
  refine va_get (D := (dC, dI)) (ci := 4) (v := .ref yb) (C := RX4) (T := TX4) (N := 11) hx hb hts (by decide +kernel) hown hK hP 0 rfl rfl 3 (by decide) (hts (.fieldLink RX4 13 "CircleCellsModel" "y" "[I") (by decide +kernel)) (fun _ h9 => h9) rfl dX4_power_147 ?_
  refine lv_iload_n hx hb dX4_power_150 rfl (lv_at hl 8 rfl) ?_
  refine q_iald hx hb hK hP 2 0 rfl rfl (a) rfl (by omega) (by decide) dX4_power_151 ?_
  refine lv_isub hx hb dX4_power_152 ?_
  refine lv_i2l (v := ((y k) - (y a)).toInt64) hx hb dX4_power_153 rfl ?_
  refine lv_lmul hx hb dX4_power_154 ?_
  refine lv_ladd hx hb dX4_power_155 ?_
  refine lv_lload hx hb dX4_power_156 (lv_at hl 2 rfl) ?_
  refine lv_aload_n hx hb dX4_power_158 rfl (lv_at hl 7 rfl) ?_
  refine lv_iload_n hx hb dX4_power_159 rfl (lv_at hl 8 rfl) ?_
  refine lv_iload hx hb dX4_power_160 (lv_at hl 11 rfl) ?_
  refine q_cV (As := [.int (nI a), .int (nI k)]) (rest := [.long (((((x b) - (x a)).toInt64) * (((y d) - (y a)).toInt64)) - ((((y b) - (y a)).toInt64) * (((x d) - (x a)).toInt64))), .long (((((r_sq x y a b) * (((y d) - (y a)).toInt64)) - ((r_sq x y a d) * (((y b) - (y a)).toInt64))) * (((x k) - (x a)).toInt64)) + ((((r_sq x y a d) * (((x b) - (x a)).toInt64)) - ((r_sq x y a b) * (((x d) - (x a)).toInt64))) * (((y k) - (y a)).toInt64)))]) ⟨hx, hb, hml, hown, hts⟩ (c_X4_square l dC dI o0 xb yb za ua wa va cI th ns md nc hz x y a k (by omega) (by omega)) (cwV 2 hts gX4_power_X4_square rfl rfl rfl (by decide +kernel) ⟨Nat.le_of_ble_eq_true rfl, Nat.le_of_ble_eq_true rfl⟩) (q_pV hK hP [0, 1, 2] [0] 4 0 rfl rfl rfl rfl rfl rfl) rfl hl.1 rfl (Nat.le_of_ble_eq_true rfl) ⟨Nat.zero_le _, Nat.zero_le _⟩ dX4_power_162 ?_
  refine lv_lmul hx hb dX4_power_165 ?_
  refine lv_lsub hx hb dX4_power_166 ?_
  refine lv_lstore (lv' := [(19, .long ((((((r_sq x y a b) * (((y d) - (y a)).toInt64)) - ((r_sq x y a d) * (((y b) - (y a)).toInt64))) * (((x k) - (x a)).toInt64)) + ((((r_sq x y a d) * (((x b) - (x a)).toInt64)) - ((r_sq x y a b) * (((x d) - (x a)).toInt64))) * (((y k) - (y a)).toInt64))) - ((((((x b) - (x a)).toInt64) * (((y d) - (y a)).toInt64)) - ((((y b) - (y a)).toInt64) * (((x d) - (x a)).toInt64))) * (r_sq x y a k)))), (17, .long (((r_sq x y a d) * (((x b) - (x a)).toInt64)) - ((r_sq x y a b) * (((x d) - (x a)).toInt64)))), (15, .long (((r_sq x y a b) * (((y d) - (y a)).toInt64)) - ((r_sq x y a d) * (((y b) - (y a)).toInt64)))), (13, .long (((((x b) - (x a)).toInt64) * (((y d) - (y a)).toInt64)) - ((((y b) - (y a)).toInt64) * (((x d) - (x a)).toInt64)))), (11, .long (((y d) - (y a)).toInt64)), (9, .long (((x d) - (x a)).toInt64)), (7, .long (((y b) - (y a)).toInt64)), (5, .long (((x b) - (x a)).toInt64)), (0, .ref o0), (1, .int (nI a)), (2, .int (nI b)), (3, .int (nI d)), (4, .int (nI k))]) hx hb dX4_power_167 hl (by decide) rfl (fun ls hl => ?_)
  refine lv_lload hx hb dX4_power_169 (lv_at hl 3 rfl) ?_
  refine lv_lconst (v := 0) hx hb dX4_power_171 (by decide) ?_
  refine q_lcmp_le (tgt := 181) hx hb dX4_power_172 dX4_power_173 (by decide) (fun c173 => ?_) (fun c173 => ?_)
  · rw [r_pow, if_pos (show r_ar x y a b d ≤ 0 from c173)]
    refine lv_lload hx hb dX4_power_181 (lv_at hl 0 rfl) ?_
    refine lv_lneg hx hb dX4_power_183 ?_
    exact W.lret (v := -((((((r_sq x y a b) * (((y d) - (y a)).toInt64)) - ((r_sq x y a d) * (((y b) - (y a)).toInt64))) * (((x k) - (x a)).toInt64)) + ((((r_sq x y a d) * (((x b) - (x a)).toInt64)) - ((r_sq x y a b) * (((x d) - (x a)).toInt64))) * (((y k) - (y a)).toInt64))) - ((((((x b) - (x a)).toInt64) * (((y d) - (y a)).toInt64)) - ((((y b) - (y a)).toInt64) * (((x d) - (x a)).toInt64))) * (r_sq x y a k)))) hx hb hr q_ret (fun _ h => nomatch h) dX4_power_184
  · rw [r_pow, if_neg (show ¬ r_ar x y a b d ≤ 0 from c173)]
    refine lv_lload hx hb dX4_power_176 (lv_at hl 0 rfl) ?_
    refine lv_goto (tgt := 184) hx hb dX4_power_178 (by decide) ?_
    exact W.lret (v := (((((r_sq x y a b) * (((y d) - (y a)).toInt64)) - ((r_sq x y a d) * (((y b) - (y a)).toInt64))) * (((x k) - (x a)).toInt64)) + ((((r_sq x y a d) * (((x b) - (x a)).toInt64)) - ((r_sq x y a b) * (((x d) - (x a)).toInt64))) * (((y k) - (y a)).toInt64))) - ((((((x b) - (x a)).toInt64) * (((y d) - (y a)).toInt64)) - ((((y b) - (y a)).toInt64) * (((x d) - (x a)).toInt64))) * (r_sq x y a k))) hx hb hr q_ret (fun _ h => nomatch h) dX4_power_184
set_option maxHeartbeats 4000000 in
set_option maxRecDepth 100000 in
theorem c_X4_onCircle (l : Launch) (dC : Nat → ClassId) (dI : Nat → Nat → Nat) (o0 xb yb za ua wa va : Nat) (cI : ClassId) (th md nc hz : Int32) (x y : Nat → Int32) (n a b d : Nat) (ln : n ≤ 20) (la : a < n) (lb : b < n) (ld : d < n) : Met l yX4_onCircle wsX4_onCircle ({ frames := 2, cells := 0, slots := 0, locals := 62 }) (q_Pc (dC, dI) [.ref o0, .int (nI a), .int (nI b), .int (nI d)] [(o0, .inr (4, [.int th, .int (nI n), .ref xb, .ref yb, .int md, .int nc, .ref za, .ref ua, .ref wa, .int hz, .ref va])), (xb, .inl (cI, 20, .inl x)), (yb, .inl (cI, 20, .inl y))] [(cI, .int)]) (k2_QcV (.int (r_on x y n a b d 0 0))) 0 0 (fun _ => False) := by
  refine Met.ofW (cc := cX4_onCircle) (maxL := 8) (ret := (some .int)) (by decide) rfl ?_
  intro p e s m args below meth c s₁ B hml hv
  obtain ⟨rfl, hP, hK⟩ := hv
  have hx := B.exec
  have hb := B.bytes
  have hr := B.returns
  have hts := atoms_spec (ws := wsX4_onCircle) B.pre
  have hown : s.vm.findClass RX4 = some m.cls := findClass_of_methodNamed B.named
  have hlocks := B.notSynchronized
  have hP : va_P (dC, dI) vwCl [(o0, .inr (4, [.int th, .int (nI n), .ref xb, .ref yb, .int md, .int nc, .ref za, .ref ua, .ref wa, .int hz, .ref va])), (xb, .inl (cI, 20, .inl x)), (yb, .inl (cI, 20, .inl y))] s.heap := hP
  have hl := lv_entry ([.ref o0, .int (nI a), .int (nI b), .int (nI d)]) (n := 8) (Nat.le_of_ble_eq_true rfl)
  rw [lg_entry_eq]
  generalize (lg_sl ([.ref o0, .int (nI a), .int (nI b), .int (nI d)]) ++ List.replicate (8 - (lg_sl ([.ref o0, .int (nI a), .int (nI b), .int (nI d)])).length) Slot.unset).toArray = ls at hl ⊢
  have hl : lv_has ls 8 [(0, .ref o0), (1, .int (nI a)), (2, .int (nI b)), (3, .int (nI d))] := hl
  refine lv_iconst (v := 0) hx hb dX4_onCircle_0 (by decide) ?_
  refine lv_istore (lv' := [(4, .int 0), (0, .ref o0), (1, .int (nI a)), (2, .int (nI b)), (3, .int (nI d))]) hx hb dX4_onCircle_1 hl (by decide) rfl (fun ls hl => ?_)
  refine lv_iconst (v := nI 0) hx hb dX4_onCircle_3 (by decide) ?_
  refine lv_istore (lv' := [(5, .int (nI 0)), (4, .int 0), (0, .ref o0), (1, .int (nI a)), (2, .int (nI b)), (3, .int (nI d))]) hx hb dX4_onCircle_4 hl (by decide) rfl (fun ls hl => ?_)
  have loop : ∀ (f : Nat) (mk : Int32) (k : Nat) (R : Int32) (ls : Array Slot), (k ≤ n) → (n + 1 ≤ k + f) → r_on x y n a b d mk k = R → lv_has ls 8 [(0, .ref o0), (1, .int (nI a)), (2, .int (nI b)), (3, .int (nI d)), (4, .int mk), (5, .int (nI k))] → W p l e (headSpec wsX4_onCircle ({ frames := 2, cells := 0, slots := 0, locals := 62 })).room s m ([.ref o0, .int (nI a), .int (nI b), .int (nI d)] : List Value).toArray below meth c s.heap [] 0 0 (MQ below (k2_QcV (.int R)) ([.ref o0, .int (nI a), .int (nI b), .int (nI d)] : List Value).toArray s 0 0 (fun _ => False)) (F0 m 6 ls []) := by
    intro f
    induction f with
    | zero =>
      intro mk k R ls h1 h2
      omega
    | succ f ih_loop =>
      intro mk k R ls h1 h2 hF hl
      refine lv_iload hx hb dX4_onCircle_6 (lv_at hl 5 rfl) ?_
      refine lv_aload_n hx hb dX4_onCircle_8 rfl (lv_at hl 0 rfl) ?_
      refine va_get (D := (dC, dI)) (ci := 4) (v := .int (nI n)) (C := RX4) (T := TX4) (N := 11) hx hb hts (by decide +kernel) hown hK hP 0 rfl rfl 1 (by decide) (hts (.fieldLink RX4 32 "CircleCellsModel" "sites" "I") (by decide +kernel)) (fun _ h9 => h9) rfl dX4_onCircle_9 ?_
      refine q_icmp_ge (tgt := 62) (by omega) (by omega) hx hb dX4_onCircle_12 (by decide) (fun c12 => ?_) (fun c12 => ?_)
      · rw [r_on, if_neg (by omega)] at hF
        subst hF
        refine lv_iload hx hb dX4_onCircle_62 (lv_at hl 4 rfl) ?_
        exact W.iret (v := mk) hx hb hr q_ret (fun _ h => nomatch h) dX4_onCircle_64
      · rw [r_on, if_pos c12] at hF
        refine lv_aload_n hx hb dX4_onCircle_15 rfl (lv_at hl 0 rfl) ?_
        refine lv_iload_n hx hb dX4_onCircle_16 rfl (lv_at hl 1 rfl) ?_
        refine lv_iload_n hx hb dX4_onCircle_17 rfl (lv_at hl 2 rfl) ?_
        refine lv_iload_n hx hb dX4_onCircle_18 rfl (lv_at hl 3 rfl) ?_
        refine lv_iload hx hb dX4_onCircle_19 (lv_at hl 5 rfl) ?_
        refine q_cV (As := [.int (nI a), .int (nI b), .int (nI d), .int (nI k)]) (rest := []) ⟨hx, hb, hml, hown, hts⟩ (c_X4_power l dC dI o0 xb yb za ua wa va cI th (nI n) md nc hz x y a b d k (by omega) (by omega) (by omega) (by omega)) (cwV 4 hts gX4_onCircle_X4_power rfl rfl rfl (by decide +kernel) ⟨Nat.le_of_ble_eq_true rfl, Nat.le_of_ble_eq_true rfl⟩) (q_pV hK hP [0, 1, 2] [0] 4 0 rfl rfl rfl rfl rfl rfl) rfl hl.1 rfl (Nat.le_of_ble_eq_true rfl) ⟨Nat.zero_le _, Nat.zero_le _⟩ dX4_onCircle_21 ?_
        refine lv_lstore (lv' := [(6, .long (r_pow x y a b d k)), (0, .ref o0), (1, .int (nI a)), (2, .int (nI b)), (3, .int (nI d)), (4, .int mk), (5, .int (nI k))]) hx hb dX4_onCircle_24 hl (by decide) rfl (fun ls hl => ?_)
        refine lv_lload hx hb dX4_onCircle_26 (lv_at hl 0 rfl) ?_
        refine lv_lconst (v := 0) hx hb dX4_onCircle_28 (by decide) ?_
        refine q_lcmp_le (tgt := 35) hx hb dX4_onCircle_29 dX4_onCircle_30 (by decide) (fun c30 => ?_) (fun c30 => ?_)
        · rw [if_pos c30] at hF
          refine lv_lload hx hb dX4_onCircle_35 (lv_at hl 0 rfl) ?_
          refine lv_lconst (v := 0) hx hb dX4_onCircle_37 (by decide) ?_
          refine q_lcmp_ne (tgt := 52) hx hb dX4_onCircle_38 dX4_onCircle_39 (by decide) (fun c39 => ?_) (fun c39 => ?_)
          · rw [if_pos c39] at hF
            refine lv_iload hx hb dX4_onCircle_52 (lv_at hl 5 rfl) ?_
            refine lv_istore (lv' := [(4, .int mk), (6, .long (r_pow x y a b d k)), (0, .ref o0), (1, .int (nI a)), (2, .int (nI b)), (3, .int (nI d)), (5, .int (nI k))]) hx hb dX4_onCircle_54 hl (by decide) rfl (fun ls hl => ?_)
            refine lv_iinc (v := nI (k + 1)) (lv' := [(5, .int (nI (k + 1))), (4, .int mk), (6, .long (r_pow x y a b d k)), (0, .ref o0), (1, .int (nI a)), (2, .int (nI b)), (3, .int (nI d))]) hx hb dX4_onCircle_56 hl (k := 6) rfl (by rw [show Int32.ofInt 1 = 1 from rfl]; exact nI_1 _) (by decide) rfl (fun ls hl => ?_)
            refine lv_goto (tgt := 6) hx hb dX4_onCircle_59 (by decide) ?_
            exact ih_loop mk (k + 1) R ls (by omega) (by omega) hF (lv_sub hl [3, 4, 5, 6, 1, 0] rfl)
          · rw [if_neg (fun h => h c39)] at hF
            refine lv_iload hx hb dX4_onCircle_42 (lv_at hl 5 rfl) ?_
            refine lv_iconst (v := 1) hx hb dX4_onCircle_44 (by decide) ?_
            refine lv_iload hx hb dX4_onCircle_45 (lv_at hl 6 rfl) ?_
            refine lv_ishl hx hb dX4_onCircle_47 ?_
            refine lv_ior hx hb dX4_onCircle_48 ?_
            refine lv_goto (tgt := 54) hx hb dX4_onCircle_49 (by decide) ?_
            refine lv_istore (lv' := [(4, .int (mk ||| ((1 : Int32) <<< (nI k &&& 31)))), (6, .long (r_pow x y a b d k)), (0, .ref o0), (1, .int (nI a)), (2, .int (nI b)), (3, .int (nI d)), (5, .int (nI k))]) hx hb dX4_onCircle_54 hl (by decide) rfl (fun ls hl => ?_)
            refine lv_iinc (v := nI (k + 1)) (lv' := [(5, .int (nI (k + 1))), (4, .int (mk ||| ((1 : Int32) <<< (nI k &&& 31)))), (6, .long (r_pow x y a b d k)), (0, .ref o0), (1, .int (nI a)), (2, .int (nI b)), (3, .int (nI d))]) hx hb dX4_onCircle_56 hl (k := 6) rfl (by rw [show Int32.ofInt 1 = 1 from rfl]; exact nI_1 _) (by decide) rfl (fun ls hl => ?_)
            refine lv_goto (tgt := 6) hx hb dX4_onCircle_59 (by decide) ?_
            exact ih_loop (mk ||| ((1 : Int32) <<< (nI k &&& 31))) (k + 1) R ls (by omega) (by omega) hF (lv_sub hl [3, 4, 5, 6, 1, 0] rfl)
        · rw [if_neg c30] at hF
          subst hF
          refine lv_iconst (v := 0) hx hb dX4_onCircle_33 (by decide) ?_
          exact W.iret (v := 0) hx hb hr q_ret (fun _ h => nomatch h) dX4_onCircle_34
  exact loop (n + 1) 0 0 _ ls (by omega) (by omega) rfl (lv_sub hl [2, 3, 4, 5, 1, 0] rfl)
set_option maxHeartbeats 4000000 in
set_option maxRecDepth 100000 in
theorem c_X4_behind (l : Launch) (dC : Nat → ClassId) (dI : Nat → Nat → Nat) (o0 xb yb za ua wa va : Nat) (cI : ClassId) (th md nc hz : Int32) (x y : Nat → Int32) (mk : Int32) (n a : Nat) (ln : n ≤ 20) (la : a < n) : Met l yX4_behind wsX4_behind ({ frames := 1, cells := 0, slots := 0, locals := 24 }) (q_Pc (dC, dI) [.ref o0, .int mk, .int (nI a)] [(o0, .inr (4, [.int th, .int (nI n), .ref xb, .ref yb, .int md, .int nc, .ref za, .ref ua, .ref wa, .int hz, .ref va])), (xb, .inl (cI, 20, .inl x)), (yb, .inl (cI, 20, .inl y))] [(cI, .int)]) (k2_QcV (.int (nI (r_behind x y n mk a 0)))) 0 0 (fun _ => False) := by
  refine Met.ofW (cc := cX4_behind) (maxL := 6) (ret := (some .int)) (by decide) rfl ?_
  intro p e s m args below meth c s₁ B hml hv
  obtain ⟨rfl, hP, hK⟩ := hv
  have hx := B.exec
  have hb := B.bytes
  have hr := B.returns
  have hts := atoms_spec (ws := wsX4_behind) B.pre
  have hown : s.vm.findClass RX4 = some m.cls := findClass_of_methodNamed B.named
  have hlocks := B.notSynchronized
  have hP : va_P (dC, dI) vwCl [(o0, .inr (4, [.int th, .int (nI n), .ref xb, .ref yb, .int md, .int nc, .ref za, .ref ua, .ref wa, .int hz, .ref va])), (xb, .inl (cI, 20, .inl x)), (yb, .inl (cI, 20, .inl y))] s.heap := hP
  have hl := lv_entry ([.ref o0, .int mk, .int (nI a)]) (n := 6) (Nat.le_of_ble_eq_true rfl)
  rw [lg_entry_eq]
  generalize (lg_sl ([.ref o0, .int mk, .int (nI a)]) ++ List.replicate (6 - (lg_sl ([.ref o0, .int mk, .int (nI a)])).length) Slot.unset).toArray = ls at hl ⊢
  have hl : lv_has ls 6 [(0, .ref o0), (1, .int mk), (2, .int (nI a))] := hl
  refine lv_iconst (v := nI 0) hx hb dX4_behind_0 (by decide) ?_
  refine lv_istore_n (lv' := [(3, .int (nI 0)), (0, .ref o0), (1, .int mk), (2, .int (nI a))]) hx hb dX4_behind_1 rfl hl (by decide) rfl (fun ls hl => ?_)
  have loopA : ∀ (f : Nat) (k : Nat) (R : Nat) (ls : Array Slot), (k ≤ n) → (n + 1 ≤ k + f) → r_behind x y n mk a k = R → lv_has ls 6 [(0, .ref o0), (1, .int mk), (2, .int (nI a)), (3, .int (nI k))] → W p l e (headSpec wsX4_behind ({ frames := 1, cells := 0, slots := 0, locals := 24 })).room s m ([.ref o0, .int mk, .int (nI a)] : List Value).toArray below meth c s.heap [] 0 0 (MQ below (k2_QcV (.int (nI R))) ([.ref o0, .int mk, .int (nI a)] : List Value).toArray s 0 0 (fun _ => False)) (F0 m 2 ls []) := by
    intro f
    induction f with
    | zero =>
      intro k R ls h1 h2
      omega
    | succ f ih_loopA =>
      intro k R ls h1 h2 hF hl
      refine lv_iload_n hx hb dX4_behind_2 rfl (lv_at hl 3 rfl) ?_
      refine lv_aload_n hx hb dX4_behind_3 rfl (lv_at hl 0 rfl) ?_
      refine va_get (D := (dC, dI)) (ci := 4) (v := .int (nI n)) (C := RX4) (T := TX4) (N := 11) hx hb hts (by decide +kernel) hown hK hP 0 rfl rfl 1 (by decide) (hts (.fieldLink RX4 32 "CircleCellsModel" "sites" "I") (by decide +kernel)) (fun _ h9 => h9) rfl dX4_behind_4 ?_
      refine q_icmp_ge (tgt := 106) (by omega) (by omega) hx hb dX4_behind_7 (by decide) (fun c7 => ?_) (fun c7 => ?_)
      · rw [r_behind, if_neg (by omega)] at hF
        subst hF
        refine lv_iload_n hx hb dX4_behind_106 rfl (lv_at hl 2 rfl) ?_
        exact W.iret (v := nI a) hx hb hr q_ret (fun _ h => nomatch h) dX4_behind_107
      · rw [r_behind, if_pos c7] at hF
        refine lv_iload_n hx hb dX4_behind_10 rfl (lv_at hl 1 rfl) ?_
        refine lv_iload_n hx hb dX4_behind_11 rfl (lv_at hl 3 rfl) ?_
        refine lv_ishr hx hb dX4_behind_12 ?_
        refine lv_iconst (v := 1) hx hb dX4_behind_13 (by decide) ?_
        refine lv_iand hx hb dX4_behind_14 ?_
        refine lv_if_eq (tgt := 100) hx hb dX4_behind_15 (by decide) (fun c15 => ?_) (fun c15 => ?_)
        · rw [if_pos c15] at hF
          refine lv_iinc (v := nI (k + 1)) (lv' := [(3, .int (nI (k + 1))), (0, .ref o0), (1, .int mk), (2, .int (nI a))]) hx hb dX4_behind_100 hl (k := 3) rfl (by rw [show Int32.ofInt 1 = 1 from rfl]; exact nI_1 _) (by decide) rfl (fun ls hl => ?_)
          refine lv_goto (tgt := 2) hx hb dX4_behind_103 (by decide) ?_
          exact ih_loopA (k + 1) R ls (by omega) (by omega) hF (lv_sub hl [1, 2, 3, 0] rfl)
        · rw [if_neg c15] at hF
          refine lv_iload_n hx hb dX4_behind_18 rfl (lv_at hl 3 rfl) ?_
          refine lv_iload_n hx hb dX4_behind_19 rfl (lv_at hl 2 rfl) ?_
          refine q_icmp_ne (tgt := 26) (by omega) (by omega) hx hb dX4_behind_20 (by decide) (fun c20 => ?_) (fun c20 => ?_)
          · rw [if_neg c20] at hF
            refine lv_iconst (v := bI true) hx hb dX4_behind_26 (by decide) ?_
            refine lv_istore (lv' := [(4, .int (bI true)), (0, .ref o0), (1, .int mk), (2, .int (nI a)), (3, .int (nI k))]) hx hb dX4_behind_27 hl (by decide) rfl (fun ls hl => ?_)
            refine lv_iconst (v := nI 0) hx hb dX4_behind_29 (by decide) ?_
            refine lv_istore (lv' := [(5, .int (nI 0)), (4, .int (bI true)), (0, .ref o0), (1, .int mk), (2, .int (nI a)), (3, .int (nI k))]) hx hb dX4_behind_30 hl (by decide) rfl (fun ls hl => ?_)
            have loopB : ∀ (f : Nat) (t : Bool) (i : Nat) (R : Nat) (ls : Array Slot), (i ≤ n) → (n + 1 ≤ i + f) → (if r_gd x y n mk a k t i = false then r_behind x y n mk a (k + 1) else k) = R → lv_has ls 6 [(0, .ref o0), (1, .int mk), (2, .int (nI a)), (3, .int (nI k)), (4, .int (bI t)), (5, .int (nI i))] → W p l e (headSpec wsX4_behind ({ frames := 1, cells := 0, slots := 0, locals := 24 })).room s m ([.ref o0, .int mk, .int (nI a)] : List Value).toArray below meth c s.heap [] 0 0 (MQ below (k2_QcV (.int (nI R))) ([.ref o0, .int mk, .int (nI a)] : List Value).toArray s 0 0 (fun _ => False)) (F0 m 32 ls []) := by
              intro f
              induction f with
              | zero =>
                intro t i R ls h3 h4
                omega
              | succ f ih_loopB =>
                intro t i R ls h3 h4 hF hl
                refine lv_iload hx hb dX4_behind_32 (lv_at hl 5 rfl) ?_
                refine lv_aload_n hx hb dX4_behind_34 rfl (lv_at hl 0 rfl) ?_
                refine va_get (D := (dC, dI)) (ci := 4) (v := .int (nI n)) (C := RX4) (T := TX4) (N := 11) hx hb hts (by decide +kernel) hown hK hP 0 rfl rfl 1 (by decide) (hts (.fieldLink RX4 32 "CircleCellsModel" "sites" "I") (by decide +kernel)) (fun _ h9 => h9) rfl dX4_behind_35 ?_
                refine q_icmp_ge (tgt := 93) (by omega) (by omega) hx hb dX4_behind_38 (by decide) (fun c38 => ?_) (fun c38 => ?_)
                · rw [r_gd, if_neg (show ¬ i < n by omega)] at hF
                  refine lv_iload hx hb dX4_behind_93 (lv_at hl 4 rfl) ?_
                  refine q_ifb_eq (tgt := 100) hx hb dX4_behind_95 (by decide) (fun c95 => ?_) (fun c95 => ?_)
                  · rw [if_pos c95] at hF
                    refine lv_iinc (v := nI (k + 1)) (lv' := [(3, .int (nI (k + 1))), (0, .ref o0), (1, .int mk), (2, .int (nI a)), (4, .int (bI t)), (5, .int (nI i))]) hx hb dX4_behind_100 hl (k := 3) rfl (by rw [show Int32.ofInt 1 = 1 from rfl]; exact nI_1 _) (by decide) rfl (fun ls hl => ?_)
                    refine lv_goto (tgt := 2) hx hb dX4_behind_103 (by decide) ?_
                    exact ih_loopA (k + 1) R ls (by omega) (by omega) hF (lv_sub hl [1, 2, 3, 0] rfl)
                  · rw [if_neg (show ¬ t = false by rw [c95]; decide)] at hF
                    subst hF
                    refine lv_iload_n hx hb dX4_behind_98 rfl (lv_at hl 3 rfl) ?_
                    exact W.iret (v := nI k) hx hb hr q_ret (fun _ h => nomatch h) dX4_behind_99
                · rw [r_gd, if_pos c38] at hF
                  refine lv_iload hx hb dX4_behind_41 (lv_at hl 4 rfl) ?_
                  refine q_ifb_eq (tgt := 84) hx hb dX4_behind_43 (by decide) (fun c43 => ?_) (fun c43 => ?_)
                  · rw [if_pos c43] at hF
                    refine lv_iconst (v := bI false) hx hb dX4_behind_84 (by decide) ?_
                    refine lv_istore (lv' := [(4, .int (bI false)), (0, .ref o0), (1, .int mk), (2, .int (nI a)), (3, .int (nI k)), (5, .int (nI i))]) hx hb dX4_behind_85 hl (by decide) rfl (fun ls hl => ?_)
                    refine lv_iinc (v := nI (i + 1)) (lv' := [(5, .int (nI (i + 1))), (4, .int (bI false)), (0, .ref o0), (1, .int mk), (2, .int (nI a)), (3, .int (nI k))]) hx hb dX4_behind_87 hl (k := 5) rfl (by rw [show Int32.ofInt 1 = 1 from rfl]; exact nI_1 _) (by decide) rfl (fun ls hl => ?_)
                    refine lv_goto (tgt := 32) hx hb dX4_behind_90 (by decide) ?_
                    exact ih_loopB false (i + 1) R ls (by omega) (by omega) hF (lv_sub hl [2, 3, 4, 5, 1, 0] rfl)
                  · rw [if_neg (show ¬ t = false by rw [c43]; decide)] at hF
                    refine lv_iload_n hx hb dX4_behind_46 rfl (lv_at hl 1 rfl) ?_
                    refine lv_iload hx hb dX4_behind_47 (lv_at hl 5 rfl) ?_
                    refine lv_ishr hx hb dX4_behind_49 ?_
                    refine lv_iconst (v := 1) hx hb dX4_behind_50 (by decide) ?_
                    refine lv_iand hx hb dX4_behind_51 ?_
                    refine lv_if_eq (tgt := 80) hx hb dX4_behind_52 (by decide) (fun c52 => ?_) (fun c52 => ?_)
                    · rw [if_pos c52] at hF
                      refine lv_iconst (v := bI true) hx hb dX4_behind_80 (by decide) ?_
                      refine lv_goto (tgt := 85) hx hb dX4_behind_81 (by decide) ?_
                      refine lv_istore (lv' := [(4, .int (bI true)), (0, .ref o0), (1, .int mk), (2, .int (nI a)), (3, .int (nI k)), (5, .int (nI i))]) hx hb dX4_behind_85 hl (by decide) rfl (fun ls hl => ?_)
                      refine lv_iinc (v := nI (i + 1)) (lv' := [(5, .int (nI (i + 1))), (4, .int (bI true)), (0, .ref o0), (1, .int mk), (2, .int (nI a)), (3, .int (nI k))]) hx hb dX4_behind_87 hl (k := 5) rfl (by rw [show Int32.ofInt 1 = 1 from rfl]; exact nI_1 _) (by decide) rfl (fun ls hl => ?_)
                      refine lv_goto (tgt := 32) hx hb dX4_behind_90 (by decide) ?_
                      exact ih_loopB true (i + 1) R ls (by omega) (by omega) hF (lv_sub hl [2, 3, 4, 5, 1, 0] rfl)
                    · rw [if_neg c52] at hF
                      refine lv_aload_n hx hb dX4_behind_55 rfl (lv_at hl 0 rfl) ?_
                      refine lv_iload_n hx hb dX4_behind_56 rfl (lv_at hl 2 rfl) ?_
                      refine lv_iload_n hx hb dX4_behind_57 rfl (lv_at hl 3 rfl) ?_
                      refine lv_aload_n hx hb dX4_behind_58 rfl (lv_at hl 0 rfl) ?_
                      refine va_get (D := (dC, dI)) (ci := 4) (v := .ref xb) (C := RX4) (T := TX4) (N := 11) hx hb hts (by decide +kernel) hown hK hP 0 rfl rfl 2 (by decide) (hts (.fieldLink RX4 7 "CircleCellsModel" "x" "[I") (by decide +kernel)) (fun _ h9 => h9) rfl dX4_behind_59 ?_
                      refine lv_iload hx hb dX4_behind_62 (lv_at hl 5 rfl) ?_
                      refine q_iald hx hb hK hP 1 0 rfl rfl (i) rfl (by omega) (by decide) dX4_behind_64 ?_
                      refine lv_aload_n hx hb dX4_behind_65 rfl (lv_at hl 0 rfl) ?_
                      refine va_get (D := (dC, dI)) (ci := 4) (v := .ref yb) (C := RX4) (T := TX4) (N := 11) hx hb hts (by decide +kernel) hown hK hP 0 rfl rfl 3 (by decide) (hts (.fieldLink RX4 13 "CircleCellsModel" "y" "[I") (by decide +kernel)) (fun _ h9 => h9) rfl dX4_behind_66 ?_
                      refine lv_iload hx hb dX4_behind_69 (lv_at hl 5 rfl) ?_
                      refine q_iald hx hb hK hP 2 0 rfl rfl (i) rfl (by omega) (by decide) dX4_behind_71 ?_
                      refine q_cV (As := [.int (nI a), .int (nI k), .int (x i), .int (y i)]) (rest := []) ⟨hx, hb, hml, hown, hts⟩ (c_X4_turn l dC dI o0 xb yb za ua wa va cI th (nI n) md nc hz x y a k (x i) (y i) (by omega) (by omega)) (cwV 4 hts gX4_behind_X4_turn rfl rfl rfl (by decide +kernel) ⟨Nat.le_of_ble_eq_true rfl, Nat.le_of_ble_eq_true rfl⟩) (q_pV hK hP [0, 1, 2] [0] 4 0 rfl rfl rfl rfl rfl rfl) rfl hl.1 rfl (Nat.le_of_ble_eq_true rfl) ⟨Nat.zero_le _, Nat.zero_le _⟩ dX4_behind_72 ?_
                      refine lv_lconst (v := 0) hx hb dX4_behind_75 (by decide) ?_
                      refine q_lcmp_lt (tgt := 84) hx hb dX4_behind_76 dX4_behind_77 (by decide) (fun c77 => ?_) (fun c77 => ?_)
                      · rw [if_pos c77] at hF
                        refine lv_iconst (v := bI false) hx hb dX4_behind_84 (by decide) ?_
                        refine lv_istore (lv' := [(4, .int (bI false)), (0, .ref o0), (1, .int mk), (2, .int (nI a)), (3, .int (nI k)), (5, .int (nI i))]) hx hb dX4_behind_85 hl (by decide) rfl (fun ls hl => ?_)
                        refine lv_iinc (v := nI (i + 1)) (lv' := [(5, .int (nI (i + 1))), (4, .int (bI false)), (0, .ref o0), (1, .int mk), (2, .int (nI a)), (3, .int (nI k))]) hx hb dX4_behind_87 hl (k := 5) rfl (by rw [show Int32.ofInt 1 = 1 from rfl]; exact nI_1 _) (by decide) rfl (fun ls hl => ?_)
                        refine lv_goto (tgt := 32) hx hb dX4_behind_90 (by decide) ?_
                        exact ih_loopB false (i + 1) R ls (by omega) (by omega) hF (lv_sub hl [2, 3, 4, 5, 1, 0] rfl)
                      · rw [if_neg c77] at hF
                        refine lv_iconst (v := bI true) hx hb dX4_behind_80 (by decide) ?_
                        refine lv_goto (tgt := 85) hx hb dX4_behind_81 (by decide) ?_
                        refine lv_istore (lv' := [(4, .int (bI true)), (0, .ref o0), (1, .int mk), (2, .int (nI a)), (3, .int (nI k)), (5, .int (nI i))]) hx hb dX4_behind_85 hl (by decide) rfl (fun ls hl => ?_)
                        refine lv_iinc (v := nI (i + 1)) (lv' := [(5, .int (nI (i + 1))), (4, .int (bI true)), (0, .ref o0), (1, .int mk), (2, .int (nI a)), (3, .int (nI k))]) hx hb dX4_behind_87 hl (k := 5) rfl (by rw [show Int32.ofInt 1 = 1 from rfl]; exact nI_1 _) (by decide) rfl (fun ls hl => ?_)
                        refine lv_goto (tgt := 32) hx hb dX4_behind_90 (by decide) ?_
                        exact ih_loopB true (i + 1) R ls (by omega) (by omega) hF (lv_sub hl [2, 3, 4, 5, 1, 0] rfl)
            exact loopB (n + 1) true 0 _ ls (by omega) (by omega) hF (lv_sub hl [2, 3, 4, 5, 1, 0] rfl)
          · rw [if_pos c20] at hF
            refine lv_goto (tgt := 100) hx hb dX4_behind_23 (by decide) ?_
            refine lv_iinc (v := nI (k + 1)) (lv' := [(3, .int (nI (k + 1))), (0, .ref o0), (1, .int mk), (2, .int (nI a))]) hx hb dX4_behind_100 hl (k := 3) rfl (by rw [show Int32.ofInt 1 = 1 from rfl]; exact nI_1 _) (by decide) rfl (fun ls hl => ?_)
            refine lv_goto (tgt := 2) hx hb dX4_behind_103 (by decide) ?_
            exact ih_loopA (k + 1) R ls (by omega) (by omega) hF (lv_sub hl [1, 2, 3, 0] rfl)
  exact loopA (n + 1) 0 _ ls (by omega) (by omega) rfl (lv_sub hl [1, 2, 3, 0] rfl)
set_option maxHeartbeats 4000000 in
set_option maxRecDepth 100000 in
theorem c_X4_isBefore (l : Launch) (dC : Nat → ClassId) (dI : Nat → Nat → Nat) (o0 xb yb za ua wa va : Nat) (cI : ClassId) (th ns md nc hz : Int32) (sz rd : Nat → Nat) (a b : Nat) (la : a < 60) (lb : b < 60) (lz : ∀ j, sz j ≤ 20) (lr : ∀ j, rd j < 20) : Met l yX4_isBefore wsX4_isBefore ({ frames := 0, cells := 0, slots := 0, locals := 0 }) (q_Pc (dC, dI) [.ref o0, .int (nI a), .int (nI b)] [(o0, .inr (4, [.int th, .int ns, .ref xb, .ref yb, .int md, .int nc, .ref za, .ref ua, .ref wa, .int hz, .ref va])), (za, .inl (cI, 60, .inl (fun j9 => nI (sz j9)))), (ua, .inl (cI, 1200, .inl (fun j9 => nI (rd j9))))] [(cI, .int)]) (k2_QcV (.int (bI (r_bef sz rd a b 0)))) 0 0 (fun _ => False) := by
  refine Met.ofW (cc := cX4_isBefore) (maxL := 4) (ret := (some .boolean)) (by decide) rfl ?_
  intro p e s m args below meth c s₁ B hml hv
  obtain ⟨rfl, hP, hK⟩ := hv
  have hx := B.exec
  have hb := B.bytes
  have hr := B.returns
  have hts := atoms_spec (ws := wsX4_isBefore) B.pre
  have hown : s.vm.findClass RX4 = some m.cls := findClass_of_methodNamed B.named
  have hlocks := B.notSynchronized
  have hP : va_P (dC, dI) vwCl [(o0, .inr (4, [.int th, .int ns, .ref xb, .ref yb, .int md, .int nc, .ref za, .ref ua, .ref wa, .int hz, .ref va])), (za, .inl (cI, 60, .inl (fun j9 => nI (sz j9)))), (ua, .inl (cI, 1200, .inl (fun j9 => nI (rd j9))))] s.heap := hP
  have hl := lv_entry ([.ref o0, .int (nI a), .int (nI b)]) (n := 4) (Nat.le_of_ble_eq_true rfl)
  rw [lg_entry_eq]
  generalize (lg_sl ([.ref o0, .int (nI a), .int (nI b)]) ++ List.replicate (4 - (lg_sl ([.ref o0, .int (nI a), .int (nI b)])).length) Slot.unset).toArray = ls at hl ⊢
  have hl : lv_has ls 4 [(0, .ref o0), (1, .int (nI a)), (2, .int (nI b))] := hl
  refine lv_iconst (v := nI 0) hx hb dX4_isBefore_0 (by decide) ?_
  refine lv_istore_n (lv' := [(3, .int (nI 0)), (0, .ref o0), (1, .int (nI a)), (2, .int (nI b))]) hx hb dX4_isBefore_1 rfl hl (by decide) rfl (fun ls hl => ?_)
  have loop : ∀ (f : Nat) (i : Nat) (R : Bool) (ls : Array Slot), (i ≤ 20) → (20 + 1 ≤ i + f) → r_bef sz rd a b i = R → lv_has ls 4 [(0, .ref o0), (1, .int (nI a)), (2, .int (nI b)), (3, .int (nI i))] → W p l e (headSpec wsX4_isBefore ({ frames := 0, cells := 0, slots := 0, locals := 0 })).room s m ([.ref o0, .int (nI a), .int (nI b)] : List Value).toArray below meth c s.heap [] 0 0 (MQ below (k2_QcV (.int (bI R))) ([.ref o0, .int (nI a), .int (nI b)] : List Value).toArray s 0 0 (fun _ => False)) (F0 m 2 ls []) := by
    intro f
    induction f with
    | zero =>
      intro i R ls h1 h2
      omega
    | succ f ih_loop =>
      intro i R ls h1 h2 hF hl
      refine lv_iload_n hx hb dX4_isBefore_2 rfl (lv_at hl 3 rfl) ?_
      refine lv_aload_n hx hb dX4_isBefore_3 rfl (lv_at hl 0 rfl) ?_
      refine va_get (D := (dC, dI)) (ci := 4) (v := .ref za) (C := RX4) (T := TX4) (N := 11) hx hb hts (by decide +kernel) hown hK hP 0 rfl rfl 6 (by decide) (hts (.fieldLink RX4 16 "CircleCellsModel" "size" "[I") (by decide +kernel)) (fun _ h9 => h9) rfl dX4_isBefore_4 ?_
      refine lv_iload_n hx hb dX4_isBefore_7 rfl (lv_at hl 1 rfl) ?_
      refine q_iald hx hb hK hP 1 0 rfl rfl (a) rfl (by omega) (by decide) dX4_isBefore_8 ?_
      refine q_icmp_ge (tgt := 84) (by omega) (by have := lz a; omega) hx hb dX4_isBefore_9 (by decide) (fun c9 => ?_) (fun c9 => ?_)
      · rw [r_bef, if_neg (by omega)] at hF
        refine lv_aload_n hx hb dX4_isBefore_84 rfl (lv_at hl 0 rfl) ?_
        refine va_get (D := (dC, dI)) (ci := 4) (v := .ref za) (C := RX4) (T := TX4) (N := 11) hx hb hts (by decide +kernel) hown hK hP 0 rfl rfl 6 (by decide) (hts (.fieldLink RX4 16 "CircleCellsModel" "size" "[I") (by decide +kernel)) (fun _ h9 => h9) rfl dX4_isBefore_85 ?_
        refine lv_iload_n hx hb dX4_isBefore_88 rfl (lv_at hl 1 rfl) ?_
        refine q_iald hx hb hK hP 1 0 rfl rfl (a) rfl (by omega) (by decide) dX4_isBefore_89 ?_
        refine lv_aload_n hx hb dX4_isBefore_90 rfl (lv_at hl 0 rfl) ?_
        refine va_get (D := (dC, dI)) (ci := 4) (v := .ref za) (C := RX4) (T := TX4) (N := 11) hx hb hts (by decide +kernel) hown hK hP 0 rfl rfl 6 (by decide) (hts (.fieldLink RX4 16 "CircleCellsModel" "size" "[I") (by decide +kernel)) (fun _ h9 => h9) rfl dX4_isBefore_91 ?_
        refine lv_iload_n hx hb dX4_isBefore_94 rfl (lv_at hl 2 rfl) ?_
        refine q_iald hx hb hK hP 1 0 rfl rfl (b) rfl (by omega) (by decide) dX4_isBefore_95 ?_
        refine q_icmp_ge (tgt := 103) (by have := lz a; omega) (by have := lz b; omega) hx hb dX4_isBefore_96 (by decide) (fun c96 => ?_) (fun c96 => ?_)
        · rw [if_pos c96] at hF
          subst hF
          refine lv_iconst (v := bI false) hx hb dX4_isBefore_103 (by decide) ?_
          exact W.zret (v := bI false) hx hb hr (bI_nar _) q_ret (fun _ h => nomatch h) dX4_isBefore_104
        · rw [if_neg (by omega)] at hF
          subst hF
          refine lv_iconst (v := bI true) hx hb dX4_isBefore_99 (by decide) ?_
          refine lv_goto (tgt := 104) hx hb dX4_isBefore_100 (by decide) ?_
          exact W.zret (v := bI true) hx hb hr (bI_nar _) q_ret (fun _ h => nomatch h) dX4_isBefore_104
      · rw [r_bef, if_pos c9] at hF
        refine lv_iload_n hx hb dX4_isBefore_12 rfl (lv_at hl 3 rfl) ?_
        refine lv_aload_n hx hb dX4_isBefore_13 rfl (lv_at hl 0 rfl) ?_
        refine va_get (D := (dC, dI)) (ci := 4) (v := .ref za) (C := RX4) (T := TX4) (N := 11) hx hb hts (by decide +kernel) hown hK hP 0 rfl rfl 6 (by decide) (hts (.fieldLink RX4 16 "CircleCellsModel" "size" "[I") (by decide +kernel)) (fun _ h9 => h9) rfl dX4_isBefore_14 ?_
        refine lv_iload_n hx hb dX4_isBefore_17 rfl (lv_at hl 2 rfl) ?_
        refine q_iald hx hb hK hP 1 0 rfl rfl (b) rfl (by omega) (by decide) dX4_isBefore_18 ?_
        refine q_icmp_ge (tgt := 84) (by omega) (by have := lz b; omega) hx hb dX4_isBefore_19 (by decide) (fun c19 => ?_) (fun c19 => ?_)
        · rw [if_neg (by omega)] at hF
          refine lv_aload_n hx hb dX4_isBefore_84 rfl (lv_at hl 0 rfl) ?_
          refine va_get (D := (dC, dI)) (ci := 4) (v := .ref za) (C := RX4) (T := TX4) (N := 11) hx hb hts (by decide +kernel) hown hK hP 0 rfl rfl 6 (by decide) (hts (.fieldLink RX4 16 "CircleCellsModel" "size" "[I") (by decide +kernel)) (fun _ h9 => h9) rfl dX4_isBefore_85 ?_
          refine lv_iload_n hx hb dX4_isBefore_88 rfl (lv_at hl 1 rfl) ?_
          refine q_iald hx hb hK hP 1 0 rfl rfl (a) rfl (by omega) (by decide) dX4_isBefore_89 ?_
          refine lv_aload_n hx hb dX4_isBefore_90 rfl (lv_at hl 0 rfl) ?_
          refine va_get (D := (dC, dI)) (ci := 4) (v := .ref za) (C := RX4) (T := TX4) (N := 11) hx hb hts (by decide +kernel) hown hK hP 0 rfl rfl 6 (by decide) (hts (.fieldLink RX4 16 "CircleCellsModel" "size" "[I") (by decide +kernel)) (fun _ h9 => h9) rfl dX4_isBefore_91 ?_
          refine lv_iload_n hx hb dX4_isBefore_94 rfl (lv_at hl 2 rfl) ?_
          refine q_iald hx hb hK hP 1 0 rfl rfl (b) rfl (by omega) (by decide) dX4_isBefore_95 ?_
          refine q_icmp_ge (tgt := 103) (by have := lz a; omega) (by have := lz b; omega) hx hb dX4_isBefore_96 (by decide) (fun c96 => ?_) (fun c96 => ?_)
          · rw [if_pos c96] at hF
            subst hF
            refine lv_iconst (v := bI false) hx hb dX4_isBefore_103 (by decide) ?_
            exact W.zret (v := bI false) hx hb hr (bI_nar _) q_ret (fun _ h => nomatch h) dX4_isBefore_104
          · rw [if_neg (by omega)] at hF
            subst hF
            refine lv_iconst (v := bI true) hx hb dX4_isBefore_99 (by decide) ?_
            refine lv_goto (tgt := 104) hx hb dX4_isBefore_100 (by decide) ?_
            exact W.zret (v := bI true) hx hb hr (bI_nar _) q_ret (fun _ h => nomatch h) dX4_isBefore_104
        · rw [if_pos c19] at hF
          refine lv_aload_n hx hb dX4_isBefore_22 rfl (lv_at hl 0 rfl) ?_
          refine va_get (D := (dC, dI)) (ci := 4) (v := .ref ua) (C := RX4) (T := TX4) (N := 11) hx hb hts (by decide +kernel) hown hK hP 0 rfl rfl 7 (by decide) (hts (.fieldLink RX4 19 "CircleCellsModel" "round" "[I") (by decide +kernel)) (fun _ h9 => h9) rfl dX4_isBefore_23 ?_
          refine lv_bipush (v := nI 20) hx hb dX4_isBefore_26 (by decide) ?_
          refine lv_iload_n hx hb dX4_isBefore_28 rfl (lv_at hl 1 rfl) ?_
          refine q_imul hx hb dX4_isBefore_29 ?_
          refine lv_iload_n hx hb dX4_isBefore_30 rfl (lv_at hl 3 rfl) ?_
          refine q_iadd hx hb dX4_isBefore_31 ?_
          refine q_iald hx hb hK hP 2 0 rfl rfl ((20 * a) + i) rfl (by have := lz a; have := lz b; omega) (by decide) dX4_isBefore_32 ?_
          refine lv_aload_n hx hb dX4_isBefore_33 rfl (lv_at hl 0 rfl) ?_
          refine va_get (D := (dC, dI)) (ci := 4) (v := .ref ua) (C := RX4) (T := TX4) (N := 11) hx hb hts (by decide +kernel) hown hK hP 0 rfl rfl 7 (by decide) (hts (.fieldLink RX4 19 "CircleCellsModel" "round" "[I") (by decide +kernel)) (fun _ h9 => h9) rfl dX4_isBefore_34 ?_
          refine lv_bipush (v := nI 20) hx hb dX4_isBefore_37 (by decide) ?_
          refine lv_iload_n hx hb dX4_isBefore_39 rfl (lv_at hl 2 rfl) ?_
          refine q_imul hx hb dX4_isBefore_40 ?_
          refine lv_iload_n hx hb dX4_isBefore_41 rfl (lv_at hl 3 rfl) ?_
          refine q_iadd hx hb dX4_isBefore_42 ?_
          refine q_iald hx hb hK hP 2 0 rfl rfl ((20 * b) + i) rfl (by have := lz a; have := lz b; omega) (by decide) dX4_isBefore_43 ?_
          refine q_icmp_eq (tgt := 78) (by have := lr (20 * a + i); omega) (by have := lr (20 * b + i); omega) hx hb dX4_isBefore_44 (by decide) (fun c44 => ?_) (fun c44 => ?_)
          · rw [if_pos c44] at hF
            refine lv_iinc (v := nI (i + 1)) (lv' := [(3, .int (nI (i + 1))), (0, .ref o0), (1, .int (nI a)), (2, .int (nI b))]) hx hb dX4_isBefore_78 hl (k := 3) rfl (by rw [show Int32.ofInt 1 = 1 from rfl]; exact nI_1 _) (by decide) rfl (fun ls hl => ?_)
            refine lv_goto (tgt := 2) hx hb dX4_isBefore_81 (by decide) ?_
            exact ih_loop (i + 1) R ls (by have := lz a; omega) (by omega) hF (lv_sub hl [1, 2, 3, 0] rfl)
          · rw [if_neg c44] at hF
            refine lv_aload_n hx hb dX4_isBefore_47 rfl (lv_at hl 0 rfl) ?_
            refine va_get (D := (dC, dI)) (ci := 4) (v := .ref ua) (C := RX4) (T := TX4) (N := 11) hx hb hts (by decide +kernel) hown hK hP 0 rfl rfl 7 (by decide) (hts (.fieldLink RX4 19 "CircleCellsModel" "round" "[I") (by decide +kernel)) (fun _ h9 => h9) rfl dX4_isBefore_48 ?_
            refine lv_bipush (v := nI 20) hx hb dX4_isBefore_51 (by decide) ?_
            refine lv_iload_n hx hb dX4_isBefore_53 rfl (lv_at hl 1 rfl) ?_
            refine q_imul hx hb dX4_isBefore_54 ?_
            refine lv_iload_n hx hb dX4_isBefore_55 rfl (lv_at hl 3 rfl) ?_
            refine q_iadd hx hb dX4_isBefore_56 ?_
            refine q_iald hx hb hK hP 2 0 rfl rfl ((20 * a) + i) rfl (by have := lz a; have := lz b; omega) (by decide) dX4_isBefore_57 ?_
            refine lv_aload_n hx hb dX4_isBefore_58 rfl (lv_at hl 0 rfl) ?_
            refine va_get (D := (dC, dI)) (ci := 4) (v := .ref ua) (C := RX4) (T := TX4) (N := 11) hx hb hts (by decide +kernel) hown hK hP 0 rfl rfl 7 (by decide) (hts (.fieldLink RX4 19 "CircleCellsModel" "round" "[I") (by decide +kernel)) (fun _ h9 => h9) rfl dX4_isBefore_59 ?_
            refine lv_bipush (v := nI 20) hx hb dX4_isBefore_62 (by decide) ?_
            refine lv_iload_n hx hb dX4_isBefore_64 rfl (lv_at hl 2 rfl) ?_
            refine q_imul hx hb dX4_isBefore_65 ?_
            refine lv_iload_n hx hb dX4_isBefore_66 rfl (lv_at hl 3 rfl) ?_
            refine q_iadd hx hb dX4_isBefore_67 ?_
            refine q_iald hx hb hK hP 2 0 rfl rfl ((20 * b) + i) rfl (by have := lz a; have := lz b; omega) (by decide) dX4_isBefore_68 ?_
            refine q_icmp_ge (tgt := 76) (by have := lr (20 * a + i); omega) (by have := lr (20 * b + i); omega) hx hb dX4_isBefore_69 (by decide) (fun c69 => ?_) (fun c69 => ?_)
            · rw [if_pos c69] at hF
              subst hF
              refine lv_iconst (v := bI false) hx hb dX4_isBefore_76 (by decide) ?_
              exact W.zret (v := bI false) hx hb hr (bI_nar _) q_ret (fun _ h => nomatch h) dX4_isBefore_77
            · rw [if_neg (by omega)] at hF
              subst hF
              refine lv_iconst (v := bI true) hx hb dX4_isBefore_72 (by decide) ?_
              refine lv_goto (tgt := 77) hx hb dX4_isBefore_73 (by decide) ?_
              exact W.zret (v := bI true) hx hb hr (bI_nar _) q_ret (fun _ h => nomatch h) dX4_isBefore_77
  exact loop (20 + 1) 0 _ ls (by omega) (by omega) rfl (lv_sub hl [1, 2, 3, 0] rfl)
set_option maxHeartbeats 4000000 in
set_option maxRecDepth 100000 in
theorem c_X4_after (l : Launch) (dC : Nat → ClassId) (dI : Nat → Nat → Nat) (o0 xb yb za ua wa va : Nat) (cI : ClassId) (th ns md nc hz : Int32) (sz rd : Nat → Nat) (d i : Nat) (ld : d < 60) (li : i < sz d) (lz : sz d ≤ 20) : Met l yX4_after wsX4_after ({ frames := 0, cells := 0, slots := 0, locals := 0 }) (q_Pc (dC, dI) [.ref o0, .int (nI d), .int (nI i)] [(o0, .inr (4, [.int th, .int ns, .ref xb, .ref yb, .int md, .int nc, .ref za, .ref ua, .ref wa, .int hz, .ref va])), (za, .inl (cI, 60, .inl (fun j9 => nI (sz j9)))), (ua, .inl (cI, 1200, .inl (fun j9 => nI (rd j9))))] [(cI, .int)]) (k2_QcV (.int (nI (r_after sz rd d i)))) 0 0 (fun _ => False) := by
  refine Met.ofW (cc := cX4_after) (maxL := 3) (ret := (some .int)) (by decide) rfl ?_
  intro p e s m args below meth c s₁ B hml hv
  obtain ⟨rfl, hP, hK⟩ := hv
  have hx := B.exec
  have hb := B.bytes
  have hr := B.returns
  have hts := atoms_spec (ws := wsX4_after) B.pre
  have hown : s.vm.findClass RX4 = some m.cls := findClass_of_methodNamed B.named
  have hlocks := B.notSynchronized
  have hP : va_P (dC, dI) vwCl [(o0, .inr (4, [.int th, .int ns, .ref xb, .ref yb, .int md, .int nc, .ref za, .ref ua, .ref wa, .int hz, .ref va])), (za, .inl (cI, 60, .inl (fun j9 => nI (sz j9)))), (ua, .inl (cI, 1200, .inl (fun j9 => nI (rd j9))))] s.heap := hP
  have hl := lv_entry ([.ref o0, .int (nI d), .int (nI i)]) (n := 3) (Nat.le_of_ble_eq_true rfl)
  rw [lg_entry_eq]
  generalize (lg_sl ([.ref o0, .int (nI d), .int (nI i)]) ++ List.replicate (3 - (lg_sl ([.ref o0, .int (nI d), .int (nI i)])).length) Slot.unset).toArray = ls at hl ⊢
  have hl : lv_has ls 3 [(0, .ref o0), (1, .int (nI d)), (2, .int (nI i))] := hl
  refine lv_aload_n hx hb dX4_after_0 rfl (lv_at hl 0 rfl) ?_
  refine va_get (D := (dC, dI)) (ci := 4) (v := .ref ua) (C := RX4) (T := TX4) (N := 11) hx hb hts (by decide +kernel) hown hK hP 0 rfl rfl 7 (by decide) (hts (.fieldLink RX4 19 "CircleCellsModel" "round" "[I") (by decide +kernel)) (fun _ h9 => h9) rfl dX4_after_1 ?_
  refine lv_bipush (v := nI 20) hx hb dX4_after_4 (by decide) ?_
  refine lv_iload_n hx hb dX4_after_6 rfl (lv_at hl 1 rfl) ?_
  refine q_imul hx hb dX4_after_7 ?_
  refine lv_iload_n hx hb dX4_after_8 rfl (lv_at hl 2 rfl) ?_
  refine lv_iconst (v := nI 1) hx hb dX4_after_9 (by decide) ?_
  refine q_iadd hx hb dX4_after_10 ?_
  refine lv_aload_n hx hb dX4_after_11 rfl (lv_at hl 0 rfl) ?_
  refine va_get (D := (dC, dI)) (ci := 4) (v := .ref za) (C := RX4) (T := TX4) (N := 11) hx hb hts (by decide +kernel) hown hK hP 0 rfl rfl 6 (by decide) (hts (.fieldLink RX4 16 "CircleCellsModel" "size" "[I") (by decide +kernel)) (fun _ h9 => h9) rfl dX4_after_12 ?_
  refine lv_iload_n hx hb dX4_after_15 rfl (lv_at hl 1 rfl) ?_
  refine q_iald hx hb hK hP 1 0 rfl rfl (d) rfl (by omega) (by decide) dX4_after_16 ?_
  refine q_irem (by omega) (by omega) (by omega) hx hb dX4_after_17 ?_
  refine q_iadd hx hb dX4_after_18 ?_
  refine q_iald hx hb hK hP 2 0 rfl rfl ((20 * d) + ((i + 1) % (sz d))) rfl (by have := Nat.mod_lt (i + 1) (show 0 < sz d by omega); omega) (by decide) dX4_after_19 ?_
  exact W.iret (v := nI (rd ((20 * d) + ((i + 1) % (sz d))))) hx hb hr q_ret (fun _ h => nomatch h) dX4_after_20
set_option maxHeartbeats 4000000 in
set_option maxRecDepth 100000 in
theorem c_X4_withSide (l : Launch) (dC : Nat → ClassId) (dI : Nat → Nat → Nat) (o0 xb yb za ua wa va : Nat) (cI : ClassId) (th ns md hz : Int32) (od sz rd : Nat → Nat) (n a b : Nat) (ln : n ≤ 60) (la : a < 20) (lb : b < 20) (lo : ∀ j, j < n → od j < 60) (lz : ∀ j, sz j ≤ 20) (lr : ∀ j, rd j < 20) : Met l yX4_withSide wsX4_withSide ({ frames := 1, cells := 0, slots := 0, locals := 22 }) (q_Pc (dC, dI) [.ref o0, .int (nI a), .int (nI b)] [(o0, .inr (4, [.int th, .int ns, .ref xb, .ref yb, .int md, .int (nI n), .ref za, .ref ua, .ref wa, .int hz, .ref va])), (za, .inl (cI, 60, .inl (fun j9 => nI (sz j9)))), (ua, .inl (cI, 1200, .inl (fun j9 => nI (rd j9)))), (wa, .inl (cI, 60, .inl (fun j9 => nI (od j9))))] [(cI, .int)]) (k2_QcV (.int (r_ws od sz rd n a b 0))) 0 0 (fun _ => False) := by
  refine Met.ofW (cc := cX4_withSide) (maxL := 6) (ret := (some .int)) (by decide) rfl ?_
  intro p e s m args below meth c s₁ B hml hv
  obtain ⟨rfl, hP, hK⟩ := hv
  have hx := B.exec
  have hb := B.bytes
  have hr := B.returns
  have hts := atoms_spec (ws := wsX4_withSide) B.pre
  have hown : s.vm.findClass RX4 = some m.cls := findClass_of_methodNamed B.named
  have hlocks := B.notSynchronized
  have hP : va_P (dC, dI) vwCl [(o0, .inr (4, [.int th, .int ns, .ref xb, .ref yb, .int md, .int (nI n), .ref za, .ref ua, .ref wa, .int hz, .ref va])), (za, .inl (cI, 60, .inl (fun j9 => nI (sz j9)))), (ua, .inl (cI, 1200, .inl (fun j9 => nI (rd j9)))), (wa, .inl (cI, 60, .inl (fun j9 => nI (od j9))))] s.heap := hP
  have hl := lv_entry ([.ref o0, .int (nI a), .int (nI b)]) (n := 6) (Nat.le_of_ble_eq_true rfl)
  rw [lg_entry_eq]
  generalize (lg_sl ([.ref o0, .int (nI a), .int (nI b)]) ++ List.replicate (6 - (lg_sl ([.ref o0, .int (nI a), .int (nI b)])).length) Slot.unset).toArray = ls at hl ⊢
  have hl : lv_has ls 6 [(0, .ref o0), (1, .int (nI a)), (2, .int (nI b))] := hl
  refine lv_iconst (v := nI 0) hx hb dX4_withSide_0 (by decide) ?_
  refine lv_istore_n (lv' := [(3, .int (nI 0)), (0, .ref o0), (1, .int (nI a)), (2, .int (nI b))]) hx hb dX4_withSide_1 rfl hl (by decide) rfl (fun ls hl => ?_)
  have loopA : ∀ (f : Nat) (k : Nat) (R : Int32) (ls : Array Slot), (k ≤ n) → (n + 1 ≤ k + f) → r_ws od sz rd n a b k = R → lv_has ls 6 [(0, .ref o0), (1, .int (nI a)), (2, .int (nI b)), (3, .int (nI k))] → W p l e (headSpec wsX4_withSide ({ frames := 1, cells := 0, slots := 0, locals := 22 })).room s m ([.ref o0, .int (nI a), .int (nI b)] : List Value).toArray below meth c s.heap [] 0 0 (MQ below (k2_QcV (.int R)) ([.ref o0, .int (nI a), .int (nI b)] : List Value).toArray s 0 0 (fun _ => False)) (F0 m 2 ls []) := by
    intro f
    induction f with
    | zero =>
      intro k R ls h1 h2
      omega
    | succ f ih_loopA =>
      intro k R ls h1 h2 hF hl
      refine lv_iload_n hx hb dX4_withSide_2 rfl (lv_at hl 3 rfl) ?_
      refine lv_aload_n hx hb dX4_withSide_3 rfl (lv_at hl 0 rfl) ?_
      refine va_get (D := (dC, dI)) (ci := 4) (v := .int (nI n)) (C := RX4) (T := TX4) (N := 11) hx hb hts (by decide +kernel) hown hK hP 0 rfl rfl 5 (by decide) (hts (.fieldLink RX4 65 "CircleCellsModel" "cells" "I") (by decide +kernel)) (fun _ h9 => h9) rfl dX4_withSide_4 ?_
      refine q_icmp_ge (tgt := 76) (by omega) (by omega) hx hb dX4_withSide_7 (by decide) (fun c7 => ?_) (fun c7 => ?_)
      · rw [r_ws, if_neg (by omega)] at hF
        subst hF
        refine lv_iconst (v := (-1)) hx hb dX4_withSide_76 (by decide) ?_
        exact W.iret (v := (-1)) hx hb hr q_ret (fun _ h => nomatch h) dX4_withSide_77
      · rw [r_ws, if_pos c7] at hF
        have lok := lo k c7
        refine lv_aload_n hx hb dX4_withSide_10 rfl (lv_at hl 0 rfl) ?_
        refine va_get (D := (dC, dI)) (ci := 4) (v := .ref wa) (C := RX4) (T := TX4) (N := 11) hx hb hts (by decide +kernel) hown hK hP 0 rfl rfl 8 (by decide) (hts (.fieldLink RX4 22 "CircleCellsModel" "order" "[I") (by decide +kernel)) (fun _ h9 => h9) rfl dX4_withSide_11 ?_
        refine lv_iload_n hx hb dX4_withSide_14 rfl (lv_at hl 3 rfl) ?_
        refine q_iald hx hb hK hP 3 0 rfl rfl (k) rfl (by omega) (by decide) dX4_withSide_15 ?_
        refine lv_istore (lv' := [(4, .int (nI (od k))), (0, .ref o0), (1, .int (nI a)), (2, .int (nI b)), (3, .int (nI k))]) hx hb dX4_withSide_16 hl (by decide) rfl (fun ls hl => ?_)
        refine lv_iconst (v := nI 0) hx hb dX4_withSide_18 (by decide) ?_
        refine lv_istore (lv' := [(5, .int (nI 0)), (4, .int (nI (od k))), (0, .ref o0), (1, .int (nI a)), (2, .int (nI b)), (3, .int (nI k))]) hx hb dX4_withSide_19 hl (by decide) rfl (fun ls hl => ?_)
        have loopB : ∀ (f : Nat) (i : Nat) (R : Int32) (ls : Array Slot), (i ≤ sz (od k)) → (sz (od k) + 1 ≤ i + f) → (if r_wi sz rd (od k) a b i = true then nI k else r_ws od sz rd n a b (k + 1)) = R → lv_has ls 6 [(0, .ref o0), (1, .int (nI a)), (2, .int (nI b)), (3, .int (nI k)), (4, .int (nI (od k))), (5, .int (nI i))] → W p l e (headSpec wsX4_withSide ({ frames := 1, cells := 0, slots := 0, locals := 22 })).room s m ([.ref o0, .int (nI a), .int (nI b)] : List Value).toArray below meth c s.heap [] 0 0 (MQ below (k2_QcV (.int R)) ([.ref o0, .int (nI a), .int (nI b)] : List Value).toArray s 0 0 (fun _ => False)) (F0 m 21 ls []) := by
          intro f
          induction f with
          | zero =>
            intro i R ls h3 h4
            omega
          | succ f ih_loopB =>
            intro i R ls h3 h4 hF hl
            refine lv_iload hx hb dX4_withSide_21 (lv_at hl 5 rfl) ?_
            refine lv_aload_n hx hb dX4_withSide_23 rfl (lv_at hl 0 rfl) ?_
            refine va_get (D := (dC, dI)) (ci := 4) (v := .ref za) (C := RX4) (T := TX4) (N := 11) hx hb hts (by decide +kernel) hown hK hP 0 rfl rfl 6 (by decide) (hts (.fieldLink RX4 16 "CircleCellsModel" "size" "[I") (by decide +kernel)) (fun _ h9 => h9) rfl dX4_withSide_24 ?_
            refine lv_iload hx hb dX4_withSide_27 (lv_at hl 4 rfl) ?_
            refine q_iald hx hb hK hP 1 0 rfl rfl (od k) rfl (by omega) (by decide) dX4_withSide_29 ?_
            refine q_icmp_ge (tgt := 70) (by have := lz (od k); omega) (by have := lz (od k); omega) hx hb dX4_withSide_30 (by decide) (fun c30 => ?_) (fun c30 => ?_)
            · rw [r_wi, if_neg (show ¬ i < sz (od k) by omega), if_neg (by decide)] at hF
              refine lv_iinc (v := nI (k + 1)) (lv' := [(3, .int (nI (k + 1))), (0, .ref o0), (1, .int (nI a)), (2, .int (nI b)), (4, .int (nI (od k))), (5, .int (nI i))]) hx hb dX4_withSide_70 hl (k := 3) rfl (by rw [show Int32.ofInt 1 = 1 from rfl]; exact nI_1 _) (by decide) rfl (fun ls hl => ?_)
              refine lv_goto (tgt := 2) hx hb dX4_withSide_73 (by decide) ?_
              exact ih_loopA (k + 1) R ls (by omega) (by omega) hF (lv_sub hl [1, 2, 3, 0] rfl)
            · rw [r_wi, if_pos c30] at hF
              refine lv_aload_n hx hb dX4_withSide_33 rfl (lv_at hl 0 rfl) ?_
              refine va_get (D := (dC, dI)) (ci := 4) (v := .ref ua) (C := RX4) (T := TX4) (N := 11) hx hb hts (by decide +kernel) hown hK hP 0 rfl rfl 7 (by decide) (hts (.fieldLink RX4 19 "CircleCellsModel" "round" "[I") (by decide +kernel)) (fun _ h9 => h9) rfl dX4_withSide_34 ?_
              refine lv_bipush (v := nI 20) hx hb dX4_withSide_37 (by decide) ?_
              refine lv_iload hx hb dX4_withSide_39 (lv_at hl 4 rfl) ?_
              refine q_imul hx hb dX4_withSide_41 ?_
              refine lv_iload hx hb dX4_withSide_42 (lv_at hl 5 rfl) ?_
              refine q_iadd hx hb dX4_withSide_44 ?_
              refine q_iald hx hb hK hP 2 0 rfl rfl ((20 * (od k)) + i) rfl (by have := lz (od k); omega) (by decide) dX4_withSide_45 ?_
              refine lv_iload_n hx hb dX4_withSide_46 rfl (lv_at hl 1 rfl) ?_
              refine q_icmp_ne (tgt := 64) (by have := lr (20 * od k + i); omega) (by omega) hx hb dX4_withSide_47 (by decide) (fun c47 => ?_) (fun c47 => ?_)
              · rw [if_neg c47] at hF
                refine lv_iinc (v := nI (i + 1)) (lv' := [(5, .int (nI (i + 1))), (0, .ref o0), (1, .int (nI a)), (2, .int (nI b)), (3, .int (nI k)), (4, .int (nI (od k)))]) hx hb dX4_withSide_64 hl (k := 5) rfl (by rw [show Int32.ofInt 1 = 1 from rfl]; exact nI_1 _) (by decide) rfl (fun ls hl => ?_)
                refine lv_goto (tgt := 21) hx hb dX4_withSide_67 (by decide) ?_
                exact ih_loopB (i + 1) R ls (by omega) (by omega) hF (lv_sub hl [1, 2, 3, 4, 5, 0] rfl)
              · rw [if_pos c47] at hF
                refine lv_aload_n hx hb dX4_withSide_50 rfl (lv_at hl 0 rfl) ?_
                refine lv_iload hx hb dX4_withSide_51 (lv_at hl 4 rfl) ?_
                refine lv_iload hx hb dX4_withSide_53 (lv_at hl 5 rfl) ?_
                refine q_cV (As := [.int (nI (od k)), .int (nI i)]) (rest := []) ⟨hx, hb, hml, hown, hts⟩ (c_X4_after l dC dI o0 xb yb za ua wa va cI th ns md (nI n) hz sz rd (od k) i (by omega) (by omega) (lz _)) (cwV 2 hts gX4_withSide_X4_after rfl rfl rfl (by decide +kernel) ⟨Nat.le_of_ble_eq_true rfl, Nat.le_of_ble_eq_true rfl⟩) (q_pV hK hP [0, 1, 2] [0] 4 0 rfl rfl rfl rfl rfl rfl) rfl hl.1 rfl (Nat.le_of_ble_eq_true rfl) ⟨Nat.zero_le _, Nat.zero_le _⟩ dX4_withSide_55 ?_
                refine lv_iload_n hx hb dX4_withSide_58 rfl (lv_at hl 2 rfl) ?_
                refine q_icmp_ne (tgt := 64) (by have h9 : r_after sz rd (od k) i < 20 := lr _; omega) (by omega) hx hb dX4_withSide_59 (by decide) (fun c59 => ?_) (fun c59 => ?_)
                · rw [if_neg c59] at hF
                  refine lv_iinc (v := nI (i + 1)) (lv' := [(5, .int (nI (i + 1))), (0, .ref o0), (1, .int (nI a)), (2, .int (nI b)), (3, .int (nI k)), (4, .int (nI (od k)))]) hx hb dX4_withSide_64 hl (k := 5) rfl (by rw [show Int32.ofInt 1 = 1 from rfl]; exact nI_1 _) (by decide) rfl (fun ls hl => ?_)
                  refine lv_goto (tgt := 21) hx hb dX4_withSide_67 (by decide) ?_
                  exact ih_loopB (i + 1) R ls (by omega) (by omega) hF (lv_sub hl [1, 2, 3, 4, 5, 0] rfl)
                · rw [if_pos c59, if_pos rfl] at hF
                  subst hF
                  refine lv_iload_n hx hb dX4_withSide_62 rfl (lv_at hl 3 rfl) ?_
                  exact W.iret (v := nI k) hx hb hr q_ret (fun _ h => nomatch h) dX4_withSide_63
        exact loopB (sz (od k) + 1) 0 _ ls (by omega) (by omega) hF (lv_sub hl [2, 3, 4, 5, 1, 0] rfl)
  exact loopA (n + 1) 0 _ ls (by omega) (by omega) rfl (lv_sub hl [1, 2, 3, 0] rfl)
set_option maxHeartbeats 4000000 in
set_option maxRecDepth 100000 in
theorem c_X4_onHull (l : Launch) (dC : Nat → ClassId) (dI : Nat → Nat → Nat) (o0 xb yb za ua wa va : Nat) (cI : ClassId) (th ns md hz : Int32) (od sz rd : Nat → Nat) (n v : Nat) (ln : n ≤ 60) (lv : v < 20) (lo : ∀ j, j < n → od j < 60) (lz : ∀ j, sz j ≤ 20) (lr : ∀ j, rd j < 20) : Met l yX4_onHull wsX4_onHull ({ frames := 2, cells := 0, slots := 0, locals := 47 }) (q_Pc (dC, dI) [.ref o0, .int (nI v)] [(o0, .inr (4, [.int th, .int ns, .ref xb, .ref yb, .int md, .int (nI n), .ref za, .ref ua, .ref wa, .int hz, .ref va])), (za, .inl (cI, 60, .inl (fun j9 => nI (sz j9)))), (ua, .inl (cI, 1200, .inl (fun j9 => nI (rd j9)))), (wa, .inl (cI, 60, .inl (fun j9 => nI (od j9))))] [(cI, .int)]) (k2_QcV (.int (r_oh od sz rd n v 0))) 0 0 (fun _ => False) := by
  refine Met.ofW (cc := cX4_onHull) (maxL := 4) (ret := (some .int)) (by decide) rfl ?_
  intro p e s m args below meth c s₁ B hml hv
  obtain ⟨rfl, hP, hK⟩ := hv
  have hx := B.exec
  have hb := B.bytes
  have hr := B.returns
  have hts := atoms_spec (ws := wsX4_onHull) B.pre
  have hown : s.vm.findClass RX4 = some m.cls := findClass_of_methodNamed B.named
  have hlocks := B.notSynchronized
  have hP : va_P (dC, dI) vwCl [(o0, .inr (4, [.int th, .int ns, .ref xb, .ref yb, .int md, .int (nI n), .ref za, .ref ua, .ref wa, .int hz, .ref va])), (za, .inl (cI, 60, .inl (fun j9 => nI (sz j9)))), (ua, .inl (cI, 1200, .inl (fun j9 => nI (rd j9)))), (wa, .inl (cI, 60, .inl (fun j9 => nI (od j9))))] s.heap := hP
  have hl := lv_entry ([.ref o0, .int (nI v)]) (n := 4) (Nat.le_of_ble_eq_true rfl)
  rw [lg_entry_eq]
  generalize (lg_sl ([.ref o0, .int (nI v)]) ++ List.replicate (4 - (lg_sl ([.ref o0, .int (nI v)])).length) Slot.unset).toArray = ls at hl ⊢
  have hl : lv_has ls 4 [(0, .ref o0), (1, .int (nI v))] := hl
  refine lv_iconst (v := nI 0) hx hb dX4_onHull_0 (by decide) ?_
  refine lv_istore_n (lv' := [(2, .int (nI 0)), (0, .ref o0), (1, .int (nI v))]) hx hb dX4_onHull_1 rfl hl (by decide) rfl (fun ls hl => ?_)
  have loopA : ∀ (f : Nat) (d : Nat) (R : Int32) (ls : Array Slot), (d ≤ n) → (n + 1 ≤ d + f) → r_oh od sz rd n v d = R → lv_has ls 4 [(0, .ref o0), (1, .int (nI v)), (2, .int (nI d))] → W p l e (headSpec wsX4_onHull ({ frames := 2, cells := 0, slots := 0, locals := 47 })).room s m ([.ref o0, .int (nI v)] : List Value).toArray below meth c s.heap [] 0 0 (MQ below (k2_QcV (.int R)) ([.ref o0, .int (nI v)] : List Value).toArray s 0 0 (fun _ => False)) (F0 m 2 ls []) := by
    intro f
    induction f with
    | zero =>
      intro d R ls h1 h2
      omega
    | succ f ih_loopA =>
      intro d R ls h1 h2 hF hl
      refine lv_iload_n hx hb dX4_onHull_2 rfl (lv_at hl 2 rfl) ?_
      refine lv_aload_n hx hb dX4_onHull_3 rfl (lv_at hl 0 rfl) ?_
      refine va_get (D := (dC, dI)) (ci := 4) (v := .int (nI n)) (C := RX4) (T := TX4) (N := 11) hx hb hts (by decide +kernel) hown hK hP 0 rfl rfl 5 (by decide) (hts (.fieldLink RX4 65 "CircleCellsModel" "cells" "I") (by decide +kernel)) (fun _ h9 => h9) rfl dX4_onHull_4 ?_
      refine q_icmp_ge (tgt := 70) (by omega) (by omega) hx hb dX4_onHull_7 (by decide) (fun c7 => ?_) (fun c7 => ?_)
      · rw [r_oh, if_neg (by omega)] at hF
        subst hF
        refine lv_iconst (v := (-1)) hx hb dX4_onHull_70 (by decide) ?_
        exact W.iret (v := (-1)) hx hb hr q_ret (fun _ h => nomatch h) dX4_onHull_71
      · rw [r_oh, if_pos c7] at hF
        refine lv_iconst (v := nI 0) hx hb dX4_onHull_10 (by decide) ?_
        refine lv_istore_n (lv' := [(3, .int (nI 0)), (0, .ref o0), (1, .int (nI v)), (2, .int (nI d))]) hx hb dX4_onHull_11 rfl hl (by decide) rfl (fun ls hl => ?_)
        have loopB : ∀ (f : Nat) (i : Nat) (R : Int32) (ls : Array Slot), (i ≤ sz d) → (sz d + 1 ≤ i + f) → (if r_oi od sz rd n v d i = -1 then r_oh od sz rd n v (d + 1) else r_oi od sz rd n v d i) = R → lv_has ls 4 [(0, .ref o0), (1, .int (nI v)), (2, .int (nI d)), (3, .int (nI i))] → W p l e (headSpec wsX4_onHull ({ frames := 2, cells := 0, slots := 0, locals := 47 })).room s m ([.ref o0, .int (nI v)] : List Value).toArray below meth c s.heap [] 0 0 (MQ below (k2_QcV (.int R)) ([.ref o0, .int (nI v)] : List Value).toArray s 0 0 (fun _ => False)) (F0 m 12 ls []) := by
          intro f
          induction f with
          | zero =>
            intro i R ls h3 h4
            omega
          | succ f ih_loopB =>
            intro i R ls h3 h4 hF hl
            refine lv_iload_n hx hb dX4_onHull_12 rfl (lv_at hl 3 rfl) ?_
            refine lv_aload_n hx hb dX4_onHull_13 rfl (lv_at hl 0 rfl) ?_
            refine va_get (D := (dC, dI)) (ci := 4) (v := .ref za) (C := RX4) (T := TX4) (N := 11) hx hb hts (by decide +kernel) hown hK hP 0 rfl rfl 6 (by decide) (hts (.fieldLink RX4 16 "CircleCellsModel" "size" "[I") (by decide +kernel)) (fun _ h9 => h9) rfl dX4_onHull_14 ?_
            refine lv_iload_n hx hb dX4_onHull_17 rfl (lv_at hl 2 rfl) ?_
            refine q_iald hx hb hK hP 1 0 rfl rfl (d) rfl (by omega) (by decide) dX4_onHull_18 ?_
            refine q_icmp_ge (tgt := 64) (by have := lz d; omega) (by have := lz d; omega) hx hb dX4_onHull_19 (by decide) (fun c19 => ?_) (fun c19 => ?_)
            · rw [r_oi, if_neg (show ¬ i < sz d by omega), if_pos rfl] at hF
              refine lv_iinc (v := nI (d + 1)) (lv' := [(2, .int (nI (d + 1))), (0, .ref o0), (1, .int (nI v)), (3, .int (nI i))]) hx hb dX4_onHull_64 hl (k := 2) rfl (by rw [show Int32.ofInt 1 = 1 from rfl]; exact nI_1 _) (by decide) rfl (fun ls hl => ?_)
              refine lv_goto (tgt := 2) hx hb dX4_onHull_67 (by decide) ?_
              exact ih_loopA (d + 1) R ls (by omega) (by omega) hF (lv_sub hl [1, 2, 0] rfl)
            · rw [r_oi, if_pos c19] at hF
              refine lv_aload_n hx hb dX4_onHull_22 rfl (lv_at hl 0 rfl) ?_
              refine va_get (D := (dC, dI)) (ci := 4) (v := .ref ua) (C := RX4) (T := TX4) (N := 11) hx hb hts (by decide +kernel) hown hK hP 0 rfl rfl 7 (by decide) (hts (.fieldLink RX4 19 "CircleCellsModel" "round" "[I") (by decide +kernel)) (fun _ h9 => h9) rfl dX4_onHull_23 ?_
              refine lv_bipush (v := nI 20) hx hb dX4_onHull_26 (by decide) ?_
              refine lv_iload_n hx hb dX4_onHull_28 rfl (lv_at hl 2 rfl) ?_
              refine q_imul hx hb dX4_onHull_29 ?_
              refine lv_iload_n hx hb dX4_onHull_30 rfl (lv_at hl 3 rfl) ?_
              refine q_iadd hx hb dX4_onHull_31 ?_
              refine q_iald hx hb hK hP 2 0 rfl rfl ((20 * d) + i) rfl (by have := lz d; omega) (by decide) dX4_onHull_32 ?_
              refine lv_iload_n hx hb dX4_onHull_33 rfl (lv_at hl 1 rfl) ?_
              refine q_icmp_ne (tgt := 58) (by have := lr (20 * d + i); omega) (by omega) hx hb dX4_onHull_34 (by decide) (fun c34 => ?_) (fun c34 => ?_)
              · rw [if_neg c34] at hF
                refine lv_iinc (v := nI (i + 1)) (lv' := [(3, .int (nI (i + 1))), (0, .ref o0), (1, .int (nI v)), (2, .int (nI d))]) hx hb dX4_onHull_58 hl (k := 3) rfl (by rw [show Int32.ofInt 1 = 1 from rfl]; exact nI_1 _) (by decide) rfl (fun ls hl => ?_)
                refine lv_goto (tgt := 12) hx hb dX4_onHull_61 (by decide) ?_
                exact ih_loopB (i + 1) R ls (by omega) (by omega) hF (lv_sub hl [1, 2, 3, 0] rfl)
              · rw [if_pos c34] at hF
                refine lv_aload_n hx hb dX4_onHull_37 rfl (lv_at hl 0 rfl) ?_
                refine lv_aload_n hx hb dX4_onHull_38 rfl (lv_at hl 0 rfl) ?_
                refine lv_iload_n hx hb dX4_onHull_39 rfl (lv_at hl 2 rfl) ?_
                refine lv_iload_n hx hb dX4_onHull_40 rfl (lv_at hl 3 rfl) ?_
                refine q_cV (As := [.int (nI d), .int (nI i)]) (rest := [.ref o0]) ⟨hx, hb, hml, hown, hts⟩ (c_X4_after l dC dI o0 xb yb za ua wa va cI th ns md (nI n) hz sz rd d i (by omega) (by omega) (lz _)) (cwV 2 hts gX4_onHull_X4_after rfl rfl rfl (by decide +kernel) ⟨Nat.le_of_ble_eq_true rfl, Nat.le_of_ble_eq_true rfl⟩) (q_pV hK hP [0, 1, 2] [0] 4 0 rfl rfl rfl rfl rfl rfl) rfl hl.1 rfl (Nat.le_of_ble_eq_true rfl) ⟨Nat.zero_le _, Nat.zero_le _⟩ dX4_onHull_41 ?_
                refine lv_iload_n hx hb dX4_onHull_44 rfl (lv_at hl 1 rfl) ?_
                refine q_cV (As := [.int (nI (r_after sz rd d i)), .int (nI v)]) (rest := []) ⟨hx, hb, hml, hown, hts⟩ (c_X4_withSide l dC dI o0 xb yb za ua wa va cI th ns md hz od sz rd n (r_after sz rd d i) v (by omega) (lr _) (by omega) lo lz lr) (cwV 2 hts gX4_onHull_X4_withSide rfl rfl rfl (by decide +kernel) ⟨Nat.le_of_ble_eq_true rfl, Nat.le_of_ble_eq_true rfl⟩) (q_pV hK hP [0, 1, 2, 3] [0] 4 0 rfl rfl rfl rfl rfl rfl) rfl hl.1 rfl (Nat.le_of_ble_eq_true rfl) ⟨Nat.zero_le _, Nat.zero_le _⟩ dX4_onHull_45 ?_
                refine lv_if_ge (tgt := 58) hx hb dX4_onHull_48 (by decide) (fun c48 => ?_) (fun c48 => ?_)
                · rw [if_pos c48] at hF
                  refine lv_iinc (v := nI (i + 1)) (lv' := [(3, .int (nI (i + 1))), (0, .ref o0), (1, .int (nI v)), (2, .int (nI d))]) hx hb dX4_onHull_58 hl (k := 3) rfl (by rw [show Int32.ofInt 1 = 1 from rfl]; exact nI_1 _) (by decide) rfl (fun ls hl => ?_)
                  refine lv_goto (tgt := 12) hx hb dX4_onHull_61 (by decide) ?_
                  exact ih_loopB (i + 1) R ls (by omega) (by omega) hF (lv_sub hl [1, 2, 3, 0] rfl)
                · rw [if_neg c48, if_neg (nI_m1 (by have h9 : r_after sz rd d i < 20 := lr _; omega))] at hF
                  subst hF
                  refine lv_aload_n hx hb dX4_onHull_51 rfl (lv_at hl 0 rfl) ?_
                  refine lv_iload_n hx hb dX4_onHull_52 rfl (lv_at hl 2 rfl) ?_
                  refine lv_iload_n hx hb dX4_onHull_53 rfl (lv_at hl 3 rfl) ?_
                  refine q_cV (As := [.int (nI d), .int (nI i)]) (rest := []) ⟨hx, hb, hml, hown, hts⟩ (c_X4_after l dC dI o0 xb yb za ua wa va cI th ns md (nI n) hz sz rd d i (by omega) (by omega) (lz _)) (cwV 2 hts gX4_onHull_X4_after rfl rfl rfl (by decide +kernel) ⟨Nat.le_of_ble_eq_true rfl, Nat.le_of_ble_eq_true rfl⟩) (q_pV hK hP [0, 1, 2] [0] 4 0 rfl rfl rfl rfl rfl rfl) rfl hl.1 rfl (Nat.le_of_ble_eq_true rfl) ⟨Nat.zero_le _, Nat.zero_le _⟩ dX4_onHull_54 ?_
                  exact W.iret (v := nI (r_after sz rd d i)) hx hb hr q_ret (fun _ h => nomatch h) dX4_onHull_57
        exact loopB (sz d + 1) 0 _ ls (by omega) (by omega) hF (lv_sub hl [1, 2, 3, 0] rfl)
  exact loopA (n + 1) 0 _ ls (by omega) (by omega) rfl (lv_sub hl [1, 2, 0] rfl)
