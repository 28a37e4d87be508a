/-! Circle and Mosaic: what their reading methods answer -/
def j_pow (fx fy : Int32) (ax ay sp : Int64) (px py : Int32) : Int64 := ((((px - fx).toInt64 * (px - fx).toInt64) + ((py - fy).toInt64 * (py - fy).toInt64)) * sp) - (2 * (((px - fx).toInt64 * ax) + ((py - fy).toInt64 * ay)))
def j_after (rg sr : Nat → Nat) (d i : Nat) : Nat := rg (sr d + (if i + 1 < sr (d + 1) - sr d then i + 1 else 0))
def j_holds (x y : Nat → Int32) (rg sr : Nat → Nat) (d : Nat) (px py : Int32) (i : Nat) : Bool :=
  if i < sr (d + 1) - sr d then (if 0 ≤ j_turn x y (rg (sr d + i)) (j_after rg sr d i) px py then j_holds x y rg sr d px py (i + 1) else false) else true
termination_by sr (d + 1) - sr d - i
def j_first (x y : Nat → Int32) (rg sr : Nat → Nat) (n : Nat) (px py : Int32) (k : Nat) : Int32 :=
  if k < n then (if j_holds x y rg sr k px py 0 = false then j_first x y rg sr n px py (k + 1) else nI k) else -1
termination_by n - k
def j_next (ow : Nat → Int32) (n a k : Nat) : Int32 :=
  if k < n then (if ow (a * 20 + k) = -1 then j_next ow n a (k + 1) else (if ow (k * 20 + a) = -1 then nI k else j_next ow n a (k + 1))) else -1
termination_by n - k
def j_frim (ow : Nat → Int32) (n k : Nat) : Int32 :=
  if k < n then (if j_next ow n k 0 = -1 then j_frim ow n (k + 1) else nI k) else -1
termination_by n - k
def j_bg (w : Int64) (b nx : Bool) : Bool := if w < 0 then false else if ¬ w = 0 then nx else if b = false then nx else false
def j_begins (x y : Nat → Int32) (fx fy : Int32) (ax ay sp : Int64) (n a b k : Nat) : Bool :=
  if k < n then (if k < a then j_bg (j_pow fx fy ax ay sp (x k) (y k)) true (j_begins x y fx fy ax ay sp n a b (k + 1)) else if 0 ≤ j_turn x y a b (x k) (y k) then j_bg (j_pow fx fy ax ay sp (x k) (y k)) false (j_begins x y fx fy ax ay sp n a b (k + 1)) else j_bg (j_pow fx fy ax ay sp (x k) (y k)) true (j_begins x y fx fy ax ay sp n a b (k + 1))) else true
termination_by n - k
set_option maxHeartbeats 4000000 in
set_option maxRecDepth 100000 in
theorem c_X0_power (l : Launch) (dC : Nat → ClassId) (dI : Nat → Nat → Nat) (g0 : Nat) (fx fy : Int32) (ax ay sp : Int64) (px py : Int32) : Met l yX0_power wsX0_power ({ frames := 0, cells := 0, slots := 0, locals := 0 }) (q_Pc (dC, dI) [.ref g0, .int px, .int py] [(g0, .inr (0, [.int fx, .int fy, .long ax, .long ay, .long sp]))] []) (k2_QcV (.long (j_pow fx fy ax ay sp px py))) 0 0 (fun _ => False) := by
  refine Met.ofW (cc := cX0_power) (maxL := 7) (ret := (some .long)) (by decide) rfl ?_
  intro p e s m args below meth c s₁ B hml hv
  obtain ⟨rfl, hP, hK⟩ := hv
  have hx := B.exec
  have hb := B.bytes
  have hr := B.returns
  have hts := atoms_spec (ws := wsX0_power) B.pre
  have hown : s.vm.findClass RX0 = some m.cls := findClass_of_methodNamed B.named
  have hlocks := B.notSynchronized
  have hP : va_P (dC, dI) vwCl [(g0, .inr (0, [.int fx, .int fy, .long ax, .long ay, .long sp]))] s.heap := hP
  have hl := lv_entry ([.ref g0, .int px, .int py]) (n := 7) (Nat.le_of_ble_eq_true rfl)
  rw [lg_entry_eq]
  generalize (lg_sl ([.ref g0, .int px, .int py]) ++ List.replicate (7 - (lg_sl ([.ref g0, .int px, .int py])).length) Slot.unset).toArray = ls at hl ⊢
  have hl : lv_has ls 7 [(0, .ref g0), (1, .int px), (2, .int py)] := hl
  refine lv_iload_n hx hb dX0_power_0 rfl (lv_at hl 1 rfl) ?_
  refine lv_aload_n hx hb dX0_power_1 rfl (lv_at hl 0 rfl) ?_
  refine va_get (D := (dC, dI)) (ci := 0) (v := .int fx) (C := RX0) (T := TX0) (N := 5) hx hb hts (by decide +kernel) hown hK hP 0 rfl rfl 0 (by decide) (hts (.fieldLink RX0 13 "CircleCells$Circle" "fromX" "I") (by decide +kernel)) (fun _ h9 => h9) rfl dX0_power_2 ?_
  refine lv_isub hx hb dX0_power_5 ?_
  refine lv_i2l (v := (px - fx).toInt64) hx hb dX0_power_6 rfl ?_
  refine lv_lstore_n (lv' := [(3, .long ((px - fx).toInt64)), (0, .ref g0), (1, .int px), (2, .int py)]) hx hb dX0_power_7 rfl hl (by decide) rfl (fun ls hl => ?_)
  refine lv_iload_n hx hb dX0_power_8 rfl (lv_at hl 3 rfl) ?_
  refine lv_aload_n hx hb dX0_power_9 rfl (lv_at hl 1 rfl) ?_
  refine va_get (D := (dC, dI)) (ci := 0) (v := .int fy) (C := RX0) (T := TX0) (N := 5) hx hb hts (by decide +kernel) hown hK hP 0 rfl rfl 1 (by decide) (hts (.fieldLink RX0 22 "CircleCells$Circle" "fromY" "I") (by decide +kernel)) (fun _ h9 => h9) rfl dX0_power_10 ?_
  refine lv_isub hx hb dX0_power_13 ?_
  refine lv_i2l (v := (py - fy).toInt64) hx hb dX0_power_14 rfl ?_
  refine lv_lstore (lv' := [(5, .long ((py - fy).toInt64)), (3, .long ((px - fx).toInt64)), (0, .ref g0), (1, .int px), (2, .int py)]) hx hb dX0_power_15 hl (by decide) rfl (fun ls hl => ?_)
  refine lv_lload_n hx hb dX0_power_17 rfl (lv_at hl 1 rfl) ?_
  refine lv_lload_n hx hb dX0_power_18 rfl (lv_at hl 1 rfl) ?_
  refine lv_lmul hx hb dX0_power_19 ?_
  refine lv_lload hx hb dX0_power_20 (lv_at hl 0 rfl) ?_
  refine lv_lload hx hb dX0_power_22 (lv_at hl 0 rfl) ?_
  refine lv_lmul hx hb dX0_power_24 ?_
  refine lv_ladd hx hb dX0_power_25 ?_
  refine lv_aload_n hx hb dX0_power_26 rfl (lv_at hl 2 rfl) ?_
  refine va_get (D := (dC, dI)) (ci := 0) (v := .long sp) (C := RX0) (T := TX0) (N := 5) hx hb hts (by decide +kernel) hown hK hP 0 rfl rfl 4 (by decide) (hts (.fieldLink RX0 34 "CircleCells$Circle" "span" "J") (by decide +kernel)) (fun _ h9 => h9) rfl dX0_power_27 ?_
  refine lv_lmul hx hb dX0_power_30 ?_
  refine lv_ldc2 (v := 2) hx hb hown (hts (.constantLong RX0 32 (2)) (by decide +kernel)) dX0_power_31 ?_
  refine lv_lload_n hx hb dX0_power_34 rfl (lv_at hl 1 rfl) ?_
  refine lv_aload_n hx hb dX0_power_35 rfl (lv_at hl 2 rfl) ?_
  refine va_get (D := (dC, dI)) (ci := 0) (v := .long ax) (C := RX0) (T := TX0) (N := 5) hx hb hts (by decide +kernel) hown hK hP 0 rfl rfl 2 (by decide) (hts (.fieldLink RX0 25 "CircleCells$Circle" "aimX" "J") (by decide +kernel)) (fun _ h9 => h9) rfl dX0_power_36 ?_
  refine lv_lmul hx hb dX0_power_39 ?_
  refine lv_lload hx hb dX0_power_40 (lv_at hl 0 rfl) ?_
  refine lv_aload_n hx hb dX0_power_42 rfl (lv_at hl 2 rfl) ?_
  refine va_get (D := (dC, dI)) (ci := 0) (v := .long ay) (C := RX0) (T := TX0) (N := 5) hx hb hts (by decide +kernel) hown hK hP 0 rfl rfl 3 (by decide) (hts (.fieldLink RX0 29 "CircleCells$Circle" "aimY" "J") (by decide +kernel)) (fun _ h9 => h9) rfl dX0_power_43 ?_
  refine lv_lmul hx hb dX0_power_46 ?_
  refine lv_ladd hx hb dX0_power_47 ?_
  refine lv_lmul hx hb dX0_power_48 ?_
  refine lv_lsub hx hb dX0_power_49 ?_
  exact W.lret (v := (((((px - fx).toInt64) * ((px - fx).toInt64)) + (((py - fy).toInt64) * ((py - fy).toInt64))) * sp) - (2 * ((((px - fx).toInt64) * ax) + (((py - fy).toInt64) * ay)))) hx hb hr q_ret (fun _ h => nomatch h) dX0_power_50
set_option maxHeartbeats 4000000 in
set_option maxRecDepth 100000 in
theorem c_X1_sideKey (l : Launch) (dC : Nat → ClassId) (dI : Nat → Nat → Nat) (a b : Nat) : Met l yX1_sideKey wsX1_sideKey ({ frames := 0, cells := 0, slots := 0, locals := 0 }) (q_Pc (dC, dI) [.int (nI a), .int (nI b)] [] []) (k2_QcV (.int (nI (a * 20 + b)))) 0 0 (fun _ => False) := by
  refine Met.ofW (cc := cX1_sideKey) (maxL := 2) (ret := (some .int)) (by decide) rfl ?_
  intro p e s m args below meth c s₁ B hml hv
  obtain ⟨rfl, hP, hK⟩ := hv
  have hx := B.exec
  have hb := B.bytes
  have hr := B.returns
  have hts := atoms_spec (ws := wsX1_sideKey) B.pre
  have hown : s.vm.findClass RX1 = some m.cls := findClass_of_methodNamed B.named
  have hlocks := B.notSynchronized
  have hP : va_P (dC, dI) vwCl [] s.heap := hP
  have hl := lv_entry ([.int (nI a), .int (nI b)]) (n := 2) (Nat.le_of_ble_eq_true rfl)
  rw [lg_entry_eq]
  generalize (lg_sl ([.int (nI a), .int (nI b)]) ++ List.replicate (2 - (lg_sl ([.int (nI a), .int (nI b)])).length) Slot.unset).toArray = ls at hl ⊢
  have hl : lv_has ls 2 [(0, .int (nI a)), (1, .int (nI b))] := hl
  refine lv_iload_n hx hb dX1_sideKey_0 rfl (lv_at hl 0 rfl) ?_
  refine lv_bipush (v := nI 20) hx hb dX1_sideKey_1 (by decide) ?_
  refine q_imul hx hb dX1_sideKey_3 ?_
  refine lv_iload_n hx hb dX1_sideKey_4 rfl (lv_at hl 1 rfl) ?_
  refine q_iadd hx hb dX1_sideKey_5 ?_
  exact W.iret (v := nI ((a * 20) + b)) hx hb hr q_ret (fun _ h => nomatch h) dX1_sideKey_6
set_option maxHeartbeats 4000000 in
set_option maxRecDepth 100000 in
theorem c_X1_sideCount (l : Launch) (dC : Nat → ClassId) (dI : Nat → Nat → Nat) (m0 s0 g0 ra sa oa ma : Nat) (cI : ClassId) (cc rc : Int32) (sr : Nat → Nat) (d : Nat) (ld : d < 35) (lm : sr d ≤ sr (d + 1)) : Met l yX1_sideCount wsX1_sideCount ({ frames := 0, cells := 0, slots := 0, locals := 0 }) (q_Pc (dC, dI) [.ref m0, .int (nI d)] [(m0, .inr (1, [.ref s0, .ref g0, .ref ra, .ref sa, .ref oa, .int cc, .ref ma, .int rc])), (sa, .inl (cI, 36, .inl (fun j9 => nI (sr j9))))] [(cI, .int)]) (k2_QcV (.int (nI (sr (d + 1) - sr d)))) 0 0 (fun _ => False) := by
  refine Met.ofW (cc := cX1_sideCount) (maxL := 2) (ret := (some .int)) (by decide) rfl ?_
  intro p e s m args below meth c s₁ B hml hv
  obtain ⟨rfl, hP, hK⟩ := hv
  have hx := B.exec
  have hb := B.bytes
  have hr := B.returns
  have hts := atoms_spec (ws := wsX1_sideCount) B.pre
  have hown : s.vm.findClass RX1 = some m.cls := findClass_of_methodNamed B.named
  have hlocks := B.notSynchronized
  have hP : va_P (dC, dI) vwCl [(m0, .inr (1, [.ref s0, .ref g0, .ref ra, .ref sa, .ref oa, .int cc, .ref ma, .int rc])), (sa, .inl (cI, 36, .inl (fun j9 => nI (sr j9))))] s.heap := hP
  have hl := lv_entry ([.ref m0, .int (nI d)]) (n := 2) (Nat.le_of_ble_eq_true rfl)
  rw [lg_entry_eq]
  generalize (lg_sl ([.ref m0, .int (nI d)]) ++ List.replicate (2 - (lg_sl ([.ref m0, .int (nI d)])).length) Slot.unset).toArray = ls at hl ⊢
  have hl : lv_has ls 2 [(0, .ref m0), (1, .int (nI d))] := hl
  refine lv_aload_n hx hb dX1_sideCount_0 rfl (lv_at hl 0 rfl) ?_
  refine va_get (D := (dC, dI)) (ci := 1) (v := .ref sa) (C := RX1) (T := TX1) (N := 8) hx hb hts (by decide +kernel) hown hK hP 0 rfl rfl 3 (by decide) (hts (.fieldLink RX1 22 "CircleCells$Mosaic" "start" "[I") (by decide +kernel)) (fun _ h9 => h9) rfl dX1_sideCount_1 ?_
  refine lv_iload_n hx hb dX1_sideCount_4 rfl (lv_at hl 1 rfl) ?_
  refine lv_iconst (v := nI 1) hx hb dX1_sideCount_5 (by decide) ?_
  refine q_iadd hx hb dX1_sideCount_6 ?_
  refine q_iald hx hb hK hP 1 0 rfl rfl (d + 1) rfl (by omega) (by decide) dX1_sideCount_7 ?_
  refine lv_aload_n hx hb dX1_sideCount_8 rfl (lv_at hl 0 rfl) ?_
  refine va_get (D := (dC, dI)) (ci := 1) (v := .ref sa) (C := RX1) (T := TX1) (N := 8) hx hb hts (by decide +kernel) hown hK hP 0 rfl rfl 3 (by decide) (hts (.fieldLink RX1 22 "CircleCells$Mosaic" "start" "[I") (by decide +kernel)) (fun _ h9 => h9) rfl dX1_sideCount_9 ?_
  refine lv_iload_n hx hb dX1_sideCount_12 rfl (lv_at hl 1 rfl) ?_
  refine q_iald hx hb hK hP 1 0 rfl rfl (d) rfl (by omega) (by decide) dX1_sideCount_13 ?_
  refine q_isub lm hx hb dX1_sideCount_14 ?_
  exact W.iret (v := nI ((sr (d + 1)) - (sr d))) hx hb hr q_ret (fun _ h => nomatch h) dX1_sideCount_15
set_option maxHeartbeats 4000000 in
set_option maxRecDepth 100000 in
theorem c_X1_siteOf (l : Launch) (dC : Nat → ClassId) (dI : Nat → Nat → Nat) (m0 s0 g0 ra sa oa ma : Nat) (cI : ClassId) (cc rc : Int32) (rg sr : Nat → Nat) (d i : Nat) (ld : d < 36) (li : sr d + i < 105) : Met l yX1_siteOf wsX1_siteOf ({ frames := 0, cells := 0, slots := 0, locals := 0 }) (q_Pc (dC, dI) [.ref m0, .int (nI d), .int (nI i)] [(m0, .inr (1, [.ref s0, .ref g0, .ref ra, .ref sa, .ref oa, .int cc, .ref ma, .int rc])), (ra, .inl (cI, 105, .inl (fun j9 => nI (rg j9)))), (sa, .inl (cI, 36, .inl (fun j9 => nI (sr j9))))] [(cI, .int)]) (k2_QcV (.int (nI (rg (sr d + i))))) 0 0 (fun _ => False) := by
  refine Met.ofW (cc := cX1_siteOf) (maxL := 3) (ret := (some .int)) (by decide) rfl ?_
  intro p e s m args below meth c s₁ B hml hv
  obtain ⟨rfl, hP, hK⟩ := hv
  have hx := B.exec
  have hb := B.bytes
  have hr := B.returns
  have hts := atoms_spec (ws := wsX1_siteOf) B.pre
  have hown : s.vm.findClass RX1 = some m.cls := findClass_of_methodNamed B.named
  have hlocks := B.notSynchronized
  have hP : va_P (dC, dI) vwCl [(m0, .inr (1, [.ref s0, .ref g0, .ref ra, .ref sa, .ref oa, .int cc, .ref ma, .int rc])), (ra, .inl (cI, 105, .inl (fun j9 => nI (rg j9)))), (sa, .inl (cI, 36, .inl (fun j9 => nI (sr j9))))] s.heap := hP
  have hl := lv_entry ([.ref m0, .int (nI d), .int (nI i)]) (n := 3) (Nat.le_of_ble_eq_true rfl)
  rw [lg_entry_eq]
  generalize (lg_sl ([.ref m0, .int (nI d), .int (nI i)]) ++ List.replicate (3 - (lg_sl ([.ref m0, .int (nI d), .int (nI i)])).length) Slot.unset).toArray = ls at hl ⊢
  have hl : lv_has ls 3 [(0, .ref m0), (1, .int (nI d)), (2, .int (nI i))] := hl
  refine lv_aload_n hx hb dX1_siteOf_0 rfl (lv_at hl 0 rfl) ?_
  refine va_get (D := (dC, dI)) (ci := 1) (v := .ref ra) (C := RX1) (T := TX1) (N := 8) hx hb hts (by decide +kernel) hown hK hP 0 rfl rfl 2 (by decide) (hts (.fieldLink RX1 18 "CircleCells$Mosaic" "ring" "[I") (by decide +kernel)) (fun _ h9 => h9) rfl dX1_siteOf_1 ?_
  refine lv_aload_n hx hb dX1_siteOf_4 rfl (lv_at hl 0 rfl) ?_
  refine va_get (D := (dC, dI)) (ci := 1) (v := .ref sa) (C := RX1) (T := TX1) (N := 8) hx hb hts (by decide +kernel) hown hK hP 0 rfl rfl 3 (by decide) (hts (.fieldLink RX1 22 "CircleCells$Mosaic" "start" "[I") (by decide +kernel)) (fun _ h9 => h9) rfl dX1_siteOf_5 ?_
  refine lv_iload_n hx hb dX1_siteOf_8 rfl (lv_at hl 1 rfl) ?_
  refine q_iald hx hb hK hP 2 0 rfl rfl (d) rfl (by omega) (by decide) dX1_siteOf_9 ?_
  refine lv_iload_n hx hb dX1_siteOf_10 rfl (lv_at hl 2 rfl) ?_
  refine q_iadd hx hb dX1_siteOf_11 ?_
  refine q_iald hx hb hK hP 1 0 rfl rfl ((sr d) + i) rfl (by omega) (by decide) dX1_siteOf_12 ?_
  exact W.iret (v := nI (rg ((sr d) + i))) hx hb hr q_ret (fun _ h => nomatch h) dX1_siteOf_13
set_option maxHeartbeats 4000000 in
set_option maxRecDepth 100000 in
theorem c_X1_siteAfter (l : Launch) (dC : Nat → ClassId) (dI : Nat → Nat → Nat) (m0 s0 g0 ra sa oa ma : Nat) (cI : ClassId) (cc rc : Int32) (rg sr : Nat → Nat) (d i : Nat) (ld : d < 35) (lm : sr d < sr (d + 1)) (le : sr (d + 1) ≤ 105) (li : i < 105) : Met l yX1_siteAfter wsX1_siteAfter ({ frames := 1, cells := 0, slots := 0, locals := 22 }) (q_Pc (dC, dI) [.ref m0, .int (nI d), .int (nI i)] [(m0, .inr (1, [.ref s0, .ref g0, .ref ra, .ref sa, .ref oa, .int cc, .ref ma, .int rc])), (ra, .inl (cI, 105, .inl (fun j9 => nI (rg j9)))), (sa, .inl (cI, 36, .inl (fun j9 => nI (sr j9))))] [(cI, .int)]) (k2_QcV (.int (nI (j_after rg sr d i)))) 0 0 (fun _ => False) := by
  refine Met.ofW (cc := cX1_siteAfter) (maxL := 3) (ret := (some .int)) (by decide) rfl ?_
  intro p e s m args below meth c s₁ B hml hv
  obtain ⟨rfl, hP, hK⟩ := hv
  have hx := B.exec
  have hb := B.bytes
  have hr := B.returns
  have hts := atoms_spec (ws := wsX1_siteAfter) B.pre
  have hown : s.vm.findClass RX1 = some m.cls := findClass_of_methodNamed B.named
  have hlocks := B.notSynchronized
  have hP : va_P (dC, dI) vwCl [(m0, .inr (1, [.ref s0, .ref g0, .ref ra, .ref sa, .ref oa, .int cc, .ref ma, .int rc])), (ra, .inl (cI, 105, .inl (fun j9 => nI (rg j9)))), (sa, .inl (cI, 36, .inl (fun j9 => nI (sr j9))))] s.heap := hP
  have hl := lv_entry ([.ref m0, .int (nI d), .int (nI i)]) (n := 3) (Nat.le_of_ble_eq_true rfl)
  rw [lg_entry_eq]
  generalize (lg_sl ([.ref m0, .int (nI d), .int (nI i)]) ++ List.replicate (3 - (lg_sl ([.ref m0, .int (nI d), .int (nI i)])).length) Slot.unset).toArray = ls at hl ⊢
  have hl : lv_has ls 3 [(0, .ref m0), (1, .int (nI d)), (2, .int (nI i))] := hl
  refine lv_aload_n hx hb dX1_siteAfter_0 rfl (lv_at hl 0 rfl) ?_
  refine lv_iload_n hx hb dX1_siteAfter_1 rfl (lv_at hl 1 rfl) ?_
  refine lv_iload_n hx hb dX1_siteAfter_2 rfl (lv_at hl 2 rfl) ?_
  refine lv_iconst (v := nI 1) hx hb dX1_siteAfter_3 (by decide) ?_
  refine q_iadd hx hb dX1_siteAfter_4 ?_
  refine lv_aload_n hx hb dX1_siteAfter_5 rfl (lv_at hl 0 rfl) ?_
  refine lv_iload_n hx hb dX1_siteAfter_6 rfl (lv_at hl 1 rfl) ?_
  refine q_cV (As := [.int (nI d)]) (rest := [.int (nI (i + 1)), .int (nI d), .ref m0]) ⟨hx, hb, hml, hown, hts⟩ (c_X1_sideCount l dC dI m0 s0 g0 ra sa oa ma cI cc rc sr d (by omega) (by omega)) (cwV 1 hts gX1_siteAfter_X1_sideCount rfl rfl rfl (by decide +kernel) ⟨Nat.le_of_ble_eq_true rfl, Nat.le_of_ble_eq_true rfl⟩) (q_pV hK hP [0, 2] [0] 1 0 rfl rfl rfl rfl rfl rfl) rfl hl.1 rfl (Nat.le_of_ble_eq_true rfl) ⟨Nat.zero_le _, Nat.zero_le _⟩ dX1_siteAfter_7 ?_
  refine q_icmp_ge (tgt := 19) (by omega) (by omega) hx hb dX1_siteAfter_10 (by decide) (fun c10 => ?_) (fun c10 => ?_)
  · unfold j_after
    rw [if_neg (by omega)]
    refine lv_iconst (v := nI 0) hx hb dX1_siteAfter_19 (by decide) ?_
    refine q_cV (As := [.int (nI d), .int (nI 0)]) (rest := []) ⟨hx, hb, hml, hown, hts⟩ (c_X1_siteOf l dC dI m0 s0 g0 ra sa oa ma cI cc rc rg sr d 0 (by omega) (by omega)) (cwV 2 hts gX1_siteAfter_X1_siteOf rfl rfl rfl (by decide +kernel) ⟨Nat.le_of_ble_eq_true rfl, Nat.le_of_ble_eq_true rfl⟩) (q_pV hK hP [0, 1, 2] [0] 1 0 rfl rfl rfl rfl rfl rfl) rfl hl.1 rfl (Nat.le_of_ble_eq_true rfl) ⟨Nat.zero_le _, Nat.zero_le _⟩ dX1_siteAfter_20 ?_
    exact W.iret (v := nI (rg (sr d + 0))) hx hb hr q_ret (fun _ h => nomatch h) dX1_siteAfter_23
  · unfold j_after
    rw [if_pos c10]
    refine lv_iload_n hx hb dX1_siteAfter_13 rfl (lv_at hl 2 rfl) ?_
    refine lv_iconst (v := nI 1) hx hb dX1_siteAfter_14 (by decide) ?_
    refine q_iadd hx hb dX1_siteAfter_15 ?_
    refine lv_goto (tgt := 20) hx hb dX1_siteAfter_16 (by decide) ?_
    refine q_cV (As := [.int (nI d), .int (nI (i + 1))]) (rest := []) ⟨hx, hb, hml, hown, hts⟩ (c_X1_siteOf l dC dI m0 s0 g0 ra sa oa ma cI cc rc rg sr d (i + 1) (by omega) (by omega)) (cwV 2 hts gX1_siteAfter_X1_siteOf rfl rfl rfl (by decide +kernel) ⟨Nat.le_of_ble_eq_true rfl, Nat.le_of_ble_eq_true rfl⟩) (q_pV hK hP [0, 1, 2] [0] 1 0 rfl rfl rfl rfl rfl rfl) rfl hl.1 rfl (Nat.le_of_ble_eq_true rfl) ⟨Nat.zero_le _, Nat.zero_le _⟩ dX1_siteAfter_20 ?_
    exact W.iret (v := nI (rg (sr d + (i + 1)))) hx hb hr q_ret (fun _ h => nomatch h) dX1_siteAfter_23
set_option maxHeartbeats 4000000 in
set_option maxRecDepth 100000 in
theorem c_X1_across (l : Launch) (dC : Nat → ClassId) (dI : Nat → Nat → Nat) (m0 s0 g0 ra sa oa ma : Nat) (cI : ClassId) (cc rc : Int32) (rg sr : Nat → Nat) (ow : Nat → Int32) (d i : Nat) (ld : d < 35) (lm : sr d + i < sr (d + 1)) (le : sr (d + 1) ≤ 105) (lr : ∀ j, rg j < 20) : Met l yX1_across wsX1_across ({ frames := 2, cells := 0, slots := 0, locals := 44 }) (q_Pc (dC, dI) [.ref m0, .int (nI d), .int (nI i)] [(m0, .inr (1, [.ref s0, .ref g0, .ref ra, .ref sa, .ref oa, .int cc, .ref ma, .int rc])), (ra, .inl (cI, 105, .inl (fun j9 => nI (rg j9)))), (sa, .inl (cI, 36, .inl (fun j9 => nI (sr j9)))), (oa, .inl (cI, 400, .inl ow))] [(cI, .int)]) (k2_QcV (.int (ow (j_after rg sr d i * 20 + rg (sr d + i))))) 0 0 (fun _ => False) := by
  refine Met.ofW (cc := cX1_across) (maxL := 3) (ret := (some .int)) (by decide) rfl ?_
  intro p e s m args below meth c s₁ B hml hv
  obtain ⟨rfl, hP, hK⟩ := hv
  have hx := B.exec
  have hb := B.bytes
  have hr := B.returns
  have hts := atoms_spec (ws := wsX1_across) B.pre
  have hown : s.vm.findClass RX1 = some m.cls := findClass_of_methodNamed B.named
  have hlocks := B.notSynchronized
  have hP : va_P (dC, dI) vwCl [(m0, .inr (1, [.ref s0, .ref g0, .ref ra, .ref sa, .ref oa, .int cc, .ref ma, .int rc])), (ra, .inl (cI, 105, .inl (fun j9 => nI (rg j9)))), (sa, .inl (cI, 36, .inl (fun j9 => nI (sr j9)))), (oa, .inl (cI, 400, .inl ow))] s.heap := hP
  have hl := lv_entry ([.ref m0, .int (nI d), .int (nI i)]) (n := 3) (Nat.le_of_ble_eq_true rfl)
  rw [lg_entry_eq]
  generalize (lg_sl ([.ref m0, .int (nI d), .int (nI i)]) ++ List.replicate (3 - (lg_sl ([.ref m0, .int (nI d), .int (nI i)])).length) Slot.unset).toArray = ls at hl ⊢
  have hl : lv_has ls 3 [(0, .ref m0), (1, .int (nI d)), (2, .int (nI i))] := hl
  refine lv_aload_n hx hb dX1_across_0 rfl (lv_at hl 0 rfl) ?_
  refine va_get (D := (dC, dI)) (ci := 1) (v := .ref oa) (C := RX1) (T := TX1) (N := 8) hx hb hts (by decide +kernel) hown hK hP 0 rfl rfl 4 (by decide) (hts (.fieldLink RX1 25 "CircleCells$Mosaic" "owner" "[I") (by decide +kernel)) (fun _ h9 => h9) rfl dX1_across_1 ?_
  refine lv_aload_n hx hb dX1_across_4 rfl (lv_at hl 0 rfl) ?_
  refine lv_iload_n hx hb dX1_across_5 rfl (lv_at hl 1 rfl) ?_
  refine lv_iload_n hx hb dX1_across_6 rfl (lv_at hl 2 rfl) ?_
  refine q_cV (As := [.int (nI d), .int (nI i)]) (rest := [.ref oa]) ⟨hx, hb, hml, hown, hts⟩ (c_X1_siteAfter l dC dI m0 s0 g0 ra sa oa ma cI cc rc rg sr d i (by omega) (by omega) (by omega) (by omega)) (cwV 2 hts gX1_across_X1_siteAfter rfl rfl rfl (by decide +kernel) ⟨Nat.le_of_ble_eq_true rfl, Nat.le_of_ble_eq_true rfl⟩) (q_pV hK hP [0, 1, 2] [0] 1 0 rfl rfl rfl rfl rfl rfl) rfl hl.1 rfl (Nat.le_of_ble_eq_true rfl) ⟨Nat.zero_le _, Nat.zero_le _⟩ dX1_across_7 ?_
  refine lv_aload_n hx hb dX1_across_10 rfl (lv_at hl 0 rfl) ?_
  refine lv_iload_n hx hb dX1_across_11 rfl (lv_at hl 1 rfl) ?_
  refine lv_iload_n hx hb dX1_across_12 rfl (lv_at hl 2 rfl) ?_
  refine q_cV (As := [.int (nI d), .int (nI i)]) (rest := [.int (nI (j_after rg sr d i)), .ref oa]) ⟨hx, hb, hml, hown, hts⟩ (c_X1_siteOf l dC dI m0 s0 g0 ra sa oa ma cI cc rc rg sr d i (by omega) (by omega)) (cwV 2 hts gX1_across_X1_siteOf rfl rfl rfl (by decide +kernel) ⟨Nat.le_of_ble_eq_true rfl, Nat.le_of_ble_eq_true rfl⟩) (q_pV hK hP [0, 1, 2] [0] 1 0 rfl rfl rfl rfl rfl rfl) rfl hl.1 rfl (Nat.le_of_ble_eq_true rfl) ⟨Nat.zero_le _, Nat.zero_le _⟩ dX1_across_13 ?_
  refine q_cS (As := [.int (nI (j_after rg sr d i)), .int (nI (rg (sr d + i)))]) (rest := [.ref oa]) ⟨hx, hb, hml, hown, hts⟩ (c_X1_sideKey l dC dI (j_after rg sr d i) (rg (sr d + i))) (va_cwS 2 hts gX1_across_X1_sideKey rfl rfl rfl (by decide +kernel) ⟨Nat.le_of_ble_eq_true rfl, Nat.le_of_ble_eq_true rfl⟩) (q_pS hK hP [] [] rfl rfl rfl) rfl hl.1 rfl (Nat.le_of_ble_eq_true rfl) ⟨Nat.zero_le _, Nat.zero_le _⟩ dX1_across_16 ?_
  refine q_iald hx hb hK hP 3 0 rfl rfl ((j_after rg sr d i) * 20 + (rg (sr d + i))) rfl (by have h1 := lr (sr d + i); have h2 : j_after rg sr d i < 20 := lr _; omega) (by decide) dX1_across_19 ?_
  exact W.iret (v := ow ((j_after rg sr d i) * 20 + (rg (sr d + i)))) hx hb hr q_ret (fun _ h => nomatch h) dX1_across_20
set_option maxHeartbeats 4000000 in
set_option maxRecDepth 100000 in
theorem c_X1_holds (l : Launch) (dC : Nat → ClassId) (dI : Nat → Nat → Nat) (m0 s0 g0 ra sa oa ma : Nat) (cI : ClassId) (xa ya : Nat) (sz cc rc : Int32) (x y : Nat → Int32) (rg sr : Nat → Nat) (d : Nat) (px py : Int32) (ld : d < 35) (lm : sr d < sr (d + 1)) (le : sr (d + 1) ≤ 105) (lr : ∀ j, rg j < 20) : Met l yX1_holds wsX1_holds ({ frames := 2, cells := 0, slots := 0, locals := 44 }) (q_Pc (dC, dI) [.ref m0, .int (nI d), .int px, .int py] [(m0, .inr (1, [.ref s0, .ref g0, .ref ra, .ref sa, .ref oa, .int cc, .ref ma, .int rc])), (ra, .inl (cI, 105, .inl (fun j9 => nI (rg j9)))), (sa, .inl (cI, 36, .inl (fun j9 => nI (sr j9)))), (s0, .inr (2, [.ref xa, .ref ya, .int sz])), (xa, .inl (cI, 20, .inl x)), (ya, .inl (cI, 20, .inl y))] [(cI, .int)]) (k2_QcV (.int (bI (j_holds x y rg sr d px py 0)))) 0 0 (fun _ => False) := by
  refine Met.ofW (cc := cX1_holds) (maxL := 6) (ret := (some .boolean)) (by decide) rfl ?_
  intro p e s m args below meth c s₁ B hml hv
  obtain ⟨rfl, hP, hK⟩ := hv
  have hx := B.exec
  have hb := B.bytes
  have hr := B.returns
  have hts := atoms_spec (ws := wsX1_holds) B.pre
  have hown : s.vm.findClass RX1 = some m.cls := findClass_of_methodNamed B.named
  have hlocks := B.notSynchronized
  have hP : va_P (dC, dI) vwCl [(m0, .inr (1, [.ref s0, .ref g0, .ref ra, .ref sa, .ref oa, .int cc, .ref ma, .int rc])), (ra, .inl (cI, 105, .inl (fun j9 => nI (rg j9)))), (sa, .inl (cI, 36, .inl (fun j9 => nI (sr j9)))), (s0, .inr (2, [.ref xa, .ref ya, .int sz])), (xa, .inl (cI, 20, .inl x)), (ya, .inl (cI, 20, .inl y))] s.heap := hP
  have hl := lv_entry ([.ref m0, .int (nI d), .int px, .int py]) (n := 6) (Nat.le_of_ble_eq_true rfl)
  rw [lg_entry_eq]
  generalize (lg_sl ([.ref m0, .int (nI d), .int px, .int py]) ++ List.replicate (6 - (lg_sl ([.ref m0, .int (nI d), .int px, .int py])).length) Slot.unset).toArray = ls at hl ⊢
  have hl : lv_has ls 6 [(0, .ref m0), (1, .int (nI d)), (2, .int px), (3, .int py)] := hl
  refine lv_aload_n hx hb dX1_holds_0 rfl (lv_at hl 0 rfl) ?_
  refine lv_iload_n hx hb dX1_holds_1 rfl (lv_at hl 1 rfl) ?_
  refine q_cV (As := [.int (nI d)]) (rest := []) ⟨hx, hb, hml, hown, hts⟩ (c_X1_sideCount l dC dI m0 s0 g0 ra sa oa ma cI cc rc sr d (by omega) (by omega)) (cwV 1 hts gX1_holds_X1_sideCount rfl rfl rfl (by decide +kernel) ⟨Nat.le_of_ble_eq_true rfl, Nat.le_of_ble_eq_true rfl⟩) (q_pV hK hP [0, 2] [0] 1 0 rfl rfl rfl rfl rfl rfl) rfl hl.1 rfl (Nat.le_of_ble_eq_true rfl) ⟨Nat.zero_le _, Nat.zero_le _⟩ dX1_holds_2 ?_
  refine lv_istore (lv' := [(4, .int (nI (sr (d + 1) - sr d))), (0, .ref m0), (1, .int (nI d)), (2, .int px), (3, .int py)]) hx hb dX1_holds_5 hl (by decide) rfl (fun ls hl => ?_)
  refine lv_iconst (v := nI 0) hx hb dX1_holds_7 (by decide) ?_
  refine lv_istore (lv' := [(5, .int (nI 0)), (4, .int (nI (sr (d + 1) - sr d))), (0, .ref m0), (1, .int (nI d)), (2, .int px), (3, .int py)]) hx hb dX1_holds_8 hl (by decide) rfl (fun ls hl => ?_)
  have loop : ∀ (f : Nat) (i : Nat) (R : Bool) (ls : Array Slot), (i ≤ sr (d + 1) - sr d) → (sr (d + 1) - sr d + 1 ≤ i + f) → j_holds x y rg sr d px py i = R → lv_has ls 6 [(0, .ref m0), (1, .int (nI d)), (2, .int px), (3, .int py), (4, .int (nI (sr (d + 1) - sr d))), (5, .int (nI i))] → W p l e (headSpec wsX1_holds ({ frames := 2, cells := 0, slots := 0, locals := 44 })).room s m ([.ref m0, .int (nI d), .int px, .int py] : List Value).toArray below meth c s.heap [] 0 0 (MQ below (k2_QcV (.int (bI R))) ([.ref m0, .int (nI d), .int px, .int py] : List Value).toArray s 0 0 (fun _ => False)) (F0 m 10 ls []) := by
    intro f
    induction f with
    | zero =>
      intro i R ls h1 h2
      omega
    | succ f ih_loop =>
      intro i R ls h1 h2 hF hl
      refine lv_iload hx hb dX1_holds_10 (lv_at hl 5 rfl) ?_
      refine lv_iload hx hb dX1_holds_12 (lv_at hl 4 rfl) ?_
      refine q_icmp_ge (tgt := 51) (by omega) (by omega) hx hb dX1_holds_14 (by decide) (fun c14 => ?_) (fun c14 => ?_)
      · rw [j_holds, if_neg (by omega)] at hF
        subst hF
        refine lv_iconst (v := bI true) hx hb dX1_holds_51 (by decide) ?_
        exact W.zret (v := bI true) hx hb hr (bI_nar _) q_ret (fun _ h => nomatch h) dX1_holds_52
      · rw [j_holds, if_pos c14] at hF
        refine lv_aload_n hx hb dX1_holds_17 rfl (lv_at hl 0 rfl) ?_
        refine va_get (D := (dC, dI)) (ci := 1) (v := .ref s0) (C := RX1) (T := TX1) (N := 8) hx hb hts (by decide +kernel) hown hK hP 0 rfl rfl 0 (by decide) (hts (.fieldLink RX1 38 "CircleCells$Mosaic" "sites" "LCircleCells$Sites;") (by decide +kernel)) (fun _ h9 => h9) rfl dX1_holds_18 ?_
        refine lv_aload_n hx hb dX1_holds_21 rfl (lv_at hl 0 rfl) ?_
        refine lv_iload_n hx hb dX1_holds_22 rfl (lv_at hl 1 rfl) ?_
        refine lv_iload hx hb dX1_holds_23 (lv_at hl 5 rfl) ?_
        refine q_cV (As := [.int (nI d), .int (nI i)]) (rest := [.ref s0]) ⟨hx, hb, hml, hown, hts⟩ (c_X1_siteOf l dC dI m0 s0 g0 ra sa oa ma cI cc rc rg sr d i (by omega) (by omega)) (cwV 2 hts gX1_holds_X1_siteOf rfl rfl rfl (by decide +kernel) ⟨Nat.le_of_ble_eq_true rfl, Nat.le_of_ble_eq_true rfl⟩) (q_pV hK hP [0, 1, 2] [0] 1 0 rfl rfl rfl rfl rfl rfl) rfl hl.1 rfl (Nat.le_of_ble_eq_true rfl) ⟨Nat.zero_le _, Nat.zero_le _⟩ dX1_holds_25 ?_
        refine lv_aload_n hx hb dX1_holds_28 rfl (lv_at hl 0 rfl) ?_
        refine lv_iload_n hx hb dX1_holds_29 rfl (lv_at hl 1 rfl) ?_
        refine lv_iload hx hb dX1_holds_30 (lv_at hl 5 rfl) ?_
        refine q_cV (As := [.int (nI d), .int (nI i)]) (rest := [.int (nI (rg (sr d + i))), .ref s0]) ⟨hx, hb, hml, hown, hts⟩ (c_X1_siteAfter l dC dI m0 s0 g0 ra sa oa ma cI cc rc rg sr d i (by omega) (by omega) (by omega) (by omega)) (cwV 2 hts gX1_holds_X1_siteAfter rfl rfl rfl (by decide +kernel) ⟨Nat.le_of_ble_eq_true rfl, Nat.le_of_ble_eq_true rfl⟩) (q_pV hK hP [0, 1, 2] [0] 1 0 rfl rfl rfl rfl rfl rfl) rfl hl.1 rfl (Nat.le_of_ble_eq_true rfl) ⟨Nat.zero_le _, Nat.zero_le _⟩ dX1_holds_32 ?_
        refine lv_iload_n hx hb dX1_holds_35 rfl (lv_at hl 2 rfl) ?_
        refine lv_iload_n hx hb dX1_holds_36 rfl (lv_at hl 3 rfl) ?_
        refine q_cV (As := [.int (nI (rg (sr d + i))), .int (nI (j_after rg sr d i)), .int px, .int py]) (rest := []) ⟨hx, hb, hml, hown, hts⟩ (c_X2_turn l dC dI s0 xa ya cI x y sz (rg (sr d + i)) (j_after rg sr d i) px py (lr _) (lr _)) (cwV 4 hts gX1_holds_X2_turn rfl rfl rfl (by decide +kernel) ⟨Nat.le_of_ble_eq_true rfl, Nat.le_of_ble_eq_true rfl⟩) (q_pV hK hP [3, 4, 5] [0] 2 3 rfl rfl rfl rfl rfl rfl) rfl hl.1 rfl (Nat.le_of_ble_eq_true rfl) ⟨Nat.zero_le _, Nat.zero_le _⟩ dX1_holds_37 ?_
        refine lv_if_ge (tgt := 45) hx hb dX1_holds_40 (by decide) (fun c40 => ?_) (fun c40 => ?_)
        · rw [if_pos c40] at hF
          refine lv_iinc (v := nI (i + 1)) (lv' := [(5, .int (nI (i + 1))), (0, .ref m0), (1, .int (nI d)), (2, .int px), (3, .int py), (4, .int (nI (sr (d + 1) - sr d)))]) hx hb dX1_holds_45 hl (k := 5) rfl (by rw [show Int32.ofInt 1 = 1 from rfl]; exact nI_1 _) (by decide) rfl (fun ls hl => ?_)
          refine lv_goto (tgt := 10) hx hb dX1_holds_48 (by decide) ?_
          exact ih_loop (i + 1) R ls (by omega) (by omega) hF (lv_sub hl [1, 2, 3, 4, 5, 0] rfl)
        · rw [if_neg c40] at hF
          subst hF
          refine lv_iconst (v := bI false) hx hb dX1_holds_43 (by decide) ?_
          exact W.zret (v := bI false) hx hb hr (bI_nar _) q_ret (fun _ h => nomatch h) dX1_holds_44
  exact loop (sr (d + 1) - sr d + 1) 0 _ ls (by omega) (by omega) rfl (lv_sub hl [2, 3, 4, 5, 1, 0] rfl)
set_option maxHeartbeats 4000000 in
set_option maxRecDepth 100000 in
theorem c_X1_firstWith (l : Launch) (dC : Nat → ClassId) (dI : Nat → Nat → Nat) (m0 s0 g0 ra sa oa ma : Nat) (cI : ClassId) (xa ya : Nat) (sz rc : Int32) (x y : Nat → Int32) (rg sr : Nat → Nat) (n : Nat) (px py : Int32) (ln : n ≤ 35) (lm : ∀ d, d < n → sr d < sr (d + 1) ∧ sr (d + 1) ≤ 105) (lr : ∀ j, rg j < 20) : Met l yX1_firstWith wsX1_firstWith ({ frames := 3, cells := 0, slots := 0, locals := 69 }) (q_Pc (dC, dI) [.ref m0, .int px, .int py] [(m0, .inr (1, [.ref s0, .ref g0, .ref ra, .ref sa, .ref oa, .int (nI n), .ref ma, .int rc])), (ra, .inl (cI, 105, .inl (fun j9 => nI (rg j9)))), (sa, .inl (cI, 36, .inl (fun j9 => nI (sr j9)))), (s0, .inr (2, [.ref xa, .ref ya, .int sz])), (xa, .inl (cI, 20, .inl x)), (ya, .inl (cI, 20, .inl y))] [(cI, .int)]) (k2_QcV (.int (j_first x y rg sr n px py 0))) 0 0 (fun _ => False) := by
  refine Met.ofW (cc := cX1_firstWith) (maxL := 4) (ret := (some .int)) (by decide) rfl ?_
  intro p e s m args below meth c s₁ B hml hv
  obtain ⟨rfl, hP, hK⟩ := hv
  have hx := B.exec
  have hb := B.bytes
  have hr := B.returns
  have hts := atoms_spec (ws := wsX1_firstWith) B.pre
  have hown : s.vm.findClass RX1 = some m.cls := findClass_of_methodNamed B.named
  have hlocks := B.notSynchronized
  have hP : va_P (dC, dI) vwCl [(m0, .inr (1, [.ref s0, .ref g0, .ref ra, .ref sa, .ref oa, .int (nI n), .ref ma, .int rc])), (ra, .inl (cI, 105, .inl (fun j9 => nI (rg j9)))), (sa, .inl (cI, 36, .inl (fun j9 => nI (sr j9)))), (s0, .inr (2, [.ref xa, .ref ya, .int sz])), (xa, .inl (cI, 20, .inl x)), (ya, .inl (cI, 20, .inl y))] s.heap := hP
  have hl := lv_entry ([.ref m0, .int px, .int py]) (n := 4) (Nat.le_of_ble_eq_true rfl)
  rw [lg_entry_eq]
  generalize (lg_sl ([.ref m0, .int px, .int py]) ++ List.replicate (4 - (lg_sl ([.ref m0, .int px, .int py])).length) Slot.unset).toArray = ls at hl ⊢
  have hl : lv_has ls 4 [(0, .ref m0), (1, .int px), (2, .int py)] := hl
  refine lv_iconst (v := nI 0) hx hb dX1_firstWith_0 (by decide) ?_
  refine lv_istore_n (lv' := [(3, .int (nI 0)), (0, .ref m0), (1, .int px), (2, .int py)]) hx hb dX1_firstWith_1 rfl hl (by decide) rfl (fun ls hl => ?_)
  have loop : ∀ (f : Nat) (k : Nat) (R : Int32) (ls : Array Slot), (k ≤ n) → (n + 1 ≤ k + f) → j_first x y rg sr n px py k = R → lv_has ls 4 [(0, .ref m0), (1, .int px), (2, .int py), (3, .int (nI k))] → W p l e (headSpec wsX1_firstWith ({ frames := 3, cells := 0, slots := 0, locals := 69 })).room s m ([.ref m0, .int px, .int py] : List Value).toArray below meth c s.heap [] 0 0 (MQ below (k2_QcV (.int R)) ([.ref m0, .int px, .int py] : List Value).toArray s 0 0 (fun _ => False)) (F0 m 2 ls []) := by
    intro f
    induction f with
    | zero =>
      intro k R ls h1 h2
      omega
    | succ f ih_loop =>
      intro k R ls h1 h2 hF hl
      refine lv_iload_n hx hb dX1_firstWith_2 rfl (lv_at hl 3 rfl) ?_
      refine lv_aload_n hx hb dX1_firstWith_3 rfl (lv_at hl 0 rfl) ?_
      refine va_get (D := (dC, dI)) (ci := 1) (v := .int (nI n)) (C := RX1) (T := TX1) (N := 8) hx hb hts (by decide +kernel) hown hK hP 0 rfl rfl 5 (by decide) (hts (.fieldLink RX1 28 "CircleCells$Mosaic" "cellCount" "I") (by decide +kernel)) (fun _ h9 => h9) rfl dX1_firstWith_4 ?_
      refine q_icmp_ge (tgt := 28) (by omega) (by omega) hx hb dX1_firstWith_7 (by decide) (fun c7 => ?_) (fun c7 => ?_)
      · rw [j_first, if_neg (by omega)] at hF
        subst hF
        refine lv_iconst (v := (-1)) hx hb dX1_firstWith_28 (by decide) ?_
        exact W.iret (v := (-1)) hx hb hr q_ret (fun _ h => nomatch h) dX1_firstWith_29
      · rw [j_first, if_pos c7] at hF
        refine lv_aload_n hx hb dX1_firstWith_10 rfl (lv_at hl 0 rfl) ?_
        refine lv_iload_n hx hb dX1_firstWith_11 rfl (lv_at hl 3 rfl) ?_
        refine lv_iload_n hx hb dX1_firstWith_12 rfl (lv_at hl 1 rfl) ?_
        refine lv_iload_n hx hb dX1_firstWith_13 rfl (lv_at hl 2 rfl) ?_
        refine q_cV (As := [.int (nI k), .int px, .int py]) (rest := []) ⟨hx, hb, hml, hown, hts⟩ (c_X1_holds l dC dI m0 s0 g0 ra sa oa ma cI xa ya sz (nI n) rc x y rg sr k px py (by omega) (lm k c7).1 (lm k c7).2 lr) (cwV 3 hts gX1_firstWith_X1_holds rfl rfl rfl (by decide +kernel) ⟨Nat.le_of_ble_eq_true rfl, Nat.le_of_ble_eq_true rfl⟩) (q_pV hK hP [0, 1, 2, 3, 4, 5] [0] 1 0 rfl rfl rfl rfl rfl rfl) rfl hl.1 rfl (Nat.le_of_ble_eq_true rfl) ⟨Nat.zero_le _, Nat.zero_le _⟩ dX1_firstWith_14 ?_
        refine q_ifb_eq (tgt := 22) hx hb dX1_firstWith_17 (by decide) (fun c17 => ?_) (fun c17 => ?_)
        · rw [if_pos c17] at hF
          refine lv_iinc (v := nI (k + 1)) (lv' := [(3, .int (nI (k + 1))), (0, .ref m0), (1, .int px), (2, .int py)]) hx hb dX1_firstWith_22 hl (k := 3) rfl (by rw [show Int32.ofInt 1 = 1 from rfl]; exact nI_1 _) (by decide) rfl (fun ls hl => ?_)
          refine lv_goto (tgt := 2) hx hb dX1_firstWith_25 (by decide) ?_
          exact ih_loop (k + 1) R ls (by omega) (by omega) hF (lv_sub hl [1, 2, 3, 0] rfl)
        · rw [if_neg (by rw [c17]; decide)] at hF
          subst hF
          refine lv_iload_n hx hb dX1_firstWith_20 rfl (lv_at hl 3 rfl) ?_
          exact W.iret (v := nI k) hx hb hr q_ret (fun _ h => nomatch h) dX1_firstWith_21
  exact loop (n + 1) 0 _ ls (by omega) (by omega) rfl (lv_sub hl [1, 2, 3, 0] rfl)
set_option maxHeartbeats 4000000 in
set_option maxRecDepth 100000 in
theorem c_X1_nextOnRim (l : Launch) (dC : Nat → ClassId) (dI : Nat → Nat → Nat) (m0 s0 g0 ra sa oa ma : Nat) (cI : ClassId) (xa ya : Nat) (cc rc : Int32) (x y : Nat → Int32) (ow : Nat → Int32) (n a : Nat) (ln : n ≤ 20) (la : a < 20) : Met l yX1_nextOnRim wsX1_nextOnRim ({ frames := 1, cells := 0, slots := 0, locals := 21 }) (q_Pc (dC, dI) [.ref m0, .int (nI a)] [(m0, .inr (1, [.ref s0, .ref g0, .ref ra, .ref sa, .ref oa, .int cc, .ref ma, .int rc])), (oa, .inl (cI, 400, .inl ow)), (s0, .inr (2, [.ref xa, .ref ya, .int (nI n)]))] [(cI, .int)]) (k2_QcV (.int (j_next ow n a 0))) 0 0 (fun _ => False) := by
  refine Met.ofW (cc := cX1_nextOnRim) (maxL := 3) (ret := (some .int)) (by decide) rfl ?_
  intro p e s m args below meth c s₁ B hml hv
  obtain ⟨rfl, hP, hK⟩ := hv
  have hx := B.exec
  have hb := B.bytes
  have hr := B.returns
  have hts := atoms_spec (ws := wsX1_nextOnRim) B.pre
  have hown : s.vm.findClass RX1 = some m.cls := findClass_of_methodNamed B.named
  have hlocks := B.notSynchronized
  have hP : va_P (dC, dI) vwCl [(m0, .inr (1, [.ref s0, .ref g0, .ref ra, .ref sa, .ref oa, .int cc, .ref ma, .int rc])), (oa, .inl (cI, 400, .inl ow)), (s0, .inr (2, [.ref xa, .ref ya, .int (nI n)]))] s.heap := hP
  have hl := lv_entry ([.ref m0, .int (nI a)]) (n := 3) (Nat.le_of_ble_eq_true rfl)
  rw [lg_entry_eq]
  generalize (lg_sl ([.ref m0, .int (nI a)]) ++ List.replicate (3 - (lg_sl ([.ref m0, .int (nI a)])).length) Slot.unset).toArray = ls at hl ⊢
  have hl : lv_has ls 3 [(0, .ref m0), (1, .int (nI a))] := hl
  refine lv_iconst (v := nI 0) hx hb dX1_nextOnRim_0 (by decide) ?_
  refine lv_istore_n (lv' := [(2, .int (nI 0)), (0, .ref m0), (1, .int (nI a))]) hx hb dX1_nextOnRim_1 rfl hl (by decide) rfl (fun ls hl => ?_)
  have loop : ∀ (f : Nat) (k : Nat) (R : Int32) (ls : Array Slot), (k ≤ n) → (n + 1 ≤ k + f) → j_next ow n a k = R → lv_has ls 3 [(0, .ref m0), (1, .int (nI a)), (2, .int (nI k))] → W p l e (headSpec wsX1_nextOnRim ({ frames := 1, cells := 0, slots := 0, locals := 21 })).room s m ([.ref m0, .int (nI a)] : List Value).toArray below meth c s.heap [] 0 0 (MQ below (k2_QcV (.int R)) ([.ref m0, .int (nI a)] : List Value).toArray s 0 0 (fun _ => False)) (F0 m 2 ls []) := by
    intro f
    induction f with
    | zero =>
      intro k R ls h1 h2
      omega
    | succ f ih_loop =>
      intro k R ls h1 h2 hF hl
      refine lv_iload_n hx hb dX1_nextOnRim_2 rfl (lv_at hl 2 rfl) ?_
      refine lv_aload_n hx hb dX1_nextOnRim_3 rfl (lv_at hl 0 rfl) ?_
      refine va_get (D := (dC, dI)) (ci := 1) (v := .ref s0) (C := RX1) (T := TX1) (N := 8) hx hb hts (by decide +kernel) hown hK hP 0 rfl rfl 0 (by decide) (hts (.fieldLink RX1 38 "CircleCells$Mosaic" "sites" "LCircleCells$Sites;") (by decide +kernel)) (fun _ h9 => h9) rfl dX1_nextOnRim_4 ?_
      refine va_get (D := (dC, dI)) (ci := 2) (v := .int (nI n)) (C := RX2) (T := TX2) (N := 3) hx hb hts (by decide +kernel) hown hK hP 2 rfl rfl 2 (by decide) (hts (.fieldLink RX1 48 "CircleCells$Sites" "size" "I") (by decide +kernel)) (fun _ h9 => h9) rfl dX1_nextOnRim_7 ?_
      refine q_icmp_ge (tgt := 49) (by omega) (by omega) hx hb dX1_nextOnRim_10 (by decide) (fun c10 => ?_) (fun c10 => ?_)
      · rw [j_next, if_neg (by omega)] at hF
        subst hF
        refine lv_iconst (v := (-1)) hx hb dX1_nextOnRim_49 (by decide) ?_
        exact W.iret (v := (-1)) hx hb hr q_ret (fun _ h => nomatch h) dX1_nextOnRim_50
      · rw [j_next, if_pos c10] at hF
        refine lv_aload_n hx hb dX1_nextOnRim_13 rfl (lv_at hl 0 rfl) ?_
        refine va_get (D := (dC, dI)) (ci := 1) (v := .ref oa) (C := RX1) (T := TX1) (N := 8) hx hb hts (by decide +kernel) hown hK hP 0 rfl rfl 4 (by decide) (hts (.fieldLink RX1 25 "CircleCells$Mosaic" "owner" "[I") (by decide +kernel)) (fun _ h9 => h9) rfl dX1_nextOnRim_14 ?_
        refine lv_iload_n hx hb dX1_nextOnRim_17 rfl (lv_at hl 1 rfl) ?_
        refine lv_iload_n hx hb dX1_nextOnRim_18 rfl (lv_at hl 2 rfl) ?_
        refine q_cS (As := [.int (nI a), .int (nI k)]) (rest := [.ref oa]) ⟨hx, hb, hml, hown, hts⟩ (c_X1_sideKey l dC dI a k) (va_cwS 2 hts gX1_nextOnRim_X1_sideKey rfl rfl rfl (by decide +kernel) ⟨Nat.le_of_ble_eq_true rfl, Nat.le_of_ble_eq_true rfl⟩) (q_pS hK hP [] [] rfl rfl rfl) rfl hl.1 rfl (Nat.le_of_ble_eq_true rfl) ⟨Nat.zero_le _, Nat.zero_le _⟩ dX1_nextOnRim_19 ?_
        refine q_iald hx hb hK hP 1 0 rfl rfl (a * 20 + k) rfl (by omega) (by decide) dX1_nextOnRim_22 ?_
        refine lv_iconst (v := (-1)) hx hb dX1_nextOnRim_23 (by decide) ?_
        refine lv_icmp_eq (tgt := 43) hx hb dX1_nextOnRim_24 (by decide) (fun c24 => ?_) (fun c24 => ?_)
        · rw [if_pos c24] at hF
          refine lv_iinc (v := nI (k + 1)) (lv' := [(2, .int (nI (k + 1))), (0, .ref m0), (1, .int (nI a))]) hx hb dX1_nextOnRim_43 hl (k := 2) rfl (by rw [show Int32.ofInt 1 = 1 from rfl]; exact nI_1 _) (by decide) rfl (fun ls hl => ?_)
          refine lv_goto (tgt := 2) hx hb dX1_nextOnRim_46 (by decide) ?_
          exact ih_loop (k + 1) R ls (by omega) (by omega) hF (lv_sub hl [1, 2, 0] rfl)
        · rw [if_neg c24] at hF
          refine lv_aload_n hx hb dX1_nextOnRim_27 rfl (lv_at hl 0 rfl) ?_
          refine va_get (D := (dC, dI)) (ci := 1) (v := .ref oa) (C := RX1) (T := TX1) (N := 8) hx hb hts (by decide +kernel) hown hK hP 0 rfl rfl 4 (by decide) (hts (.fieldLink RX1 25 "CircleCells$Mosaic" "owner" "[I") (by decide +kernel)) (fun _ h9 => h9) rfl dX1_nextOnRim_28 ?_
          refine lv_iload_n hx hb dX1_nextOnRim_31 rfl (lv_at hl 2 rfl) ?_
          refine lv_iload_n hx hb dX1_nextOnRim_32 rfl (lv_at hl 1 rfl) ?_
          refine q_cS (As := [.int (nI k), .int (nI a)]) (rest := [.ref oa]) ⟨hx, hb, hml, hown, hts⟩ (c_X1_sideKey l dC dI k a) (va_cwS 2 hts gX1_nextOnRim_X1_sideKey rfl rfl rfl (by decide +kernel) ⟨Nat.le_of_ble_eq_true rfl, Nat.le_of_ble_eq_true rfl⟩) (q_pS hK hP [] [] rfl rfl rfl) rfl hl.1 rfl (Nat.le_of_ble_eq_true rfl) ⟨Nat.zero_le _, Nat.zero_le _⟩ dX1_nextOnRim_33 ?_
          refine q_iald hx hb hK hP 1 0 rfl rfl (k * 20 + a) rfl (by omega) (by decide) dX1_nextOnRim_36 ?_
          refine lv_iconst (v := (-1)) hx hb dX1_nextOnRim_37 (by decide) ?_
          refine lv_icmp_ne (tgt := 43) hx hb dX1_nextOnRim_38 (by decide) (fun c38 => ?_) (fun c38 => ?_)
          · rw [if_neg c38] at hF
            refine lv_iinc (v := nI (k + 1)) (lv' := [(2, .int (nI (k + 1))), (0, .ref m0), (1, .int (nI a))]) hx hb dX1_nextOnRim_43 hl (k := 2) rfl (by rw [show Int32.ofInt 1 = 1 from rfl]; exact nI_1 _) (by decide) rfl (fun ls hl => ?_)
            refine lv_goto (tgt := 2) hx hb dX1_nextOnRim_46 (by decide) ?_
            exact ih_loop (k + 1) R ls (by omega) (by omega) hF (lv_sub hl [1, 2, 0] rfl)
          · rw [if_pos c38] at hF
            subst hF
            refine lv_iload_n hx hb dX1_nextOnRim_41 rfl (lv_at hl 2 rfl) ?_
            exact W.iret (v := nI k) hx hb hr q_ret (fun _ h => nomatch h) dX1_nextOnRim_42
  exact loop (n + 1) 0 _ ls (by omega) (by omega) rfl (lv_sub hl [1, 2, 0] rfl)
set_option maxHeartbeats 4000000 in
set_option maxRecDepth 100000 in
theorem c_X1_firstOnRim (l : Launch) (dC : Nat → ClassId) (dI : Nat → Nat → Nat) (m0 s0 g0 ra sa oa ma : Nat) (cI : ClassId) (xa ya : Nat) (cc rc : Int32) (x y : Nat → Int32) (ow : Nat → Int32) (n : Nat) (ln : n ≤ 20) : Met l yX1_firstOnRim wsX1_firstOnRim ({ frames := 2, cells := 0, slots := 0, locals := 43 }) (q_Pc (dC, dI) [.ref m0] [(m0, .inr (1, [.ref s0, .ref g0, .ref ra, .ref sa, .ref oa, .int cc, .ref ma, .int rc])), (oa, .inl (cI, 400, .inl ow)), (s0, .inr (2, [.ref xa, .ref ya, .int (nI n)]))] [(cI, .int)]) (k2_QcV (.int (j_frim ow n 0))) 0 0 (fun _ => False) := by
  refine Met.ofW (cc := cX1_firstOnRim) (maxL := 2) (ret := (some .int)) (by decide) rfl ?_
  intro p e s m args below meth c s₁ B hml hv
  obtain ⟨rfl, hP, hK⟩ := hv
  have hx := B.exec
  have hb := B.bytes
  have hr := B.returns
  have hts := atoms_spec (ws := wsX1_firstOnRim) B.pre
  have hown : s.vm.findClass RX1 = some m.cls := findClass_of_methodNamed B.named
  have hlocks := B.notSynchronized
  have hP : va_P (dC, dI) vwCl [(m0, .inr (1, [.ref s0, .ref g0, .ref ra, .ref sa, .ref oa, .int cc, .ref ma, .int rc])), (oa, .inl (cI, 400, .inl ow)), (s0, .inr (2, [.ref xa, .ref ya, .int (nI n)]))] s.heap := hP
  have hl := lv_entry ([.ref m0]) (n := 2) (Nat.le_of_ble_eq_true rfl)
  rw [lg_entry_eq]
  generalize (lg_sl ([.ref m0]) ++ List.replicate (2 - (lg_sl ([.ref m0])).length) Slot.unset).toArray = ls at hl ⊢
  have hl : lv_has ls 2 [(0, .ref m0)] := hl
  refine lv_iconst (v := nI 0) hx hb dX1_firstOnRim_0 (by decide) ?_
  refine lv_istore_n (lv' := [(1, .int (nI 0)), (0, .ref m0)]) hx hb dX1_firstOnRim_1 rfl hl (by decide) rfl (fun ls hl => ?_)
  have loop : ∀ (f : Nat) (k : Nat) (R : Int32) (ls : Array Slot), (k ≤ n) → (n + 1 ≤ k + f) → j_frim ow n k = R → lv_has ls 2 [(0, .ref m0), (1, .int (nI k))] → W p l e (headSpec wsX1_firstOnRim ({ frames := 2, cells := 0, slots := 0, locals := 43 })).room s m ([.ref m0] : List Value).toArray below meth c s.heap [] 0 0 (MQ below (k2_QcV (.int R)) ([.ref m0] : List Value).toArray s 0 0 (fun _ => False)) (F0 m 2 ls []) := by
    intro f
    induction f with
    | zero =>
      intro k R ls h1 h2
      omega
    | succ f ih_loop =>
      intro k R ls h1 h2 hF hl
      refine lv_iload_n hx hb dX1_firstOnRim_2 rfl (lv_at hl 1 rfl) ?_
      refine lv_aload_n hx hb dX1_firstOnRim_3 rfl (lv_at hl 0 rfl) ?_
      refine va_get (D := (dC, dI)) (ci := 1) (v := .ref s0) (C := RX1) (T := TX1) (N := 8) hx hb hts (by decide +kernel) hown hK hP 0 rfl rfl 0 (by decide) (hts (.fieldLink RX1 38 "CircleCells$Mosaic" "sites" "LCircleCells$Sites;") (by decide +kernel)) (fun _ h9 => h9) rfl dX1_firstOnRim_4 ?_
      refine va_get (D := (dC, dI)) (ci := 2) (v := .int (nI n)) (C := RX2) (T := TX2) (N := 3) hx hb hts (by decide +kernel) hown hK hP 2 rfl rfl 2 (by decide) (hts (.fieldLink RX1 48 "CircleCells$Sites" "size" "I") (by decide +kernel)) (fun _ h9 => h9) rfl dX1_firstOnRim_7 ?_
      refine q_icmp_ge (tgt := 30) (by omega) (by omega) hx hb dX1_firstOnRim_10 (by decide) (fun c10 => ?_) (fun c10 => ?_)
      · rw [j_frim, if_neg (by omega)] at hF
        subst hF
        refine lv_iconst (v := (-1)) hx hb dX1_firstOnRim_30 (by decide) ?_
        exact W.iret (v := (-1)) hx hb hr q_ret (fun _ h => nomatch h) dX1_firstOnRim_31
      · rw [j_frim, if_pos c10] at hF
        refine lv_aload_n hx hb dX1_firstOnRim_13 rfl (lv_at hl 0 rfl) ?_
        refine lv_iload_n hx hb dX1_firstOnRim_14 rfl (lv_at hl 1 rfl) ?_
        refine q_cV (As := [.int (nI k)]) (rest := []) ⟨hx, hb, hml, hown, hts⟩ (c_X1_nextOnRim l dC dI m0 s0 g0 ra sa oa ma cI xa ya cc rc x y ow n k (by omega) (by omega)) (cwV 1 hts gX1_firstOnRim_X1_nextOnRim rfl rfl rfl (by decide +kernel) ⟨Nat.le_of_ble_eq_true rfl, Nat.le_of_ble_eq_true rfl⟩) (q_pV hK hP [0, 1, 2] [0] 1 0 rfl rfl rfl rfl rfl rfl) rfl hl.1 rfl (Nat.le_of_ble_eq_true rfl) ⟨Nat.zero_le _, Nat.zero_le _⟩ dX1_firstOnRim_15 ?_
        refine lv_iconst (v := (-1)) hx hb dX1_firstOnRim_18 (by decide) ?_
        refine lv_icmp_eq (tgt := 24) hx hb dX1_firstOnRim_19 (by decide) (fun c19 => ?_) (fun c19 => ?_)
        · rw [if_pos c19] at hF
          refine lv_iinc (v := nI (k + 1)) (lv' := [(1, .int (nI (k + 1))), (0, .ref m0)]) hx hb dX1_firstOnRim_24 hl (k := 1) rfl (by rw [show Int32.ofInt 1 = 1 from rfl]; exact nI_1 _) (by decide) rfl (fun ls hl => ?_)
          refine lv_goto (tgt := 2) hx hb dX1_firstOnRim_27 (by decide) ?_
          exact ih_loop (k + 1) R ls (by omega) (by omega) hF (lv_sub hl [1, 0] rfl)
        · rw [if_neg c19] at hF
          subst hF
          refine lv_iload_n hx hb dX1_firstOnRim_22 rfl (lv_at hl 1 rfl) ?_
          exact W.iret (v := nI k) hx hb hr q_ret (fun _ h => nomatch h) dX1_firstOnRim_23
  exact loop (n + 1) 0 _ ls (by omega) (by omega) rfl (lv_sub hl [1, 0] rfl)
set_option maxHeartbeats 4000000 in
set_option maxRecDepth 100000 in
theorem c_X1_powerOf (l : Launch) (dC : Nat → ClassId) (dI : Nat → Nat → Nat) (m0 s0 g0 ra sa oa ma : Nat) (cI : ClassId) (xa ya : Nat) (sz cc rc : Int32) (x y : Nat → Int32) (fx fy : Int32) (ax ay sp : Int64) (k : Nat) (lk : k < 20) : Met l yX1_powerOf wsX1_powerOf ({ frames := 1, cells := 0, slots := 0, locals := 26 }) (q_Pc (dC, dI) [.ref m0, .int (nI k)] [(m0, .inr (1, [.ref s0, .ref g0, .ref ra, .ref sa, .ref oa, .int cc, .ref ma, .int rc])), (g0, .inr (0, [.int fx, .int fy, .long ax, .long ay, .long sp])), (s0, .inr (2, [.ref xa, .ref ya, .int sz])), (xa, .inl (cI, 20, .inl x)), (ya, .inl (cI, 20, .inl y))] [(cI, .int)]) (k2_QcV (.long (j_pow fx fy ax ay sp (x k) (y k)))) 0 0 (fun _ => False) := by
  refine Met.ofW (cc := cX1_powerOf) (maxL := 2) (ret := (some .long)) (by decide) rfl ?_
  intro p e s m args below meth c s₁ B hml hv
  obtain ⟨rfl, hP, hK⟩ := hv
  have hx := B.exec
  have hb := B.bytes
  have hr := B.returns
  have hts := atoms_spec (ws := wsX1_powerOf) B.pre
  have hown : s.vm.findClass RX1 = some m.cls := findClass_of_methodNamed B.named
  have hlocks := B.notSynchronized
  have hP : va_P (dC, dI) vwCl [(m0, .inr (1, [.ref s0, .ref g0, .ref ra, .ref sa, .ref oa, .int cc, .ref ma, .int rc])), (g0, .inr (0, [.int fx, .int fy, .long ax, .long ay, .long sp])), (s0, .inr (2, [.ref xa, .ref ya, .int sz])), (xa, .inl (cI, 20, .inl x)), (ya, .inl (cI, 20, .inl y))] s.heap := hP
  have hl := lv_entry ([.ref m0, .int (nI k)]) (n := 2) (Nat.le_of_ble_eq_true rfl)
  rw [lg_entry_eq]
  generalize (lg_sl ([.ref m0, .int (nI k)]) ++ List.replicate (2 - (lg_sl ([.ref m0, .int (nI k)])).length) Slot.unset).toArray = ls at hl ⊢
  have hl : lv_has ls 2 [(0, .ref m0), (1, .int (nI k))] := hl
  refine lv_aload_n hx hb dX1_powerOf_0 rfl (lv_at hl 0 rfl) ?_
  refine va_get (D := (dC, dI)) (ci := 1) (v := .ref g0) (C := RX1) (T := TX1) (N := 8) hx hb hts (by decide +kernel) hown hK hP 0 rfl rfl 1 (by decide) (hts (.fieldLink RX1 12 "CircleCells$Mosaic" "circle" "LCircleCells$Circle;") (by decide +kernel)) (fun _ h9 => h9) rfl dX1_powerOf_1 ?_
  refine lv_aload_n hx hb dX1_powerOf_4 rfl (lv_at hl 0 rfl) ?_
  refine va_get (D := (dC, dI)) (ci := 1) (v := .ref s0) (C := RX1) (T := TX1) (N := 8) hx hb hts (by decide +kernel) hown hK hP 0 rfl rfl 0 (by decide) (hts (.fieldLink RX1 38 "CircleCells$Mosaic" "sites" "LCircleCells$Sites;") (by decide +kernel)) (fun _ h9 => h9) rfl dX1_powerOf_5 ?_
  refine va_get (D := (dC, dI)) (ci := 2) (v := .ref xa) (C := RX2) (T := TX2) (N := 3) hx hb hts (by decide +kernel) hown hK hP 2 rfl rfl 0 (by decide) (hts (.fieldLink RX1 79 "CircleCells$Sites" "x" "[I") (by decide +kernel)) (fun _ h9 => h9) rfl dX1_powerOf_8 ?_
  refine lv_iload_n hx hb dX1_powerOf_11 rfl (lv_at hl 1 rfl) ?_
  refine q_iald hx hb hK hP 3 0 rfl rfl (k) rfl (by omega) (by decide) dX1_powerOf_12 ?_
  refine lv_aload_n hx hb dX1_powerOf_13 rfl (lv_at hl 0 rfl) ?_
  refine va_get (D := (dC, dI)) (ci := 1) (v := .ref s0) (C := RX1) (T := TX1) (N := 8) hx hb hts (by decide +kernel) hown hK hP 0 rfl rfl 0 (by decide) (hts (.fieldLink RX1 38 "CircleCells$Mosaic" "sites" "LCircleCells$Sites;") (by decide +kernel)) (fun _ h9 => h9) rfl dX1_powerOf_14 ?_
  refine va_get (D := (dC, dI)) (ci := 2) (v := .ref ya) (C := RX2) (T := TX2) (N := 3) hx hb hts (by decide +kernel) hown hK hP 2 rfl rfl 1 (by decide) (hts (.fieldLink RX1 82 "CircleCells$Sites" "y" "[I") (by decide +kernel)) (fun _ h9 => h9) rfl dX1_powerOf_17 ?_
  refine lv_iload_n hx hb dX1_powerOf_20 rfl (lv_at hl 1 rfl) ?_
  refine q_iald hx hb hK hP 4 0 rfl rfl (k) rfl (by omega) (by decide) dX1_powerOf_21 ?_
  refine q_cV (As := [.int (x k), .int (y k)]) (rest := []) ⟨hx, hb, hml, hown, hts⟩ (c_X0_power l dC dI g0 fx fy ax ay sp (x k) (y k)) (cwV 2 hts gX1_powerOf_X0_power rfl rfl rfl (by decide +kernel) ⟨Nat.le_of_ble_eq_true rfl, Nat.le_of_ble_eq_true rfl⟩) (q_pV hK hP [1] [] 0 1 rfl rfl rfl rfl rfl rfl) rfl hl.1 rfl (Nat.le_of_ble_eq_true rfl) ⟨Nat.zero_le _, Nat.zero_le _⟩ dX1_powerOf_22 ?_
  exact W.lret (v := j_pow fx fy ax ay sp (x k) (y k)) hx hb hr q_ret (fun _ h => nomatch h) dX1_powerOf_25
set_option maxHeartbeats 4000000 in
set_option maxRecDepth 100000 in
theorem c_X1_beginsCell (l : Launch) (dC : Nat → ClassId) (dI : Nat → Nat → Nat) (m0 s0 g0 ra sa oa ma : Nat) (cI : ClassId) (xa ya : Nat) (cc rc : Int32) (x y : Nat → Int32) (fx fy : Int32) (ax ay sp : Int64) (n a b : Nat) (ln : n ≤ 20) (la : a < n) (lb : b < n) : Met l yX1_beginsCell wsX1_beginsCell ({ frames := 2, cells := 0, slots := 0, locals := 47 }) (q_Pc (dC, dI) [.ref m0, .int (nI a), .int (nI b)] [(m0, .inr (1, [.ref s0, .ref g0, .ref ra, .ref sa, .ref oa, .int cc, .ref ma, .int rc])), (g0, .inr (0, [.int fx, .int fy, .long ax, .long ay, .long sp])), (s0, .inr (2, [.ref xa, .ref ya, .int (nI n)])), (xa, .inl (cI, 20, .inl x)), (ya, .inl (cI, 20, .inl y))] [(cI, .int)]) (k2_QcV (.int (bI (j_begins x y fx fy ax ay sp n a b 0)))) 0 0 (fun _ => False) := by
  refine Met.ofW (cc := cX1_beginsCell) (maxL := 7) (ret := (some .boolean)) (by decide) rfl ?_
  intro p e s m args below meth c s₁ B hml hv
  obtain ⟨rfl, hP, hK⟩ := hv
  have hx := B.exec
  have hb := B.bytes
  have hr := B.returns
  have hts := atoms_spec (ws := wsX1_beginsCell) B.pre
  have hown : s.vm.findClass RX1 = some m.cls := findClass_of_methodNamed B.named
  have hlocks := B.notSynchronized
  have hP : va_P (dC, dI) vwCl [(m0, .inr (1, [.ref s0, .ref g0, .ref ra, .ref sa, .ref oa, .int cc, .ref ma, .int rc])), (g0, .inr (0, [.int fx, .int fy, .long ax, .long ay, .long sp])), (s0, .inr (2, [.ref xa, .ref ya, .int (nI n)])), (xa, .inl (cI, 20, .inl x)), (ya, .inl (cI, 20, .inl y))] s.heap := hP
  have hl := lv_entry ([.ref m0, .int (nI a), .int (nI b)]) (n := 7) (Nat.le_of_ble_eq_true rfl)
  rw [lg_entry_eq]
  generalize (lg_sl ([.ref m0, .int (nI a), .int (nI b)]) ++ List.replicate (7 - (lg_sl ([.ref m0, .int (nI a), .int (nI b)])).length) Slot.unset).toArray = ls at hl ⊢
  have hl : lv_has ls 7 [(0, .ref m0), (1, .int (nI a)), (2, .int (nI b))] := hl
  refine lv_iconst (v := nI 0) hx hb dX1_beginsCell_0 (by decide) ?_
  refine lv_istore_n (lv' := [(3, .int (nI 0)), (0, .ref m0), (1, .int (nI a)), (2, .int (nI b))]) hx hb dX1_beginsCell_1 rfl hl (by decide) rfl (fun ls hl => ?_)
  have loop : ∀ (f : Nat) (k : Nat) (R : Bool) (ls : Array Slot), (k ≤ n) → (n + 1 ≤ k + f) → j_begins x y fx fy ax ay sp n a b k = R → lv_has ls 7 [(0, .ref m0), (1, .int (nI a)), (2, .int (nI b)), (3, .int (nI k))] → W p l e (headSpec wsX1_beginsCell ({ frames := 2, cells := 0, slots := 0, locals := 47 })).room s m ([.ref m0, .int (nI a), .int (nI b)] : List Value).toArray below meth c s.heap [] 0 0 (MQ below (k2_QcV (.int (bI R))) ([.ref m0, .int (nI a), .int (nI b)] : List Value).toArray s 0 0 (fun _ => False)) (F0 m 2 ls []) := by
    intro f
    induction f with
    | zero =>
      intro k R ls h1 h2
      omega
    | succ f ih_loop =>
      intro k R ls h1 h2 hF hl
      refine lv_iload_n hx hb dX1_beginsCell_2 rfl (lv_at hl 3 rfl) ?_
      refine lv_aload_n hx hb dX1_beginsCell_3 rfl (lv_at hl 0 rfl) ?_
      refine va_get (D := (dC, dI)) (ci := 1) (v := .ref s0) (C := RX1) (T := TX1) (N := 8) hx hb hts (by decide +kernel) hown hK hP 0 rfl rfl 0 (by decide) (hts (.fieldLink RX1 38 "CircleCells$Mosaic" "sites" "LCircleCells$Sites;") (by decide +kernel)) (fun _ h9 => h9) rfl dX1_beginsCell_4 ?_
      refine va_get (D := (dC, dI)) (ci := 2) (v := .int (nI n)) (C := RX2) (T := TX2) (N := 3) hx hb hts (by decide +kernel) hown hK hP 2 rfl rfl 2 (by decide) (hts (.fieldLink RX1 48 "CircleCells$Sites" "size" "I") (by decide +kernel)) (fun _ h9 => h9) rfl dX1_beginsCell_7 ?_
      refine q_icmp_ge (tgt := 72) (by omega) (by omega) hx hb dX1_beginsCell_10 (by decide) (fun c10 => ?_) (fun c10 => ?_)
      · rw [j_begins, if_neg (by omega)] at hF
        subst hF
        refine lv_iconst (v := bI true) hx hb dX1_beginsCell_72 (by decide) ?_
        exact W.zret (v := bI true) hx hb hr (bI_nar _) q_ret (fun _ h => nomatch h) dX1_beginsCell_73
      · rw [j_begins, if_pos c10] at hF
        refine lv_aload_n hx hb dX1_beginsCell_13 rfl (lv_at hl 0 rfl) ?_
        refine lv_iload_n hx hb dX1_beginsCell_14 rfl (lv_at hl 3 rfl) ?_
        refine q_cV (As := [.int (nI k)]) (rest := []) ⟨hx, hb, hml, hown, hts⟩ (c_X1_powerOf l dC dI m0 s0 g0 ra sa oa ma cI xa ya (nI n) cc rc x y fx fy ax ay sp k (by omega)) (cwV 1 hts gX1_beginsCell_X1_powerOf rfl rfl rfl (by decide +kernel) ⟨Nat.le_of_ble_eq_true rfl, Nat.le_of_ble_eq_true rfl⟩) (q_pV hK hP [0, 1, 2, 3, 4] [0] 1 0 rfl rfl rfl rfl rfl rfl) rfl hl.1 rfl (Nat.le_of_ble_eq_true rfl) ⟨Nat.zero_le _, Nat.zero_le _⟩ dX1_beginsCell_15 ?_
        refine lv_lstore (lv' := [(4, .long (j_pow fx fy ax ay sp (x k) (y k))), (0, .ref m0), (1, .int (nI a)), (2, .int (nI b)), (3, .int (nI k))]) hx hb dX1_beginsCell_18 hl (by decide) rfl (fun ls hl => ?_)
        refine lv_iload_n hx hb dX1_beginsCell_20 rfl (lv_at hl 4 rfl) ?_
        refine lv_iload_n hx hb dX1_beginsCell_21 rfl (lv_at hl 2 rfl) ?_
        refine q_icmp_lt (tgt := 38) (by omega) (by omega) hx hb dX1_beginsCell_22 (by decide) (fun c22 => ?_) (fun c22 => ?_)
        · rw [if_pos c22] at hF
          refine lv_iconst (v := bI true) hx hb dX1_beginsCell_38 (by decide) ?_
          refine lv_goto (tgt := 43) hx hb dX1_beginsCell_39 (by decide) ?_
          refine lv_istore (lv' := [(6, .int (bI true)), (4, .long (j_pow fx fy ax ay sp (x k) (y k))), (0, .ref m0), (1, .int (nI a)), (2, .int (nI b)), (3, .int (nI k))]) hx hb dX1_beginsCell_43 hl (by decide) rfl (fun ls hl => ?_)
          refine lv_lload hx hb dX1_beginsCell_45 (lv_at hl 1 rfl) ?_
          refine lv_lconst (v := 0) hx hb dX1_beginsCell_47 (by decide) ?_
          refine q_lcmp_lt (tgt := 64) hx hb dX1_beginsCell_48 dX1_beginsCell_49 (by decide) (fun c49 => ?_) (fun c49 => ?_)
          · rw [j_bg, if_pos c49] at hF
            subst hF
            refine lv_iconst (v := bI false) hx hb dX1_beginsCell_64 (by decide) ?_
            exact W.zret (v := bI false) hx hb hr (bI_nar _) q_ret (fun _ h => nomatch h) dX1_beginsCell_65
          · rw [j_bg, if_neg c49] at hF
            refine lv_lload hx hb dX1_beginsCell_52 (lv_at hl 1 rfl) ?_
            refine lv_lconst (v := 0) hx hb dX1_beginsCell_54 (by decide) ?_
            refine q_lcmp_ne (tgt := 66) hx hb dX1_beginsCell_55 dX1_beginsCell_56 (by decide) (fun c56 => ?_) (fun c56 => ?_)
            · rw [if_pos c56] at hF
              refine lv_iinc (v := nI (k + 1)) (lv' := [(3, .int (nI (k + 1))), (6, .int (bI true)), (4, .long (j_pow fx fy ax ay sp (x k) (y k))), (0, .ref m0), (1, .int (nI a)), (2, .int (nI b))]) hx hb dX1_beginsCell_66 hl (k := 5) rfl (by rw [show Int32.ofInt 1 = 1 from rfl]; exact nI_1 _) (by decide) rfl (fun ls hl => ?_)
              refine lv_goto (tgt := 2) hx hb dX1_beginsCell_69 (by decide) ?_
              exact ih_loop (k + 1) R ls (by omega) (by omega) hF (lv_sub hl [3, 4, 5, 0] rfl)
            · rw [if_neg (fun h => h c56)] at hF
              refine lv_iload hx hb dX1_beginsCell_59 (lv_at hl 0 rfl) ?_
              refine q_ifb_eq (tgt := 66) hx hb dX1_beginsCell_61 (by decide) (fun c61 => ?_) (fun c61 => ?_)
              · exact absurd c61 (by decide)
              · rw [if_neg (by decide)] at hF
                subst hF
                refine lv_iconst (v := bI false) hx hb dX1_beginsCell_64 (by decide) ?_
                exact W.zret (v := bI false) hx hb hr (bI_nar _) q_ret (fun _ h => nomatch h) dX1_beginsCell_65
        · rw [if_neg (by omega)] at hF
          refine lv_aload_n hx hb dX1_beginsCell_25 rfl (lv_at hl 1 rfl) ?_
          refine va_get (D := (dC, dI)) (ci := 1) (v := .ref s0) (C := RX1) (T := TX1) (N := 8) hx hb hts (by decide +kernel) hown hK hP 0 rfl rfl 0 (by decide) (hts (.fieldLink RX1 38 "CircleCells$Mosaic" "sites" "LCircleCells$Sites;") (by decide +kernel)) (fun _ h9 => h9) rfl dX1_beginsCell_26 ?_
          refine lv_iload_n hx hb dX1_beginsCell_29 rfl (lv_at hl 2 rfl) ?_
          refine lv_iload_n hx hb dX1_beginsCell_30 rfl (lv_at hl 3 rfl) ?_
          refine lv_iload_n hx hb dX1_beginsCell_31 rfl (lv_at hl 4 rfl) ?_
          refine q_cV (As := [.int (nI a), .int (nI b), .int (nI k)]) (rest := []) ⟨hx, hb, hml, hown, hts⟩ (c_X2_turn_ l dC dI s0 xa ya cI x y (nI n) a b k (by omega) (by omega) (by omega)) (cwV 3 hts gX1_beginsCell_X2_turn_ rfl rfl rfl (by decide +kernel) ⟨Nat.le_of_ble_eq_true rfl, Nat.le_of_ble_eq_true rfl⟩) (q_pV hK hP [2, 3, 4] [0] 2 2 rfl rfl rfl rfl rfl rfl) rfl hl.1 rfl (Nat.le_of_ble_eq_true rfl) ⟨Nat.zero_le _, Nat.zero_le _⟩ dX1_beginsCell_32 ?_
          refine lv_if_ge (tgt := 42) hx hb dX1_beginsCell_35 (by decide) (fun c35 => ?_) (fun c35 => ?_)
          · rw [if_pos c35] at hF
            refine lv_iconst (v := bI false) hx hb dX1_beginsCell_42 (by decide) ?_
            refine lv_istore (lv' := [(6, .int (bI false)), (4, .long (j_pow fx fy ax ay sp (x k) (y k))), (0, .ref m0), (1, .int (nI a)), (2, .int (nI b)), (3, .int (nI k))]) hx hb dX1_beginsCell_43 hl (by decide) rfl (fun ls hl => ?_)
            refine lv_lload hx hb dX1_beginsCell_45 (lv_at hl 1 rfl) ?_
            refine lv_lconst (v := 0) hx hb dX1_beginsCell_47 (by decide) ?_
            refine q_lcmp_lt (tgt := 64) hx hb dX1_beginsCell_48 dX1_beginsCell_49 (by decide) (fun c49 => ?_) (fun c49 => ?_)
            · rw [j_bg, if_pos c49] at hF
              subst hF
              refine lv_iconst (v := bI false) hx hb dX1_beginsCell_64 (by decide) ?_
              exact W.zret (v := bI false) hx hb hr (bI_nar _) q_ret (fun _ h => nomatch h) dX1_beginsCell_65
            · rw [j_bg, if_neg c49] at hF
              refine lv_lload hx hb dX1_beginsCell_52 (lv_at hl 1 rfl) ?_
              refine lv_lconst (v := 0) hx hb dX1_beginsCell_54 (by decide) ?_
              refine q_lcmp_ne (tgt := 66) hx hb dX1_beginsCell_55 dX1_beginsCell_56 (by decide) (fun c56 => ?_) (fun c56 => ?_)
              · rw [if_pos c56] at hF
                refine lv_iinc (v := nI (k + 1)) (lv' := [(3, .int (nI (k + 1))), (6, .int (bI false)), (4, .long (j_pow fx fy ax ay sp (x k) (y k))), (0, .ref m0), (1, .int (nI a)), (2, .int (nI b))]) hx hb dX1_beginsCell_66 hl (k := 5) rfl (by rw [show Int32.ofInt 1 = 1 from rfl]; exact nI_1 _) (by decide) rfl (fun ls hl => ?_)
                refine lv_goto (tgt := 2) hx hb dX1_beginsCell_69 (by decide) ?_
                exact ih_loop (k + 1) R ls (by omega) (by omega) hF (lv_sub hl [3, 4, 5, 0] rfl)
              · rw [if_neg (fun h => h c56)] at hF
                refine lv_iload hx hb dX1_beginsCell_59 (lv_at hl 0 rfl) ?_
                refine q_ifb_eq (tgt := 66) hx hb dX1_beginsCell_61 (by decide) (fun c61 => ?_) (fun c61 => ?_)
                · rw [if_pos c61] at hF
                  refine lv_iinc (v := nI (k + 1)) (lv' := [(3, .int (nI (k + 1))), (6, .int (bI false)), (4, .long (j_pow fx fy ax ay sp (x k) (y k))), (0, .ref m0), (1, .int (nI a)), (2, .int (nI b))]) hx hb dX1_beginsCell_66 hl (k := 5) rfl (by rw [show Int32.ofInt 1 = 1 from rfl]; exact nI_1 _) (by decide) rfl (fun ls hl => ?_)
                  refine lv_goto (tgt := 2) hx hb dX1_beginsCell_69 (by decide) ?_
                  exact ih_loop (k + 1) R ls (by omega) (by omega) hF (lv_sub hl [3, 4, 5, 0] rfl)
                · exact absurd c61 (by decide)
          · rw [if_neg c35] at hF
            refine lv_iconst (v := bI true) hx hb dX1_beginsCell_38 (by decide) ?_
            refine lv_goto (tgt := 43) hx hb dX1_beginsCell_39 (by decide) ?_
            refine lv_istore (lv' := [(6, .int (bI true)), (4, .long (j_pow fx fy ax ay sp (x k) (y k))), (0, .ref m0), (1, .int (nI a)), (2, .int (nI b)), (3, .int (nI k))]) hx hb dX1_beginsCell_43 hl (by decide) rfl (fun ls hl => ?_)
            refine lv_lload hx hb dX1_beginsCell_45 (lv_at hl 1 rfl) ?_
            refine lv_lconst (v := 0) hx hb dX1_beginsCell_47 (by decide) ?_
            refine q_lcmp_lt (tgt := 64) hx hb dX1_beginsCell_48 dX1_beginsCell_49 (by decide) (fun c49 => ?_) (fun c49 => ?_)
            · rw [j_bg, if_pos c49] at hF
              subst hF
              refine lv_iconst (v := bI false) hx hb dX1_beginsCell_64 (by decide) ?_
              exact W.zret (v := bI false) hx hb hr (bI_nar _) q_ret (fun _ h => nomatch h) dX1_beginsCell_65
            · rw [j_bg, if_neg c49] at hF
              refine lv_lload hx hb dX1_beginsCell_52 (lv_at hl 1 rfl) ?_
              refine lv_lconst (v := 0) hx hb dX1_beginsCell_54 (by decide) ?_
              refine q_lcmp_ne (tgt := 66) hx hb dX1_beginsCell_55 dX1_beginsCell_56 (by decide) (fun c56 => ?_) (fun c56 => ?_)
              · rw [if_pos c56] at hF
                refine lv_iinc (v := nI (k + 1)) (lv' := [(3, .int (nI (k + 1))), (6, .int (bI true)), (4, .long (j_pow fx fy ax ay sp (x k) (y k))), (0, .ref m0), (1, .int (nI a)), (2, .int (nI b))]) hx hb dX1_beginsCell_66 hl (k := 5) rfl (by rw [show Int32.ofInt 1 = 1 from rfl]; exact nI_1 _) (by decide) rfl (fun ls hl => ?_)
                refine lv_goto (tgt := 2) hx hb dX1_beginsCell_69 (by decide) ?_
                exact ih_loop (k + 1) R ls (by omega) (by omega) hF (lv_sub hl [3, 4, 5, 0] rfl)
              · rw [if_neg (fun h => h c56)] at hF
                refine lv_iload hx hb dX1_beginsCell_59 (lv_at hl 0 rfl) ?_
                refine q_ifb_eq (tgt := 66) hx hb dX1_beginsCell_61 (by decide) (fun c61 => ?_) (fun c61 => ?_)
                · exact absurd c61 (by decide)
                · rw [if_neg (by decide)] at hF
                  subst hF
                  refine lv_iconst (v := bI false) hx hb dX1_beginsCell_64 (by decide) ?_
                  exact W.zret (v := bI false) hx hb hr (bI_nar _) q_ret (fun _ h => nomatch h) dX1_beginsCell_65
  exact loop (n + 1) 0 _ ls (by omega) (by omega) rfl (lv_sub hl [1, 2, 3, 0] rfl)
