/-! The reference: its answers about cells -/
def r_st (Z : Int32 × ((Nat → Nat) × (Nat → Nat) × Nat) × (Nat → Nat) × (Nat → Nat) × Nat) : Prop := (∀ j, Z.2.1.1 j ≤ 20) ∧ (∀ j, Z.2.1.2.1 j < 20) ∧ Z.2.1.2.2 ≤ 59 ∧ (∀ j, Z.2.2.1 j < 60) ∧ Z.2.2.2.2 ≤ 20
def r_celR (w i : Int32) (Z : Int32 × ((Nat → Nat) × (Nat → Nat) × Nat) × (Nat → Nat) × (Nat → Nat) × Nat) : Int32 × Int32 × Int32 × ((Nat → Nat) × (Nat → Nat) × Nat) × (Nat → Nat) × (Nat → Nat) × Nat :=
  if r_out w (nI Z.2.1.2.2) = true then (0, 1, Z) else if i < -1 then (0, 2, Z) else if i < nI (Z.2.1.1 (Z.2.2.1 w.toNatClampNeg)) then (if 0 ≤ i then (nI (Z.2.1.2.1 (20 * Z.2.2.1 w.toNatClampNeg + i.toNatClampNeg)), 0, Z) else (nI (Z.2.1.1 (Z.2.2.1 w.toNatClampNeg)), 0, Z)) else (0, 2, Z)
def r_besR (w i : Int32) (Z : Int32 × ((Nat → Nat) × (Nat → Nat) × Nat) × (Nat → Nat) × (Nat → Nat) × Nat) : Int32 × Int32 × Int32 × ((Nat → Nat) × (Nat → Nat) × Nat) × (Nat → Nat) × (Nat → Nat) × Nat :=
  if r_out w (nI Z.2.1.2.2) = true then (0, 1, Z) else if r_out i (nI (Z.2.1.1 (Z.2.2.1 w.toNatClampNeg))) = true then (0, 2, Z) else (r_ws Z.2.2.1 Z.2.1.1 Z.2.1.2.1 Z.2.1.2.2 (r_after Z.2.1.1 Z.2.1.2.1 (Z.2.2.1 w.toNatClampNeg) i.toNatClampNeg) (Z.2.1.2.1 (20 * Z.2.2.1 w.toNatClampNeg + i.toNatClampNeg)) 0, 0, Z)
def r_hulR (i : Int32) (Z : Int32 × ((Nat → Nat) × (Nat → Nat) × Nat) × (Nat → Nat) × (Nat → Nat) × Nat) : Int32 × Int32 × Int32 × ((Nat → Nat) × (Nat → Nat) × Nat) × (Nat → Nat) × (Nat → Nat) × Nat :=
  if i < -1 then (0, 1, Z) else if i < nI Z.2.2.2.2 then (if 0 ≤ i then (nI (Z.2.2.2.1 i.toNatClampNeg), 0, Z) else (nI Z.2.2.2.2, 0, Z)) else (0, 1, Z)
def r_ai (x y : Nat → Int32) (sz rd : Nat → Nat) (d : Nat) (px py : Int32) (t : Bool) (i : Nat) : Bool :=
  if i < sz d then (if t = false then r_ai x y sz rd d px py false (i + 1) else if r_turn x y (rd (20 * d + i)) (r_after sz rd d i) px py < 0 then r_ai x y sz rd d px py false (i + 1) else r_ai x y sz rd d px py true (i + 1)) else t
termination_by sz d - i
def r_ao (x y : Nat → Int32) (od sz rd : Nat → Nat) (n : Nat) (px py : Int32) (k : Nat) : Int32 :=
  if k < n then (if r_ai x y sz rd (od k) px py true 0 = false then r_ao x y od sz rd n px py (k + 1) else nI k) else -1
termination_by n - k
def r_aroR (x y : Nat → Int32) (px py : Int32) (Z0 Z : Int32 × ((Nat → Nat) × (Nat → Nat) × Nat) × (Nat → Nat) × (Nat → Nat) × Nat) : Int32 × Int32 × Int32 × ((Nat → Nat) × (Nat → Nat) × Nat) × (Nat → Nat) × (Nat → Nat) × Nat :=
  if r_far px py = true then (0, 1, Z0) else (r_ao x y Z.2.2.1 Z.2.1.1 Z.2.1.2.1 Z.2.1.2.2 px py 0, 0, Z)
def r_sqP (x y : Nat → Int32) (k : Nat) (px py : Int32) : Int64 := (x k - px).toInt64 * (x k - px).toInt64 + (y k - py).toInt64 * (y k - py).toInt64
def r_near (x y : Nat → Int32) (n : Nat) (px py : Int32) (b k : Nat) : Nat :=
  if k < n then (if r_sqP x y b px py ≤ r_sqP x y k px py then r_near x y n px py b (k + 1) else r_near x y n px py k (k + 1)) else b
termination_by n - k
def r_neaR (x y : Nat → Int32) (n : Nat) (px py : Int32) : Int32 × Int32 := if r_far px py = true then (0, 1) else if n = 0 then (0, 2) else (nI (r_near x y n px py 0 1), 0)
def r_aa (x y : Nat → Int32) (a : Nat) : Int64 := (x a).toInt64 * (x a).toInt64 + (y a).toInt64 * (y a).toInt64
def r_dd (x y : Nat → Int32) (a b d : Nat) : Int64 := 2 * ((x a).toInt64 * (y b - y d).toInt64 + (x b).toInt64 * (y d - y a).toInt64 + (x d).toInt64 * (y a - y b).toInt64)
def r_uu (x y : Nat → Int32) (a b d : Nat) : Int64 := r_aa x y a * (y b - y d).toInt64 + r_aa x y b * (y d - y a).toInt64 + r_aa x y d * (y a - y b).toInt64
def r_ww (x y : Nat → Int32) (a b d : Nat) : Int64 := r_aa x y a * (x d - x b).toInt64 + r_aa x y b * (x a - x d).toInt64 + r_aa x y d * (x b - x a).toInt64
def r_gg (x y : Nat → Int32) (a b d : Nat) : Nat := Nat.gcd (Nat.gcd (r_uu x y a b d).toInt.natAbs (r_ww x y a b d).toInt.natAbs) (r_dd x y a b d).toInt.natAbs
def r_cval (x y : Nat → Int32) (a b d : Nat) (t : Int32) : Int64 := if t = 0 then r_uu x y a b d / lN (r_gg x y a b d) else if t = 1 then r_ww x y a b d / lN (r_gg x y a b d) else r_dd x y a b d / lN (r_gg x y a b d)
def r_cenR (x y : Nat → Int32) (w t : Int32) (Z : Int32 × ((Nat → Nat) × (Nat → Nat) × Nat) × (Nat → Nat) × (Nat → Nat) × Nat) : Int64 × Int32 × Int32 × ((Nat → Nat) × (Nat → Nat) × Nat) × (Nat → Nat) × (Nat → Nat) × Nat :=
  if r_out t 3 = true then (0, 2, Z) else if r_out w (nI Z.2.1.2.2) = true then (0, 1, Z) else (r_cval x y (Z.2.1.2.1 (20 * Z.2.2.1 w.toNatClampNeg)) (Z.2.1.2.1 (20 * Z.2.2.1 w.toNatClampNeg + 1)) (Z.2.1.2.1 (20 * Z.2.2.1 w.toNatClampNeg + 2)) t, 0, Z)
theorem l_nat {a : Nat} (h : a < 2 ^ 63) : (lN a).toInt.natAbs = a := by
  rw [pk_lT h]
  exact Int.natAbs_natCast a
theorem lN_gcd {a b : Nat} (h : lN a = lN b) (ha : a < 2 ^ 63) (hb : b < 2 ^ 63) : a = b := (pk_lEQ ha hb).mp h
set_option maxHeartbeats 4000000 in
set_option maxRecDepth 100000 in
theorem c_X4_cells (l : Launch) (dC : Nat → ClassId) (dI : Nat → Nat → Nat) (o0 xb yb za ua wa va : Nat) (cI : ClassId) (th md : Int32) (x y : Nat → Int32) (sz rd od hu : Nat → Nat) (n q hz N : Nat) (ln : n ≤ 20) (lo : ∀ j, od j < 60) (lz : ∀ j, sz j ≤ 20) (lr : ∀ j, rd j < 20) (hG : md = 0 → r_good x y n sz rd od N) (hst : r_st (r_mkR x y n md sz rd q od hu hz N)) (R : Int32 × ((Nat → Nat) × (Nat → Nat) × Nat) × (Nat → Nat) × (Nat → Nat) × Nat) (hR : r_mkR x y n md sz rd q od hu hz N = R) : Met l yX4_cells wsX4_cells ({ frames := 5, cells := 0, slots := 0, locals := 117 }) (q_Pm (dC, dI) [.ref o0] [(o0, .inr (4, [.int th, .int (nI n), .ref xb, .ref yb, .int md, .int (nI q), .ref za, .ref ua, .ref wa, .int (nI hz), .ref va])), (xb, .inl (cI, 20, .inl x)), (yb, .inl (cI, 20, .inl y)), (za, .inl (cI, 60, .inl (fun j9 => nI (sz j9)))), (ua, .inl (cI, 1200, .inl (fun j9 => nI (rd j9)))), (wa, .inl (cI, 60, .inl (fun j9 => nI (od j9)))), (va, .inl (cI, 20, .inl (fun j9 => nI (hu j9))))] [(cI, .int)]) (q_Qm (dC, dI) (q_in [(o0, .inr (4, [.int th, .int (nI n), .ref xb, .ref yb, .int md, .int (nI q), .ref za, .ref ua, .ref wa, .int (nI hz), .ref va])), (xb, .inl (cI, 20, .inl x)), (yb, .inl (cI, 20, .inl y)), (za, .inl (cI, 60, .inl (fun j9 => nI (sz j9)))), (ua, .inl (cI, 1200, .inl (fun j9 => nI (rd j9)))), (wa, .inl (cI, 60, .inl (fun j9 => nI (od j9)))), (va, .inl (cI, 20, .inl (fun j9 => nI (hu j9))))]) (some (.int (nI R.2.1.2.2))) [(o0, .inr (4, [.int 0, .int (nI n), .ref xb, .ref yb, .int R.1, .int (nI R.2.1.2.2), .ref za, .ref ua, .ref wa, .int (nI R.2.2.2.2), .ref va])), (xb, .inl (cI, 20, .inl x)), (yb, .inl (cI, 20, .inl y)), (za, .inl (cI, 60, .inl (fun j9 => nI (R.2.1.1 j9)))), (ua, .inl (cI, 1200, .inl (fun j9 => nI (R.2.1.2.1 j9)))), (wa, .inl (cI, 60, .inl (fun j9 => nI (R.2.2.1 j9)))), (va, .inl (cI, 20, .inl (fun j9 => nI (R.2.2.2.1 j9))))]) 0 0 (q_in [(o0, .inr (4, [.int th, .int (nI n), .ref xb, .ref yb, .int md, .int (nI q), .ref za, .ref ua, .ref wa, .int (nI hz), .ref va])), (xb, .inl (cI, 20, .inl x)), (yb, .inl (cI, 20, .inl y)), (za, .inl (cI, 60, .inl (fun j9 => nI (sz j9)))), (ua, .inl (cI, 1200, .inl (fun j9 => nI (rd j9)))), (wa, .inl (cI, 60, .inl (fun j9 => nI (od j9)))), (va, .inl (cI, 20, .inl (fun j9 => nI (hu j9))))]) := by
  refine Met.ofW (cc := cX4_cells) (maxL := 1) (ret := (some .int)) (by decide) rfl ?_
  intro p e s m args below meth c s₁ B hml hv
  obtain ⟨rfl, hP, hK, hD0⟩ := hv
  have hx := B.exec
  have hb := B.bytes
  have hr := B.returns
  have hts := atoms_spec (ws := wsX4_cells) B.pre
  have hown : s.vm.findClass RX4 = some m.cls := findClass_of_methodNamed B.named
  have hlocks := B.notSynchronized
  have hD := q_inD hD0
  generalize hAe : q_in [(o0, .inr (4, [.int th, .int (nI n), .ref xb, .ref yb, .int md, .int (nI q), .ref za, .ref ua, .ref wa, .int (nI hz), .ref va])), (xb, .inl (cI, 20, .inl x)), (yb, .inl (cI, 20, .inl y)), (za, .inl (cI, 60, .inl (fun j9 => nI (sz j9)))), (ua, .inl (cI, 1200, .inl (fun j9 => nI (rd j9)))), (wa, .inl (cI, 60, .inl (fun j9 => nI (od j9)))), (va, .inl (cI, 20, .inl (fun j9 => nI (hu j9))))] = A at hD ⊢
  have hS : va_S A s.heap s.heap [] := va_S.rf
  have hP : va_P (dC, dI) vwCl [(o0, .inr (4, [.int th, .int (nI n), .ref xb, .ref yb, .int md, .int (nI q), .ref za, .ref ua, .ref wa, .int (nI hz), .ref va])), (xb, .inl (cI, 20, .inl x)), (yb, .inl (cI, 20, .inl y)), (za, .inl (cI, 60, .inl (fun j9 => nI (sz j9)))), (ua, .inl (cI, 1200, .inl (fun j9 => nI (rd j9)))), (wa, .inl (cI, 60, .inl (fun j9 => nI (od j9)))), (va, .inl (cI, 20, .inl (fun j9 => nI (hu j9))))] s.heap := hP
  have hl := lv_entry ([.ref o0]) (n := 1) (Nat.le_of_ble_eq_true rfl)
  rw [lg_entry_eq]
  generalize (lg_sl ([.ref o0]) ++ List.replicate (1 - (lg_sl ([.ref o0])).length) Slot.unset).toArray = ls at hl ⊢
  have hl : lv_has ls 1 [(0, .ref o0)] := hl
  refine lv_aload_n hx hb dX4_cells_0 rfl (lv_at hl 0 rfl) ?_
  refine lv_iconst (v := 0) hx hb dX4_cells_1 (by decide) ?_
  refine va_put (D := (dC, dI)) (ci := 4) (v := .int 0) (ty := .int) (C := RX4) (T := TX4) (N := 11) hx hb hts (by decide +kernel) tyX4 tyX4_ok nmX4 hown hK hP hD hS 0 rfl rfl 0 (by decide) (hts (.fieldLink RX4 28 "CircleCellsModel" "thrown" "I") (by decide +kernel)) (fun _ h9 => h9) rfl (by decide +kernel) rfl rfl (Nat.le_of_ble_eq_true rfl) dX4_cells_2 (fun H locs hP hD hS => ?_)
  have hP : va_P (dC, dI) vwCl [(o0, .inr (4, [.int 0, .int (nI n), .ref xb, .ref yb, .int md, .int (nI q), .ref za, .ref ua, .ref wa, .int (nI hz), .ref va])), (xb, .inl (cI, 20, .inl x)), (yb, .inl (cI, 20, .inl y)), (za, .inl (cI, 60, .inl (fun j9 => nI (sz j9)))), (ua, .inl (cI, 1200, .inl (fun j9 => nI (rd j9)))), (wa, .inl (cI, 60, .inl (fun j9 => nI (od j9)))), (va, .inl (cI, 20, .inl (fun j9 => nI (hu j9))))] H := hP
  have hD : va_D A [(o0, .inr (4, [.int 0, .int (nI n), .ref xb, .ref yb, .int md, .int (nI q), .ref za, .ref ua, .ref wa, .int (nI hz), .ref va])), (xb, .inl (cI, 20, .inl x)), (yb, .inl (cI, 20, .inl y)), (za, .inl (cI, 60, .inl (fun j9 => nI (sz j9)))), (ua, .inl (cI, 1200, .inl (fun j9 => nI (rd j9)))), (wa, .inl (cI, 60, .inl (fun j9 => nI (od j9)))), (va, .inl (cI, 20, .inl (fun j9 => nI (hu j9))))] := hD
  refine lv_aload_n hx hb dX4_cells_5 rfl (lv_at hl 0 rfl) ?_
  obtain ⟨r1, hr1⟩ : ∃ r : Int32 × ((Nat → Nat) × (Nat → Nat) × Nat) × (Nat → Nat) × (Nat → Nat) × Nat, r_mkR x y n md sz rd q od hu hz N = r := ⟨_, rfl⟩
  refine q_mV (wc' := [(o0, .inr (4, [.int 0, .int (nI n), .ref xb, .ref yb, .int r1.1, .int (nI r1.2.1.2.2), .ref za, .ref ua, .ref wa, .int (nI r1.2.2.2.2), .ref va])), (xb, .inl (cI, 20, .inl x)), (yb, .inl (cI, 20, .inl y)), (za, .inl (cI, 60, .inl (fun j9 => nI (r1.2.1.1 j9)))), (ua, .inl (cI, 1200, .inl (fun j9 => nI (r1.2.1.2.1 j9)))), (wa, .inl (cI, 60, .inl (fun j9 => nI (r1.2.2.1 j9)))), (va, .inl (cI, 20, .inl (fun j9 => nI (r1.2.2.2.1 j9))))]) (wsN := [(o0, .inr (4, [.int 0, .int (nI n), .ref xb, .ref yb, .int r1.1, .int (nI r1.2.1.2.2), .ref za, .ref ua, .ref wa, .int (nI r1.2.2.2.2), .ref va])), (xb, .inl (cI, 20, .inl x)), (yb, .inl (cI, 20, .inl y)), (za, .inl (cI, 60, .inl (fun j9 => nI (r1.2.1.1 j9)))), (ua, .inl (cI, 1200, .inl (fun j9 => nI (r1.2.1.2.1 j9)))), (wa, .inl (cI, 60, .inl (fun j9 => nI (r1.2.2.1 j9)))), (va, .inl (cI, 20, .inl (fun j9 => nI (r1.2.2.2.1 j9))))]) (As := []) (rest := []) ⟨hx, hb, hml, hown, hts⟩ (c_X4_make l dC dI o0 xb yb za ua wa va cI 0 md x y sz rd od hu n q hz N (by omega) lo lz lr hG r1 hr1) (cwV 0 hts gX4_cells_X4_make rfl rfl rfl (by decide +kernel) ⟨Nat.le_of_ble_eq_true rfl, Nat.le_of_ble_eq_true rfl⟩) hK hP hD hS [0, 1, 2, 3, 4, 5, 6] [0] 4 0 rfl rfl rfl rfl rfl rfl rfl rfl rfl hl.1 rfl (Nat.le_of_ble_eq_true rfl) ⟨Nat.zero_le _, Nat.zero_le _⟩ dX4_cells_6 rfl (fun H locs hP hD hS => ?_)
  refine W.eq (g2 := F0 m 9 ls []) rfl ?_
  rw [hr1] at hR
  subst hR
  refine lv_aload_n hx hb dX4_cells_9 rfl (lv_at hl 0 rfl) ?_
  refine va_get (D := (dC, dI)) (ci := 4) (v := .int (nI r1.2.1.2.2)) (C := RX4) (T := TX4) (N := 11) hx hb hts (by decide +kernel) hown hK hP 0 rfl rfl 5 (by decide) (hts (.fieldLink RX4 65 "CircleCellsModel" "cells" "I") (by decide +kernel)) (fun _ h9 => h9) rfl dX4_cells_10 ?_
  exact W.iret (v := nI r1.2.1.2.2) hx hb hr (q_retm hP hS) hS.2.2 dX4_cells_13
set_option maxHeartbeats 4000000 in
set_option maxRecDepth 100000 in
theorem c_X4_cell (l : Launch) (dC : Nat → ClassId) (dI : Nat → Nat → Nat) (o0 xb yb za ua wa va : Nat) (cI : ClassId) (th md : Int32) (x y : Nat → Int32) (sz rd od hu : Nat → Nat) (n q hz N : Nat) (w i : Int32) (ln : n ≤ 20) (lo : ∀ j, od j < 60) (lz : ∀ j, sz j ≤ 20) (lr : ∀ j, rd j < 20) (hG : md = 0 → r_good x y n sz rd od N) (hst : r_st (r_mkR x y n md sz rd q od hu hz N)) (R : Int32 × Int32 × Int32 × ((Nat → Nat) × (Nat → Nat) × Nat) × (Nat → Nat) × (Nat → Nat) × Nat) (hR : r_celR w i (r_mkR x y n md sz rd q od hu hz N) = R) : Met l yX4_cell wsX4_cell ({ frames := 5, cells := 0, slots := 0, locals := 117 }) (q_Pm (dC, dI) [.ref o0, .int w, .int i] [(o0, .inr (4, [.int th, .int (nI n), .ref xb, .ref yb, .int md, .int (nI q), .ref za, .ref ua, .ref wa, .int (nI hz), .ref va])), (xb, .inl (cI, 20, .inl x)), (yb, .inl (cI, 20, .inl y)), (za, .inl (cI, 60, .inl (fun j9 => nI (sz j9)))), (ua, .inl (cI, 1200, .inl (fun j9 => nI (rd j9)))), (wa, .inl (cI, 60, .inl (fun j9 => nI (od j9)))), (va, .inl (cI, 20, .inl (fun j9 => nI (hu j9))))] [(cI, .int)]) (q_Qm (dC, dI) (q_in [(o0, .inr (4, [.int th, .int (nI n), .ref xb, .ref yb, .int md, .int (nI q), .ref za, .ref ua, .ref wa, .int (nI hz), .ref va])), (xb, .inl (cI, 20, .inl x)), (yb, .inl (cI, 20, .inl y)), (za, .inl (cI, 60, .inl (fun j9 => nI (sz j9)))), (ua, .inl (cI, 1200, .inl (fun j9 => nI (rd j9)))), (wa, .inl (cI, 60, .inl (fun j9 => nI (od j9)))), (va, .inl (cI, 20, .inl (fun j9 => nI (hu j9))))]) (some (.int R.1)) [(o0, .inr (4, [.int R.2.1, .int (nI n), .ref xb, .ref yb, .int R.2.2.1, .int (nI R.2.2.2.1.2.2), .ref za, .ref ua, .ref wa, .int (nI R.2.2.2.2.2.2), .ref va])), (xb, .inl (cI, 20, .inl x)), (yb, .inl (cI, 20, .inl y)), (za, .inl (cI, 60, .inl (fun j9 => nI (R.2.2.2.1.1 j9)))), (ua, .inl (cI, 1200, .inl (fun j9 => nI (R.2.2.2.1.2.1 j9)))), (wa, .inl (cI, 60, .inl (fun j9 => nI (R.2.2.2.2.1 j9)))), (va, .inl (cI, 20, .inl (fun j9 => nI (R.2.2.2.2.2.1 j9))))]) 0 0 (q_in [(o0, .inr (4, [.int th, .int (nI n), .ref xb, .ref yb, .int md, .int (nI q), .ref za, .ref ua, .ref wa, .int (nI hz), .ref va])), (xb, .inl (cI, 20, .inl x)), (yb, .inl (cI, 20, .inl y)), (za, .inl (cI, 60, .inl (fun j9 => nI (sz j9)))), (ua, .inl (cI, 1200, .inl (fun j9 => nI (rd j9)))), (wa, .inl (cI, 60, .inl (fun j9 => nI (od j9)))), (va, .inl (cI, 20, .inl (fun j9 => nI (hu j9))))]) := by
  refine Met.ofW (cc := cX4_cell) (maxL := 5) (ret := (some .int)) (by decide) rfl ?_
  intro p e s m args below meth c s₁ B hml hv
  obtain ⟨rfl, hP, hK, hD0⟩ := hv
  have hx := B.exec
  have hb := B.bytes
  have hr := B.returns
  have hts := atoms_spec (ws := wsX4_cell) B.pre
  have hown : s.vm.findClass RX4 = some m.cls := findClass_of_methodNamed B.named
  have hlocks := B.notSynchronized
  have hD := q_inD hD0
  generalize hAe : q_in [(o0, .inr (4, [.int th, .int (nI n), .ref xb, .ref yb, .int md, .int (nI q), .ref za, .ref ua, .ref wa, .int (nI hz), .ref va])), (xb, .inl (cI, 20, .inl x)), (yb, .inl (cI, 20, .inl y)), (za, .inl (cI, 60, .inl (fun j9 => nI (sz j9)))), (ua, .inl (cI, 1200, .inl (fun j9 => nI (rd j9)))), (wa, .inl (cI, 60, .inl (fun j9 => nI (od j9)))), (va, .inl (cI, 20, .inl (fun j9 => nI (hu j9))))] = A at hD ⊢
  have hS : va_S A s.heap s.heap [] := va_S.rf
  have hP : va_P (dC, dI) vwCl [(o0, .inr (4, [.int th, .int (nI n), .ref xb, .ref yb, .int md, .int (nI q), .ref za, .ref ua, .ref wa, .int (nI hz), .ref va])), (xb, .inl (cI, 20, .inl x)), (yb, .inl (cI, 20, .inl y)), (za, .inl (cI, 60, .inl (fun j9 => nI (sz j9)))), (ua, .inl (cI, 1200, .inl (fun j9 => nI (rd j9)))), (wa, .inl (cI, 60, .inl (fun j9 => nI (od j9)))), (va, .inl (cI, 20, .inl (fun j9 => nI (hu j9))))] s.heap := hP
  have hl := lv_entry ([.ref o0, .int w, .int i]) (n := 5) (Nat.le_of_ble_eq_true rfl)
  rw [lg_entry_eq]
  generalize (lg_sl ([.ref o0, .int w, .int i]) ++ List.replicate (5 - (lg_sl ([.ref o0, .int w, .int i])).length) Slot.unset).toArray = ls at hl ⊢
  have hl : lv_has ls 5 [(0, .ref o0), (1, .int w), (2, .int i)] := hl
  refine lv_aload_n hx hb dX4_cell_0 rfl (lv_at hl 0 rfl) ?_
  obtain ⟨r1, hr1⟩ : ∃ r : Int32 × ((Nat → Nat) × (Nat → Nat) × Nat) × (Nat → Nat) × (Nat → Nat) × Nat, r_mkR x y n md sz rd q od hu hz N = r := ⟨_, rfl⟩
  refine q_mV (wc' := [(o0, .inr (4, [.int th, .int (nI n), .ref xb, .ref yb, .int r1.1, .int (nI r1.2.1.2.2), .ref za, .ref ua, .ref wa, .int (nI r1.2.2.2.2), .ref va])), (xb, .inl (cI, 20, .inl x)), (yb, .inl (cI, 20, .inl y)), (za, .inl (cI, 60, .inl (fun j9 => nI (r1.2.1.1 j9)))), (ua, .inl (cI, 1200, .inl (fun j9 => nI (r1.2.1.2.1 j9)))), (wa, .inl (cI, 60, .inl (fun j9 => nI (r1.2.2.1 j9)))), (va, .inl (cI, 20, .inl (fun j9 => nI (r1.2.2.2.1 j9))))]) (wsN := [(o0, .inr (4, [.int th, .int (nI n), .ref xb, .ref yb, .int r1.1, .int (nI r1.2.1.2.2), .ref za, .ref ua, .ref wa, .int (nI r1.2.2.2.2), .ref va])), (xb, .inl (cI, 20, .inl x)), (yb, .inl (cI, 20, .inl y)), (za, .inl (cI, 60, .inl (fun j9 => nI (r1.2.1.1 j9)))), (ua, .inl (cI, 1200, .inl (fun j9 => nI (r1.2.1.2.1 j9)))), (wa, .inl (cI, 60, .inl (fun j9 => nI (r1.2.2.1 j9)))), (va, .inl (cI, 20, .inl (fun j9 => nI (r1.2.2.2.1 j9))))]) (As := []) (rest := []) ⟨hx, hb, hml, hown, hts⟩ (c_X4_make l dC dI o0 xb yb za ua wa va cI th md x y sz rd od hu n q hz N (by omega) lo lz lr hG r1 hr1) (cwV 0 hts gX4_cell_X4_make rfl rfl rfl (by decide +kernel) ⟨Nat.le_of_ble_eq_true rfl, Nat.le_of_ble_eq_true rfl⟩) hK hP hD hS [0, 1, 2, 3, 4, 5, 6] [0] 4 0 rfl rfl rfl rfl rfl rfl rfl rfl rfl hl.1 rfl (Nat.le_of_ble_eq_true rfl) ⟨Nat.zero_le _, Nat.zero_le _⟩ dX4_cell_1 rfl (fun H locs hP hD hS => ?_)
  refine W.eq (g2 := F0 m 4 ls []) rfl ?_
  rw [hr1] at hR hst
  have hq9 := hst.2.2.1
  refine lv_iload_n hx hb dX4_cell_4 rfl (lv_at hl 1 rfl) ?_
  refine lv_aload_n hx hb dX4_cell_5 rfl (lv_at hl 0 rfl) ?_
  refine va_get (D := (dC, dI)) (ci := 4) (v := .int (nI r1.2.1.2.2)) (C := RX4) (T := TX4) (N := 11) hx hb hts (by decide +kernel) hown hK hP 0 rfl rfl 5 (by decide) (hts (.fieldLink RX4 65 "CircleCellsModel" "cells" "I") (by decide +kernel)) (fun _ h9 => h9) rfl dX4_cell_6 ?_
  refine q_cS (As := [.int w, .int (nI r1.2.1.2.2)]) (rest := []) ⟨hx, hb, hml, hown, hts⟩ (c_X4_out l dC dI w (nI r1.2.1.2.2)) (va_cwS 2 hts gX4_cell_X4_out rfl rfl rfl (by decide +kernel) ⟨Nat.le_of_ble_eq_true rfl, Nat.le_of_ble_eq_true rfl⟩) (q_pS hK hP [] [] rfl rfl rfl) rfl hl.1 rfl (Nat.le_of_ble_eq_true rfl) ⟨Nat.zero_le _, Nat.zero_le _⟩ dX4_cell_9 ?_
  refine lv_istore_n (lv' := [(3, .int (bI (r_out w (nI r1.2.1.2.2)))), (0, .ref o0), (1, .int w), (2, .int i)]) hx hb dX4_cell_12 rfl hl (by decide) rfl (fun ls hl => ?_)
  refine lv_iload_n hx hb dX4_cell_13 rfl (lv_at hl 0 rfl) ?_
  refine q_ifb_eq (tgt := 21) hx hb dX4_cell_14 (by decide) (fun c14 => ?_) (fun c14 => ?_)
  · rw [r_celR, if_neg (by rw [c14]; decide)] at hR
    rw [c14] at hl
    obtain ⟨k, hk, rfl⟩ := r_out_f (by omega) c14
    rw [nI_clamp (by omega)] at hR
    have lok := hst.2.2.2.1 k
    refine lv_aload_n hx hb dX4_cell_21 rfl (lv_at hl 1 rfl) ?_
    refine va_get (D := (dC, dI)) (ci := 4) (v := .ref wa) (C := RX4) (T := TX4) (N := 11) hx hb hts (by decide +kernel) hown hK hP 0 rfl rfl 8 (by decide) (hts (.fieldLink RX4 22 "CircleCellsModel" "order" "[I") (by decide +kernel)) (fun _ h9 => h9) rfl dX4_cell_22 ?_
    refine lv_iload_n hx hb dX4_cell_25 rfl (lv_at hl 2 rfl) ?_
    refine q_iald hx hb hK hP 5 0 rfl rfl (k) rfl (by omega) (by decide) dX4_cell_26 ?_
    refine lv_istore (lv' := [(4, .int (nI (r1.2.2.1 k))), (3, .int (bI false)), (0, .ref o0), (1, .int (nI k)), (2, .int i)]) hx hb dX4_cell_27 hl (by decide) rfl (fun ls hl => ?_)
    refine lv_aload_n hx hb dX4_cell_29 rfl (lv_at hl 2 rfl) ?_
    refine lv_iload_n hx hb dX4_cell_30 rfl (lv_at hl 1 rfl) ?_
    refine lv_iload_n hx hb dX4_cell_31 rfl (lv_at hl 4 rfl) ?_
    refine lv_iconst (v := (-1)) hx hb dX4_cell_32 (by decide) ?_
    refine lv_icmp_lt (tgt := 47) hx hb dX4_cell_33 (by decide) (fun c33 => ?_) (fun c33 => ?_)
    · rw [if_pos c33] at hR
      subst hR
      refine lv_iconst (v := bI true) hx hb dX4_cell_47 (by decide) ?_
      refine lv_goto (tgt := 52) hx hb dX4_cell_48 (by decide) ?_
      refine q_mV (wc' := [(o0, .inr (4, [.int (r_thr false true), .int (nI n), .ref xb, .ref yb, .int r1.1, .int (nI r1.2.1.2.2), .ref za, .ref ua, .ref wa, .int (nI r1.2.2.2.2), .ref va]))]) (wsN := [(o0, .inr (4, [.int (r_thr false true), .int (nI n), .ref xb, .ref yb, .int r1.1, .int (nI r1.2.1.2.2), .ref za, .ref ua, .ref wa, .int (nI r1.2.2.2.2), .ref va])), (xb, .inl (cI, 20, .inl x)), (yb, .inl (cI, 20, .inl y)), (za, .inl (cI, 60, .inl (fun j9 => nI (r1.2.1.1 j9)))), (ua, .inl (cI, 1200, .inl (fun j9 => nI (r1.2.1.2.1 j9)))), (wa, .inl (cI, 60, .inl (fun j9 => nI (r1.2.2.1 j9)))), (va, .inl (cI, 20, .inl (fun j9 => nI (r1.2.2.2.1 j9))))]) (As := [.int (bI false), .int (bI true)]) (rest := []) ⟨hx, hb, hml, hown, hts⟩ (c_X4_throwing l dC dI o0 xb yb za ua wa va (by omega) th (nI n) r1.1 (nI r1.2.1.2.2) (nI r1.2.2.2.2) false true) (cwV 2 hts gX4_cell_X4_throwing rfl rfl rfl (by decide +kernel) ⟨Nat.le_of_ble_eq_true rfl, Nat.le_of_ble_eq_true rfl⟩) hK hP hD hS [0] [] 4 0 rfl rfl rfl rfl rfl rfl rfl rfl rfl hl.1 rfl (Nat.le_of_ble_eq_true rfl) ⟨Nat.zero_le _, Nat.zero_le _⟩ dX4_cell_52 rfl (fun H locs hP hD hS => ?_)
      refine W.eq (g2 := F0 m 55 ls [.int (bI (false || true))]) rfl ?_
      refine q_ifb_eq (tgt := 60) hx hb dX4_cell_55 (by decide) (fun c55 => ?_) (fun c55 => ?_)
      · exact absurd c55 (by decide)
      · refine lv_iconst (v := 0) hx hb dX4_cell_58 (by decide) ?_
        exact W.iret (v := 0) hx hb hr (q_retm hP hS) hS.2.2 dX4_cell_59
    · rw [if_neg c33] at hR
      refine lv_iload_n hx hb dX4_cell_36 rfl (lv_at hl 4 rfl) ?_
      refine lv_aload_n hx hb dX4_cell_37 rfl (lv_at hl 2 rfl) ?_
      refine va_get (D := (dC, dI)) (ci := 4) (v := .ref za) (C := RX4) (T := TX4) (N := 11) hx hb hts (by decide +kernel) hown hK hP 0 rfl rfl 6 (by decide) (hts (.fieldLink RX4 16 "CircleCellsModel" "size" "[I") (by decide +kernel)) (fun _ h9 => h9) rfl dX4_cell_38 ?_
      refine lv_iload hx hb dX4_cell_41 (lv_at hl 0 rfl) ?_
      refine q_iald hx hb hK hP 3 0 rfl rfl (r1.2.2.1 k) rfl (by first | omega | exact hst.2.2.2.1 _) (by decide) dX4_cell_43 ?_
      refine lv_icmp_lt (tgt := 51) hx hb dX4_cell_44 (by decide) (fun c44 => ?_) (fun c44 => ?_)
      · rw [if_pos c44] at hR
        refine lv_iconst (v := bI false) hx hb dX4_cell_51 (by decide) ?_
        refine q_mV (wc' := [(o0, .inr (4, [.int (r_thr false false), .int (nI n), .ref xb, .ref yb, .int r1.1, .int (nI r1.2.1.2.2), .ref za, .ref ua, .ref wa, .int (nI r1.2.2.2.2), .ref va]))]) (wsN := [(o0, .inr (4, [.int (r_thr false false), .int (nI n), .ref xb, .ref yb, .int r1.1, .int (nI r1.2.1.2.2), .ref za, .ref ua, .ref wa, .int (nI r1.2.2.2.2), .ref va])), (xb, .inl (cI, 20, .inl x)), (yb, .inl (cI, 20, .inl y)), (za, .inl (cI, 60, .inl (fun j9 => nI (r1.2.1.1 j9)))), (ua, .inl (cI, 1200, .inl (fun j9 => nI (r1.2.1.2.1 j9)))), (wa, .inl (cI, 60, .inl (fun j9 => nI (r1.2.2.1 j9)))), (va, .inl (cI, 20, .inl (fun j9 => nI (r1.2.2.2.1 j9))))]) (As := [.int (bI false), .int (bI false)]) (rest := []) ⟨hx, hb, hml, hown, hts⟩ (c_X4_throwing l dC dI o0 xb yb za ua wa va (by omega) th (nI n) r1.1 (nI r1.2.1.2.2) (nI r1.2.2.2.2) false false) (cwV 2 hts gX4_cell_X4_throwing rfl rfl rfl (by decide +kernel) ⟨Nat.le_of_ble_eq_true rfl, Nat.le_of_ble_eq_true rfl⟩) hK hP hD hS [0] [] 4 0 rfl rfl rfl rfl rfl rfl rfl rfl rfl hl.1 rfl (Nat.le_of_ble_eq_true rfl) ⟨Nat.zero_le _, Nat.zero_le _⟩ dX4_cell_52 rfl (fun H locs hP hD hS => ?_)
        refine W.eq (g2 := F0 m 55 ls [.int (bI (false || false))]) rfl ?_
        refine q_ifb_eq (tgt := 60) hx hb dX4_cell_55 (by decide) (fun c55 => ?_) (fun c55 => ?_)
        · refine lv_iload_n hx hb dX4_cell_60 rfl (lv_at hl 4 rfl) ?_
          refine lv_if_ge (tgt := 74) hx hb dX4_cell_61 (by decide) (fun c61 => ?_) (fun c61 => ?_)
          · rw [if_pos c61] at hR
            obtain ⟨t, ht, rfl⟩ := nI_of (k2_nlt c61)
            have ht2 : t < r1.2.1.1 (r1.2.2.1 k) := (nI_ltI ht (by have := hst.1 (r1.2.2.1 k); omega)).mp c44
            rw [nI_clamp ht] at hR
            subst hR
            refine lv_aload_n hx hb dX4_cell_74 rfl (lv_at hl 2 rfl) ?_
            refine va_get (D := (dC, dI)) (ci := 4) (v := .ref ua) (C := RX4) (T := TX4) (N := 11) hx hb hts (by decide +kernel) hown hK hP 0 rfl rfl 7 (by decide) (hts (.fieldLink RX4 19 "CircleCellsModel" "round" "[I") (by decide +kernel)) (fun _ h9 => h9) rfl dX4_cell_75 ?_
            refine lv_bipush (v := nI 20) hx hb dX4_cell_78 (by decide) ?_
            refine lv_iload hx hb dX4_cell_80 (lv_at hl 0 rfl) ?_
            refine q_imul hx hb dX4_cell_82 ?_
            refine lv_iload_n hx hb dX4_cell_83 rfl (lv_at hl 4 rfl) ?_
            refine q_iadd hx hb dX4_cell_84 ?_
            refine q_iald hx hb hK hP 4 0 rfl rfl ((20 * (r1.2.2.1 k)) + t) rfl (by have := hst.1 (r1.2.2.1 k); omega) (by decide) dX4_cell_85 ?_
            exact W.iret (v := nI (r1.2.1.2.1 ((20 * (r1.2.2.1 k)) + t))) hx hb hr (q_retm hP hS) hS.2.2 dX4_cell_86
          · rw [if_neg c61] at hR
            subst hR
            refine lv_aload_n hx hb dX4_cell_64 rfl (lv_at hl 2 rfl) ?_
            refine va_get (D := (dC, dI)) (ci := 4) (v := .ref za) (C := RX4) (T := TX4) (N := 11) hx hb hts (by decide +kernel) hown hK hP 0 rfl rfl 6 (by decide) (hts (.fieldLink RX4 16 "CircleCellsModel" "size" "[I") (by decide +kernel)) (fun _ h9 => h9) rfl dX4_cell_65 ?_
            refine lv_iload hx hb dX4_cell_68 (lv_at hl 0 rfl) ?_
            refine q_iald hx hb hK hP 3 0 rfl rfl (r1.2.2.1 k) rfl (by omega) (by decide) dX4_cell_70 ?_
            refine lv_goto (tgt := 86) hx hb dX4_cell_71 (by decide) ?_
            exact W.iret (v := nI (r1.2.1.1 (r1.2.2.1 k))) hx hb hr (q_retm hP hS) hS.2.2 dX4_cell_86
        · exact absurd c55 (by decide)
      · rw [if_neg c44] at hR
        subst hR
        refine lv_iconst (v := bI true) hx hb dX4_cell_47 (by decide) ?_
        refine lv_goto (tgt := 52) hx hb dX4_cell_48 (by decide) ?_
        refine q_mV (wc' := [(o0, .inr (4, [.int (r_thr false true), .int (nI n), .ref xb, .ref yb, .int r1.1, .int (nI r1.2.1.2.2), .ref za, .ref ua, .ref wa, .int (nI r1.2.2.2.2), .ref va]))]) (wsN := [(o0, .inr (4, [.int (r_thr false true), .int (nI n), .ref xb, .ref yb, .int r1.1, .int (nI r1.2.1.2.2), .ref za, .ref ua, .ref wa, .int (nI r1.2.2.2.2), .ref va])), (xb, .inl (cI, 20, .inl x)), (yb, .inl (cI, 20, .inl y)), (za, .inl (cI, 60, .inl (fun j9 => nI (r1.2.1.1 j9)))), (ua, .inl (cI, 1200, .inl (fun j9 => nI (r1.2.1.2.1 j9)))), (wa, .inl (cI, 60, .inl (fun j9 => nI (r1.2.2.1 j9)))), (va, .inl (cI, 20, .inl (fun j9 => nI (r1.2.2.2.1 j9))))]) (As := [.int (bI false), .int (bI true)]) (rest := []) ⟨hx, hb, hml, hown, hts⟩ (c_X4_throwing l dC dI o0 xb yb za ua wa va (by omega) th (nI n) r1.1 (nI r1.2.1.2.2) (nI r1.2.2.2.2) false true) (cwV 2 hts gX4_cell_X4_throwing rfl rfl rfl (by decide +kernel) ⟨Nat.le_of_ble_eq_true rfl, Nat.le_of_ble_eq_true rfl⟩) hK hP hD hS [0] [] 4 0 rfl rfl rfl rfl rfl rfl rfl rfl rfl hl.1 rfl (Nat.le_of_ble_eq_true rfl) ⟨Nat.zero_le _, Nat.zero_le _⟩ dX4_cell_52 rfl (fun H locs hP hD hS => ?_)
        refine W.eq (g2 := F0 m 55 ls [.int (bI (false || true))]) rfl ?_
        refine q_ifb_eq (tgt := 60) hx hb dX4_cell_55 (by decide) (fun c55 => ?_) (fun c55 => ?_)
        · exact absurd c55 (by decide)
        · refine lv_iconst (v := 0) hx hb dX4_cell_58 (by decide) ?_
          exact W.iret (v := 0) hx hb hr (q_retm hP hS) hS.2.2 dX4_cell_59
  · rw [r_celR, if_pos c14] at hR
    subst hR
    rw [c14] at hl
    refine lv_iconst (v := nI 0) hx hb dX4_cell_17 (by decide) ?_
    refine lv_goto (tgt := 27) hx hb dX4_cell_18 (by decide) ?_
    refine lv_istore (lv' := [(4, .int (nI 0)), (3, .int (bI true)), (0, .ref o0), (1, .int w), (2, .int i)]) hx hb dX4_cell_27 hl (by decide) rfl (fun ls hl => ?_)
    refine lv_aload_n hx hb dX4_cell_29 rfl (lv_at hl 2 rfl) ?_
    refine lv_iload_n hx hb dX4_cell_30 rfl (lv_at hl 1 rfl) ?_
    refine lv_iload_n hx hb dX4_cell_31 rfl (lv_at hl 4 rfl) ?_
    refine lv_iconst (v := (-1)) hx hb dX4_cell_32 (by decide) ?_
    refine lv_icmp_lt (tgt := 47) hx hb dX4_cell_33 (by decide) (fun c33 => ?_) (fun c33 => ?_)
    · refine lv_iconst (v := bI true) hx hb dX4_cell_47 (by decide) ?_
      refine lv_goto (tgt := 52) hx hb dX4_cell_48 (by decide) ?_
      refine q_mV (wc' := [(o0, .inr (4, [.int (r_thr true true), .int (nI n), .ref xb, .ref yb, .int r1.1, .int (nI r1.2.1.2.2), .ref za, .ref ua, .ref wa, .int (nI r1.2.2.2.2), .ref va]))]) (wsN := [(o0, .inr (4, [.int (r_thr true true), .int (nI n), .ref xb, .ref yb, .int r1.1, .int (nI r1.2.1.2.2), .ref za, .ref ua, .ref wa, .int (nI r1.2.2.2.2), .ref va])), (xb, .inl (cI, 20, .inl x)), (yb, .inl (cI, 20, .inl y)), (za, .inl (cI, 60, .inl (fun j9 => nI (r1.2.1.1 j9)))), (ua, .inl (cI, 1200, .inl (fun j9 => nI (r1.2.1.2.1 j9)))), (wa, .inl (cI, 60, .inl (fun j9 => nI (r1.2.2.1 j9)))), (va, .inl (cI, 20, .inl (fun j9 => nI (r1.2.2.2.1 j9))))]) (As := [.int (bI true), .int (bI true)]) (rest := []) ⟨hx, hb, hml, hown, hts⟩ (c_X4_throwing l dC dI o0 xb yb za ua wa va (by omega) th (nI n) r1.1 (nI r1.2.1.2.2) (nI r1.2.2.2.2) true true) (cwV 2 hts gX4_cell_X4_throwing rfl rfl rfl (by decide +kernel) ⟨Nat.le_of_ble_eq_true rfl, Nat.le_of_ble_eq_true rfl⟩) hK hP hD hS [0] [] 4 0 rfl rfl rfl rfl rfl rfl rfl rfl rfl hl.1 rfl (Nat.le_of_ble_eq_true rfl) ⟨Nat.zero_le _, Nat.zero_le _⟩ dX4_cell_52 rfl (fun H locs hP hD hS => ?_)
      refine W.eq (g2 := F0 m 55 ls [.int (bI (true || true))]) rfl ?_
      refine q_ifb_eq (tgt := 60) hx hb dX4_cell_55 (by decide) (fun c55 => ?_) (fun c55 => ?_)
      · exact absurd c55 (by decide)
      · refine lv_iconst (v := 0) hx hb dX4_cell_58 (by decide) ?_
        exact W.iret (v := 0) hx hb hr (q_retm hP hS) hS.2.2 dX4_cell_59
    · refine lv_iload_n hx hb dX4_cell_36 rfl (lv_at hl 4 rfl) ?_
      refine lv_aload_n hx hb dX4_cell_37 rfl (lv_at hl 2 rfl) ?_
      refine va_get (D := (dC, dI)) (ci := 4) (v := .ref za) (C := RX4) (T := TX4) (N := 11) hx hb hts (by decide +kernel) hown hK hP 0 rfl rfl 6 (by decide) (hts (.fieldLink RX4 16 "CircleCellsModel" "size" "[I") (by decide +kernel)) (fun _ h9 => h9) rfl dX4_cell_38 ?_
      refine lv_iload hx hb dX4_cell_41 (lv_at hl 0 rfl) ?_
      refine q_iald hx hb hK hP 3 0 rfl rfl (0) rfl (by first | omega | exact hst.2.2.2.1 _) (by decide) dX4_cell_43 ?_
      refine lv_icmp_lt (tgt := 51) hx hb dX4_cell_44 (by decide) (fun c44 => ?_) (fun c44 => ?_)
      · refine lv_iconst (v := bI false) hx hb dX4_cell_51 (by decide) ?_
        refine q_mV (wc' := [(o0, .inr (4, [.int (r_thr true false), .int (nI n), .ref xb, .ref yb, .int r1.1, .int (nI r1.2.1.2.2), .ref za, .ref ua, .ref wa, .int (nI r1.2.2.2.2), .ref va]))]) (wsN := [(o0, .inr (4, [.int (r_thr true false), .int (nI n), .ref xb, .ref yb, .int r1.1, .int (nI r1.2.1.2.2), .ref za, .ref ua, .ref wa, .int (nI r1.2.2.2.2), .ref va])), (xb, .inl (cI, 20, .inl x)), (yb, .inl (cI, 20, .inl y)), (za, .inl (cI, 60, .inl (fun j9 => nI (r1.2.1.1 j9)))), (ua, .inl (cI, 1200, .inl (fun j9 => nI (r1.2.1.2.1 j9)))), (wa, .inl (cI, 60, .inl (fun j9 => nI (r1.2.2.1 j9)))), (va, .inl (cI, 20, .inl (fun j9 => nI (r1.2.2.2.1 j9))))]) (As := [.int (bI true), .int (bI false)]) (rest := []) ⟨hx, hb, hml, hown, hts⟩ (c_X4_throwing l dC dI o0 xb yb za ua wa va (by omega) th (nI n) r1.1 (nI r1.2.1.2.2) (nI r1.2.2.2.2) true false) (cwV 2 hts gX4_cell_X4_throwing rfl rfl rfl (by decide +kernel) ⟨Nat.le_of_ble_eq_true rfl, Nat.le_of_ble_eq_true rfl⟩) hK hP hD hS [0] [] 4 0 rfl rfl rfl rfl rfl rfl rfl rfl rfl hl.1 rfl (Nat.le_of_ble_eq_true rfl) ⟨Nat.zero_le _, Nat.zero_le _⟩ dX4_cell_52 rfl (fun H locs hP hD hS => ?_)
        refine W.eq (g2 := F0 m 55 ls [.int (bI (true || false))]) rfl ?_
        refine q_ifb_eq (tgt := 60) hx hb dX4_cell_55 (by decide) (fun c55 => ?_) (fun c55 => ?_)
        · exact absurd c55 (by decide)
        · refine lv_iconst (v := 0) hx hb dX4_cell_58 (by decide) ?_
          exact W.iret (v := 0) hx hb hr (q_retm hP hS) hS.2.2 dX4_cell_59
      · refine lv_iconst (v := bI true) hx hb dX4_cell_47 (by decide) ?_
        refine lv_goto (tgt := 52) hx hb dX4_cell_48 (by decide) ?_
        refine q_mV (wc' := [(o0, .inr (4, [.int (r_thr true true), .int (nI n), .ref xb, .ref yb, .int r1.1, .int (nI r1.2.1.2.2), .ref za, .ref ua, .ref wa, .int (nI r1.2.2.2.2), .ref va]))]) (wsN := [(o0, .inr (4, [.int (r_thr true true), .int (nI n), .ref xb, .ref yb, .int r1.1, .int (nI r1.2.1.2.2), .ref za, .ref ua, .ref wa, .int (nI r1.2.2.2.2), .ref va])), (xb, .inl (cI, 20, .inl x)), (yb, .inl (cI, 20, .inl y)), (za, .inl (cI, 60, .inl (fun j9 => nI (r1.2.1.1 j9)))), (ua, .inl (cI, 1200, .inl (fun j9 => nI (r1.2.1.2.1 j9)))), (wa, .inl (cI, 60, .inl (fun j9 => nI (r1.2.2.1 j9)))), (va, .inl (cI, 20, .inl (fun j9 => nI (r1.2.2.2.1 j9))))]) (As := [.int (bI true), .int (bI true)]) (rest := []) ⟨hx, hb, hml, hown, hts⟩ (c_X4_throwing l dC dI o0 xb yb za ua wa va (by omega) th (nI n) r1.1 (nI r1.2.1.2.2) (nI r1.2.2.2.2) true true) (cwV 2 hts gX4_cell_X4_throwing rfl rfl rfl (by decide +kernel) ⟨Nat.le_of_ble_eq_true rfl, Nat.le_of_ble_eq_true rfl⟩) hK hP hD hS [0] [] 4 0 rfl rfl rfl rfl rfl rfl rfl rfl rfl hl.1 rfl (Nat.le_of_ble_eq_true rfl) ⟨Nat.zero_le _, Nat.zero_le _⟩ dX4_cell_52 rfl (fun H locs hP hD hS => ?_)
        refine W.eq (g2 := F0 m 55 ls [.int (bI (true || true))]) rfl ?_
        refine q_ifb_eq (tgt := 60) hx hb dX4_cell_55 (by decide) (fun c55 => ?_) (fun c55 => ?_)
        · exact absurd c55 (by decide)
        · refine lv_iconst (v := 0) hx hb dX4_cell_58 (by decide) ?_
          exact W.iret (v := 0) hx hb hr (q_retm hP hS) hS.2.2 dX4_cell_59
set_option maxHeartbeats 4000000 in
set_option maxRecDepth 100000 in
theorem c_X4_beside (l : Launch) (dC : Nat → ClassId) (dI : Nat → Nat → Nat) (o0 xb yb za ua wa va : Nat) (cI : ClassId) (th md : Int32) (x y : Nat → Int32) (sz rd od hu : Nat → Nat) (n q hz N : Nat) (w i : Int32) (ln : n ≤ 20) (lo : ∀ j, od j < 60) (lz : ∀ j, sz j ≤ 20) (lr : ∀ j, rd j < 20) (hG : md = 0 → r_good x y n sz rd od N) (hst : r_st (r_mkR x y n md sz rd q od hu hz N)) (R : Int32 × Int32 × Int32 × ((Nat → Nat) × (Nat → Nat) × Nat) × (Nat → Nat) × (Nat → Nat) × Nat) (hR : r_besR w i (r_mkR x y n md sz rd q od hu hz N) = R) : Met l yX4_beside wsX4_beside ({ frames := 5, cells := 0, slots := 0, locals := 117 }) (q_Pm (dC, dI) [.ref o0, .int w, .int i] [(o0, .inr (4, [.int th, .int (nI n), .ref xb, .ref yb, .int md, .int (nI q), .ref za, .ref ua, .ref wa, .int (nI hz), .ref va])), (xb, .inl (cI, 20, .inl x)), (yb, .inl (cI, 20, .inl y)), (za, .inl (cI, 60, .inl (fun j9 => nI (sz j9)))), (ua, .inl (cI, 1200, .inl (fun j9 => nI (rd j9)))), (wa, .inl (cI, 60, .inl (fun j9 => nI (od j9)))), (va, .inl (cI, 20, .inl (fun j9 => nI (hu j9))))] [(cI, .int)]) (q_Qm (dC, dI) (q_in [(o0, .inr (4, [.int th, .int (nI n), .ref xb, .ref yb, .int md, .int (nI q), .ref za, .ref ua, .ref wa, .int (nI hz), .ref va])), (xb, .inl (cI, 20, .inl x)), (yb, .inl (cI, 20, .inl y)), (za, .inl (cI, 60, .inl (fun j9 => nI (sz j9)))), (ua, .inl (cI, 1200, .inl (fun j9 => nI (rd j9)))), (wa, .inl (cI, 60, .inl (fun j9 => nI (od j9)))), (va, .inl (cI, 20, .inl (fun j9 => nI (hu j9))))]) (some (.int R.1)) [(o0, .inr (4, [.int R.2.1, .int (nI n), .ref xb, .ref yb, .int R.2.2.1, .int (nI R.2.2.2.1.2.2), .ref za, .ref ua, .ref wa, .int (nI R.2.2.2.2.2.2), .ref va])), (xb, .inl (cI, 20, .inl x)), (yb, .inl (cI, 20, .inl y)), (za, .inl (cI, 60, .inl (fun j9 => nI (R.2.2.2.1.1 j9)))), (ua, .inl (cI, 1200, .inl (fun j9 => nI (R.2.2.2.1.2.1 j9)))), (wa, .inl (cI, 60, .inl (fun j9 => nI (R.2.2.2.2.1 j9)))), (va, .inl (cI, 20, .inl (fun j9 => nI (R.2.2.2.2.2.1 j9))))]) 0 0 (q_in [(o0, .inr (4, [.int th, .int (nI n), .ref xb, .ref yb, .int md, .int (nI q), .ref za, .ref ua, .ref wa, .int (nI hz), .ref va])), (xb, .inl (cI, 20, .inl x)), (yb, .inl (cI, 20, .inl y)), (za, .inl (cI, 60, .inl (fun j9 => nI (sz j9)))), (ua, .inl (cI, 1200, .inl (fun j9 => nI (rd j9)))), (wa, .inl (cI, 60, .inl (fun j9 => nI (od j9)))), (va, .inl (cI, 20, .inl (fun j9 => nI (hu j9))))]) := by
  refine Met.ofW (cc := cX4_beside) (maxL := 5) (ret := (some .int)) (by decide) rfl ?_
  intro p e s m args below meth c s₁ B hml hv
  obtain ⟨rfl, hP, hK, hD0⟩ := hv
  have hx := B.exec
  have hb := B.bytes
  have hr := B.returns
  have hts := atoms_spec (ws := wsX4_beside) B.pre
  have hown : s.vm.findClass RX4 = some m.cls := findClass_of_methodNamed B.named
  have hlocks := B.notSynchronized
  have hD := q_inD hD0
  generalize hAe : q_in [(o0, .inr (4, [.int th, .int (nI n), .ref xb, .ref yb, .int md, .int (nI q), .ref za, .ref ua, .ref wa, .int (nI hz), .ref va])), (xb, .inl (cI, 20, .inl x)), (yb, .inl (cI, 20, .inl y)), (za, .inl (cI, 60, .inl (fun j9 => nI (sz j9)))), (ua, .inl (cI, 1200, .inl (fun j9 => nI (rd j9)))), (wa, .inl (cI, 60, .inl (fun j9 => nI (od j9)))), (va, .inl (cI, 20, .inl (fun j9 => nI (hu j9))))] = A at hD ⊢
  have hS : va_S A s.heap s.heap [] := va_S.rf
  have hP : va_P (dC, dI) vwCl [(o0, .inr (4, [.int th, .int (nI n), .ref xb, .ref yb, .int md, .int (nI q), .ref za, .ref ua, .ref wa, .int (nI hz), .ref va])), (xb, .inl (cI, 20, .inl x)), (yb, .inl (cI, 20, .inl y)), (za, .inl (cI, 60, .inl (fun j9 => nI (sz j9)))), (ua, .inl (cI, 1200, .inl (fun j9 => nI (rd j9)))), (wa, .inl (cI, 60, .inl (fun j9 => nI (od j9)))), (va, .inl (cI, 20, .inl (fun j9 => nI (hu j9))))] s.heap := hP
  have hl := lv_entry ([.ref o0, .int w, .int i]) (n := 5) (Nat.le_of_ble_eq_true rfl)
  rw [lg_entry_eq]
  generalize (lg_sl ([.ref o0, .int w, .int i]) ++ List.replicate (5 - (lg_sl ([.ref o0, .int w, .int i])).length) Slot.unset).toArray = ls at hl ⊢
  have hl : lv_has ls 5 [(0, .ref o0), (1, .int w), (2, .int i)] := hl
  refine lv_aload_n hx hb dX4_beside_0 rfl (lv_at hl 0 rfl) ?_
  obtain ⟨r1, hr1⟩ : ∃ r : Int32 × ((Nat → Nat) × (Nat → Nat) × Nat) × (Nat → Nat) × (Nat → Nat) × Nat, r_mkR x y n md sz rd q od hu hz N = r := ⟨_, rfl⟩
  refine q_mV (wc' := [(o0, .inr (4, [.int th, .int (nI n), .ref xb, .ref yb, .int r1.1, .int (nI r1.2.1.2.2), .ref za, .ref ua, .ref wa, .int (nI r1.2.2.2.2), .ref va])), (xb, .inl (cI, 20, .inl x)), (yb, .inl (cI, 20, .inl y)), (za, .inl (cI, 60, .inl (fun j9 => nI (r1.2.1.1 j9)))), (ua, .inl (cI, 1200, .inl (fun j9 => nI (r1.2.1.2.1 j9)))), (wa, .inl (cI, 60, .inl (fun j9 => nI (r1.2.2.1 j9)))), (va, .inl (cI, 20, .inl (fun j9 => nI (r1.2.2.2.1 j9))))]) (wsN := [(o0, .inr (4, [.int th, .int (nI n), .ref xb, .ref yb, .int r1.1, .int (nI r1.2.1.2.2), .ref za, .ref ua, .ref wa, .int (nI r1.2.2.2.2), .ref va])), (xb, .inl (cI, 20, .inl x)), (yb, .inl (cI, 20, .inl y)), (za, .inl (cI, 60, .inl (fun j9 => nI (r1.2.1.1 j9)))), (ua, .inl (cI, 1200, .inl (fun j9 => nI (r1.2.1.2.1 j9)))), (wa, .inl (cI, 60, .inl (fun j9 => nI (r1.2.2.1 j9)))), (va, .inl (cI, 20, .inl (fun j9 => nI (r1.2.2.2.1 j9))))]) (As := []) (rest := []) ⟨hx, hb, hml, hown, hts⟩ (c_X4_make l dC dI o0 xb yb za ua wa va cI th md x y sz rd od hu n q hz N (by omega) lo lz lr hG r1 hr1) (cwV 0 hts gX4_beside_X4_make rfl rfl rfl (by decide +kernel) ⟨Nat.le_of_ble_eq_true rfl, Nat.le_of_ble_eq_true rfl⟩) hK hP hD hS [0, 1, 2, 3, 4, 5, 6] [0] 4 0 rfl rfl rfl rfl rfl rfl rfl rfl rfl hl.1 rfl (Nat.le_of_ble_eq_true rfl) ⟨Nat.zero_le _, Nat.zero_le _⟩ dX4_beside_1 rfl (fun H locs hP hD hS => ?_)
  refine W.eq (g2 := F0 m 4 ls []) rfl ?_
  rw [hr1] at hR hst
  have hq9 := hst.2.2.1
  refine lv_iload_n hx hb dX4_beside_4 rfl (lv_at hl 1 rfl) ?_
  refine lv_aload_n hx hb dX4_beside_5 rfl (lv_at hl 0 rfl) ?_
  refine va_get (D := (dC, dI)) (ci := 4) (v := .int (nI r1.2.1.2.2)) (C := RX4) (T := TX4) (N := 11) hx hb hts (by decide +kernel) hown hK hP 0 rfl rfl 5 (by decide) (hts (.fieldLink RX4 65 "CircleCellsModel" "cells" "I") (by decide +kernel)) (fun _ h9 => h9) rfl dX4_beside_6 ?_
  refine q_cS (As := [.int w, .int (nI r1.2.1.2.2)]) (rest := []) ⟨hx, hb, hml, hown, hts⟩ (c_X4_out l dC dI w (nI r1.2.1.2.2)) (va_cwS 2 hts gX4_beside_X4_out rfl rfl rfl (by decide +kernel) ⟨Nat.le_of_ble_eq_true rfl, Nat.le_of_ble_eq_true rfl⟩) (q_pS hK hP [] [] rfl rfl rfl) rfl hl.1 rfl (Nat.le_of_ble_eq_true rfl) ⟨Nat.zero_le _, Nat.zero_le _⟩ dX4_beside_9 ?_
  refine lv_istore_n (lv' := [(3, .int (bI (r_out w (nI r1.2.1.2.2)))), (0, .ref o0), (1, .int w), (2, .int i)]) hx hb dX4_beside_12 rfl hl (by decide) rfl (fun ls hl => ?_)
  refine lv_iload_n hx hb dX4_beside_13 rfl (lv_at hl 0 rfl) ?_
  refine q_ifb_eq (tgt := 21) hx hb dX4_beside_14 (by decide) (fun c14 => ?_) (fun c14 => ?_)
  · rw [r_besR, if_neg (by rw [c14]; decide)] at hR
    rw [c14] at hl
    obtain ⟨k, hk, rfl⟩ := r_out_f (by omega) c14
    rw [nI_clamp (by omega)] at hR
    have lok := hst.2.2.2.1 k
    refine lv_aload_n hx hb dX4_beside_21 rfl (lv_at hl 1 rfl) ?_
    refine va_get (D := (dC, dI)) (ci := 4) (v := .ref wa) (C := RX4) (T := TX4) (N := 11) hx hb hts (by decide +kernel) hown hK hP 0 rfl rfl 8 (by decide) (hts (.fieldLink RX4 22 "CircleCellsModel" "order" "[I") (by decide +kernel)) (fun _ h9 => h9) rfl dX4_beside_22 ?_
    refine lv_iload_n hx hb dX4_beside_25 rfl (lv_at hl 2 rfl) ?_
    refine q_iald hx hb hK hP 5 0 rfl rfl (k) rfl (by omega) (by decide) dX4_beside_26 ?_
    refine lv_istore (lv' := [(4, .int (nI (r1.2.2.1 k))), (3, .int (bI false)), (0, .ref o0), (1, .int (nI k)), (2, .int i)]) hx hb dX4_beside_27 hl (by decide) rfl (fun ls hl => ?_)
    refine lv_aload_n hx hb dX4_beside_29 rfl (lv_at hl 2 rfl) ?_
    refine lv_iload_n hx hb dX4_beside_30 rfl (lv_at hl 1 rfl) ?_
    refine lv_iload_n hx hb dX4_beside_31 rfl (lv_at hl 4 rfl) ?_
    refine lv_aload_n hx hb dX4_beside_32 rfl (lv_at hl 2 rfl) ?_
    refine va_get (D := (dC, dI)) (ci := 4) (v := .ref za) (C := RX4) (T := TX4) (N := 11) hx hb hts (by decide +kernel) hown hK hP 0 rfl rfl 6 (by decide) (hts (.fieldLink RX4 16 "CircleCellsModel" "size" "[I") (by decide +kernel)) (fun _ h9 => h9) rfl dX4_beside_33 ?_
    refine lv_iload hx hb dX4_beside_36 (lv_at hl 0 rfl) ?_
    refine q_iald hx hb hK hP 3 0 rfl rfl (r1.2.2.1 k) rfl (by first | omega | exact hst.2.2.2.1 _) (by decide) dX4_beside_38 ?_
    refine q_cS (As := [.int i, .int (nI (r1.2.1.1 (r1.2.2.1 k)))]) (rest := [.int (bI false), .ref o0]) ⟨hx, hb, hml, hown, hts⟩ (c_X4_out l dC dI i (nI (r1.2.1.1 (r1.2.2.1 k)))) (va_cwS 2 hts gX4_beside_X4_out rfl rfl rfl (by decide +kernel) ⟨Nat.le_of_ble_eq_true rfl, Nat.le_of_ble_eq_true rfl⟩) (q_pS hK hP [] [] rfl rfl rfl) rfl hl.1 rfl (Nat.le_of_ble_eq_true rfl) ⟨Nat.zero_le _, Nat.zero_le _⟩ dX4_beside_39 ?_
    refine q_mV (wc' := [(o0, .inr (4, [.int (r_thr false (r_out i (nI (r1.2.1.1 (r1.2.2.1 k))))), .int (nI n), .ref xb, .ref yb, .int r1.1, .int (nI r1.2.1.2.2), .ref za, .ref ua, .ref wa, .int (nI r1.2.2.2.2), .ref va]))]) (wsN := [(o0, .inr (4, [.int (r_thr false (r_out i (nI (r1.2.1.1 (r1.2.2.1 k))))), .int (nI n), .ref xb, .ref yb, .int r1.1, .int (nI r1.2.1.2.2), .ref za, .ref ua, .ref wa, .int (nI r1.2.2.2.2), .ref va])), (xb, .inl (cI, 20, .inl x)), (yb, .inl (cI, 20, .inl y)), (za, .inl (cI, 60, .inl (fun j9 => nI (r1.2.1.1 j9)))), (ua, .inl (cI, 1200, .inl (fun j9 => nI (r1.2.1.2.1 j9)))), (wa, .inl (cI, 60, .inl (fun j9 => nI (r1.2.2.1 j9)))), (va, .inl (cI, 20, .inl (fun j9 => nI (r1.2.2.2.1 j9))))]) (As := [.int (bI false), .int (bI (r_out i (nI (r1.2.1.1 (r1.2.2.1 k)))))]) (rest := []) ⟨hx, hb, hml, hown, hts⟩ (c_X4_throwing l dC dI o0 xb yb za ua wa va (by omega) th (nI n) r1.1 (nI r1.2.1.2.2) (nI r1.2.2.2.2) false (r_out i (nI (r1.2.1.1 (r1.2.2.1 k))))) (cwV 2 hts gX4_beside_X4_throwing rfl rfl rfl (by decide +kernel) ⟨Nat.le_of_ble_eq_true rfl, Nat.le_of_ble_eq_true rfl⟩) hK hP hD hS [0] [] 4 0 rfl rfl rfl rfl rfl rfl rfl rfl rfl hl.1 rfl (Nat.le_of_ble_eq_true rfl) ⟨Nat.zero_le _, Nat.zero_le _⟩ dX4_beside_42 rfl (fun H locs hP hD hS => ?_)
    refine W.eq (g2 := F0 m 45 ls [.int (bI (false || (r_out i (nI (r1.2.1.1 (r1.2.2.1 k))))))]) rfl ?_
    refine q_ifb_eq (tgt := 50) hx hb dX4_beside_45 (by decide) (fun c45 => ?_) (fun c45 => ?_)
    · have c45 : r_out i (nI (r1.2.1.1 (r1.2.2.1 k))) = false := by simpa using c45
      rw [if_neg (by rw [c45]; decide)] at hR
      rw [c45] at hP hD
      obtain ⟨t, ht2, rfl⟩ := r_out_f (by have := hst.1 (r1.2.2.1 k); omega) c45
      have hz9 := hst.1 (r1.2.2.1 k)
      rw [nI_clamp (show t < 2 ^ 31 by omega)] at hR
      subst hR
      refine lv_aload_n hx hb dX4_beside_50 rfl (lv_at hl 2 rfl) ?_
      refine lv_aload_n hx hb dX4_beside_51 rfl (lv_at hl 2 rfl) ?_
      refine lv_iload hx hb dX4_beside_52 (lv_at hl 0 rfl) ?_
      refine lv_iload_n hx hb dX4_beside_54 rfl (lv_at hl 4 rfl) ?_
      refine q_cV (As := [.int (nI (r1.2.2.1 k)), .int (nI t)]) (rest := [.ref o0]) ⟨hx, hb, hml, hown, hts⟩ (c_X4_after l dC dI o0 xb yb za ua wa va cI 0 (nI n) r1.1 (nI r1.2.1.2.2) (nI r1.2.2.2.2) r1.2.1.1 r1.2.1.2.1 (r1.2.2.1 k) t (by omega) (by omega) hz9) (cwV 2 hts gX4_beside_X4_after rfl rfl rfl (by decide +kernel) ⟨Nat.le_of_ble_eq_true rfl, Nat.le_of_ble_eq_true rfl⟩) (q_pV hK hP [0, 3, 4] [0] 4 0 rfl rfl rfl rfl rfl rfl) rfl hl.1 rfl (Nat.le_of_ble_eq_true rfl) ⟨Nat.zero_le _, Nat.zero_le _⟩ dX4_beside_55 ?_
      refine lv_aload_n hx hb dX4_beside_58 rfl (lv_at hl 2 rfl) ?_
      refine va_get (D := (dC, dI)) (ci := 4) (v := .ref ua) (C := RX4) (T := TX4) (N := 11) hx hb hts (by decide +kernel) hown hK hP 0 rfl rfl 7 (by decide) (hts (.fieldLink RX4 19 "CircleCellsModel" "round" "[I") (by decide +kernel)) (fun _ h9 => h9) rfl dX4_beside_59 ?_
      refine lv_bipush (v := nI 20) hx hb dX4_beside_62 (by decide) ?_
      refine lv_iload hx hb dX4_beside_64 (lv_at hl 0 rfl) ?_
      refine q_imul hx hb dX4_beside_66 ?_
      refine lv_iload_n hx hb dX4_beside_67 rfl (lv_at hl 4 rfl) ?_
      refine q_iadd hx hb dX4_beside_68 ?_
      refine q_iald hx hb hK hP 4 0 rfl rfl ((20 * (r1.2.2.1 k)) + t) rfl (by omega) (by decide) dX4_beside_69 ?_
      refine q_cV (As := [.int (nI (r_after r1.2.1.1 r1.2.1.2.1 (r1.2.2.1 k) t)), .int (nI (r1.2.1.2.1 ((20 * (r1.2.2.1 k)) + t)))]) (rest := []) ⟨hx, hb, hml, hown, hts⟩ (c_X4_withSide l dC dI o0 xb yb za ua wa va cI 0 (nI n) r1.1 (nI r1.2.2.2.2) r1.2.2.1 r1.2.1.1 r1.2.1.2.1 r1.2.1.2.2 (r_after r1.2.1.1 r1.2.1.2.1 (r1.2.2.1 k) t) (r1.2.1.2.1 ((20 * (r1.2.2.1 k)) + t)) (by omega) (hst.2.1 _) (hst.2.1 _) (fun j _ => hst.2.2.2.1 j) hst.1 hst.2.1) (cwV 2 hts gX4_beside_X4_withSide rfl rfl rfl (by decide +kernel) ⟨Nat.le_of_ble_eq_true rfl, Nat.le_of_ble_eq_true rfl⟩) (q_pV hK hP [0, 3, 4, 5] [0] 4 0 rfl rfl rfl rfl rfl rfl) rfl hl.1 rfl (Nat.le_of_ble_eq_true rfl) ⟨Nat.zero_le _, Nat.zero_le _⟩ dX4_beside_70 ?_
      exact W.iret (v := r_ws r1.2.2.1 r1.2.1.1 r1.2.1.2.1 r1.2.1.2.2 (r_after r1.2.1.1 r1.2.1.2.1 (r1.2.2.1 k) t) (r1.2.1.2.1 ((20 * (r1.2.2.1 k)) + t)) 0) hx hb hr (q_retm hP hS) hS.2.2 dX4_beside_73
    · have c45 : r_out i (nI (r1.2.1.1 (r1.2.2.1 k))) = true := by simpa using c45
      rw [if_pos c45] at hR
      rw [c45] at hP
      subst hR
      refine lv_iconst (v := 0) hx hb dX4_beside_48 (by decide) ?_
      exact W.iret (v := 0) hx hb hr (q_retm hP hS) hS.2.2 dX4_beside_49
  · rw [r_besR, if_pos c14] at hR
    subst hR
    rw [c14] at hl
    refine lv_iconst (v := nI 0) hx hb dX4_beside_17 (by decide) ?_
    refine lv_goto (tgt := 27) hx hb dX4_beside_18 (by decide) ?_
    refine lv_istore (lv' := [(4, .int (nI 0)), (3, .int (bI true)), (0, .ref o0), (1, .int w), (2, .int i)]) hx hb dX4_beside_27 hl (by decide) rfl (fun ls hl => ?_)
    refine lv_aload_n hx hb dX4_beside_29 rfl (lv_at hl 2 rfl) ?_
    refine lv_iload_n hx hb dX4_beside_30 rfl (lv_at hl 1 rfl) ?_
    refine lv_iload_n hx hb dX4_beside_31 rfl (lv_at hl 4 rfl) ?_
    refine lv_aload_n hx hb dX4_beside_32 rfl (lv_at hl 2 rfl) ?_
    refine va_get (D := (dC, dI)) (ci := 4) (v := .ref za) (C := RX4) (T := TX4) (N := 11) hx hb hts (by decide +kernel) hown hK hP 0 rfl rfl 6 (by decide) (hts (.fieldLink RX4 16 "CircleCellsModel" "size" "[I") (by decide +kernel)) (fun _ h9 => h9) rfl dX4_beside_33 ?_
    refine lv_iload hx hb dX4_beside_36 (lv_at hl 0 rfl) ?_
    refine q_iald hx hb hK hP 3 0 rfl rfl (0) rfl (by first | omega | exact hst.2.2.2.1 _) (by decide) dX4_beside_38 ?_
    refine q_cS (As := [.int i, .int (nI (r1.2.1.1 0))]) (rest := [.int (bI true), .ref o0]) ⟨hx, hb, hml, hown, hts⟩ (c_X4_out l dC dI i (nI (r1.2.1.1 0))) (va_cwS 2 hts gX4_beside_X4_out rfl rfl rfl (by decide +kernel) ⟨Nat.le_of_ble_eq_true rfl, Nat.le_of_ble_eq_true rfl⟩) (q_pS hK hP [] [] rfl rfl rfl) rfl hl.1 rfl (Nat.le_of_ble_eq_true rfl) ⟨Nat.zero_le _, Nat.zero_le _⟩ dX4_beside_39 ?_
    refine q_mV (wc' := [(o0, .inr (4, [.int (r_thr true (r_out i (nI (r1.2.1.1 0)))), .int (nI n), .ref xb, .ref yb, .int r1.1, .int (nI r1.2.1.2.2), .ref za, .ref ua, .ref wa, .int (nI r1.2.2.2.2), .ref va]))]) (wsN := [(o0, .inr (4, [.int (r_thr true (r_out i (nI (r1.2.1.1 0)))), .int (nI n), .ref xb, .ref yb, .int r1.1, .int (nI r1.2.1.2.2), .ref za, .ref ua, .ref wa, .int (nI r1.2.2.2.2), .ref va])), (xb, .inl (cI, 20, .inl x)), (yb, .inl (cI, 20, .inl y)), (za, .inl (cI, 60, .inl (fun j9 => nI (r1.2.1.1 j9)))), (ua, .inl (cI, 1200, .inl (fun j9 => nI (r1.2.1.2.1 j9)))), (wa, .inl (cI, 60, .inl (fun j9 => nI (r1.2.2.1 j9)))), (va, .inl (cI, 20, .inl (fun j9 => nI (r1.2.2.2.1 j9))))]) (As := [.int (bI true), .int (bI (r_out i (nI (r1.2.1.1 0))))]) (rest := []) ⟨hx, hb, hml, hown, hts⟩ (c_X4_throwing l dC dI o0 xb yb za ua wa va (by omega) th (nI n) r1.1 (nI r1.2.1.2.2) (nI r1.2.2.2.2) true (r_out i (nI (r1.2.1.1 0)))) (cwV 2 hts gX4_beside_X4_throwing rfl rfl rfl (by decide +kernel) ⟨Nat.le_of_ble_eq_true rfl, Nat.le_of_ble_eq_true rfl⟩) hK hP hD hS [0] [] 4 0 rfl rfl rfl rfl rfl rfl rfl rfl rfl hl.1 rfl (Nat.le_of_ble_eq_true rfl) ⟨Nat.zero_le _, Nat.zero_le _⟩ dX4_beside_42 rfl (fun H locs hP hD hS => ?_)
    refine W.eq (g2 := F0 m 45 ls [.int (bI (true || (r_out i (nI (r1.2.1.1 0)))))]) rfl ?_
    refine q_ifb_eq (tgt := 50) hx hb dX4_beside_45 (by decide) (fun c45 => ?_) (fun c45 => ?_)
    · simp at c45
    · refine lv_iconst (v := 0) hx hb dX4_beside_48 (by decide) ?_
      exact W.iret (v := 0) hx hb hr (q_retm hP hS) hS.2.2 dX4_beside_49
set_option maxHeartbeats 4000000 in
set_option maxRecDepth 100000 in
theorem c_X4_hull (l : Launch) (dC : Nat → ClassId) (dI : Nat → Nat → Nat) (o0 xb yb za ua wa va : Nat) (cI : ClassId) (th md : Int32) (x y : Nat → Int32) (sz rd od hu : Nat → Nat) (n q hz N : Nat) (i : Int32) (ln : n ≤ 20) (lo : ∀ j, od j < 60) (lz : ∀ j, sz j ≤ 20) (lr : ∀ j, rd j < 20) (hG : md = 0 → r_good x y n sz rd od N) (hst : r_st (r_mkR x y n md sz rd q od hu hz N)) (R : Int32 × Int32 × Int32 × ((Nat → Nat) × (Nat → Nat) × Nat) × (Nat → Nat) × (Nat → Nat) × Nat) (hR : r_hulR i (r_mkR x y n md sz rd q od hu hz N) = R) : Met l yX4_hull wsX4_hull ({ frames := 5, cells := 0, slots := 0, locals := 117 }) (q_Pm (dC, dI) [.ref o0, .int i] [(o0, .inr (4, [.int th, .int (nI n), .ref xb, .ref yb, .int md, .int (nI q), .ref za, .ref ua, .ref wa, .int (nI hz), .ref va])), (xb, .inl (cI, 20, .inl x)), (yb, .inl (cI, 20, .inl y)), (za, .inl (cI, 60, .inl (fun j9 => nI (sz j9)))), (ua, .inl (cI, 1200, .inl (fun j9 => nI (rd j9)))), (wa, .inl (cI, 60, .inl (fun j9 => nI (od j9)))), (va, .inl (cI, 20, .inl (fun j9 => nI (hu j9))))] [(cI, .int)]) (q_Qm (dC, dI) (q_in [(o0, .inr (4, [.int th, .int (nI n), .ref xb, .ref yb, .int md, .int (nI q), .ref za, .ref ua, .ref wa, .int (nI hz), .ref va])), (xb, .inl (cI, 20, .inl x)), (yb, .inl (cI, 20, .inl y)), (za, .inl (cI, 60, .inl (fun j9 => nI (sz j9)))), (ua, .inl (cI, 1200, .inl (fun j9 => nI (rd j9)))), (wa, .inl (cI, 60, .inl (fun j9 => nI (od j9)))), (va, .inl (cI, 20, .inl (fun j9 => nI (hu j9))))]) (some (.int R.1)) [(o0, .inr (4, [.int R.2.1, .int (nI n), .ref xb, .ref yb, .int R.2.2.1, .int (nI R.2.2.2.1.2.2), .ref za, .ref ua, .ref wa, .int (nI R.2.2.2.2.2.2), .ref va])), (xb, .inl (cI, 20, .inl x)), (yb, .inl (cI, 20, .inl y)), (za, .inl (cI, 60, .inl (fun j9 => nI (R.2.2.2.1.1 j9)))), (ua, .inl (cI, 1200, .inl (fun j9 => nI (R.2.2.2.1.2.1 j9)))), (wa, .inl (cI, 60, .inl (fun j9 => nI (R.2.2.2.2.1 j9)))), (va, .inl (cI, 20, .inl (fun j9 => nI (R.2.2.2.2.2.1 j9))))]) 0 0 (q_in [(o0, .inr (4, [.int th, .int (nI n), .ref xb, .ref yb, .int md, .int (nI q), .ref za, .ref ua, .ref wa, .int (nI hz), .ref va])), (xb, .inl (cI, 20, .inl x)), (yb, .inl (cI, 20, .inl y)), (za, .inl (cI, 60, .inl (fun j9 => nI (sz j9)))), (ua, .inl (cI, 1200, .inl (fun j9 => nI (rd j9)))), (wa, .inl (cI, 60, .inl (fun j9 => nI (od j9)))), (va, .inl (cI, 20, .inl (fun j9 => nI (hu j9))))]) := by
  refine Met.ofW (cc := cX4_hull) (maxL := 2) (ret := (some .int)) (by decide) rfl ?_
  intro p e s m args below meth c s₁ B hml hv
  obtain ⟨rfl, hP, hK, hD0⟩ := hv
  have hx := B.exec
  have hb := B.bytes
  have hr := B.returns
  have hts := atoms_spec (ws := wsX4_hull) B.pre
  have hown : s.vm.findClass RX4 = some m.cls := findClass_of_methodNamed B.named
  have hlocks := B.notSynchronized
  have hD := q_inD hD0
  generalize hAe : q_in [(o0, .inr (4, [.int th, .int (nI n), .ref xb, .ref yb, .int md, .int (nI q), .ref za, .ref ua, .ref wa, .int (nI hz), .ref va])), (xb, .inl (cI, 20, .inl x)), (yb, .inl (cI, 20, .inl y)), (za, .inl (cI, 60, .inl (fun j9 => nI (sz j9)))), (ua, .inl (cI, 1200, .inl (fun j9 => nI (rd j9)))), (wa, .inl (cI, 60, .inl (fun j9 => nI (od j9)))), (va, .inl (cI, 20, .inl (fun j9 => nI (hu j9))))] = A at hD ⊢
  have hS : va_S A s.heap s.heap [] := va_S.rf
  have hP : va_P (dC, dI) vwCl [(o0, .inr (4, [.int th, .int (nI n), .ref xb, .ref yb, .int md, .int (nI q), .ref za, .ref ua, .ref wa, .int (nI hz), .ref va])), (xb, .inl (cI, 20, .inl x)), (yb, .inl (cI, 20, .inl y)), (za, .inl (cI, 60, .inl (fun j9 => nI (sz j9)))), (ua, .inl (cI, 1200, .inl (fun j9 => nI (rd j9)))), (wa, .inl (cI, 60, .inl (fun j9 => nI (od j9)))), (va, .inl (cI, 20, .inl (fun j9 => nI (hu j9))))] s.heap := hP
  have hl := lv_entry ([.ref o0, .int i]) (n := 2) (Nat.le_of_ble_eq_true rfl)
  rw [lg_entry_eq]
  generalize (lg_sl ([.ref o0, .int i]) ++ List.replicate (2 - (lg_sl ([.ref o0, .int i])).length) Slot.unset).toArray = ls at hl ⊢
  have hl : lv_has ls 2 [(0, .ref o0), (1, .int i)] := hl
  refine lv_aload_n hx hb dX4_hull_0 rfl (lv_at hl 0 rfl) ?_
  obtain ⟨r1, hr1⟩ : ∃ r : Int32 × ((Nat → Nat) × (Nat → Nat) × Nat) × (Nat → Nat) × (Nat → Nat) × Nat, r_mkR x y n md sz rd q od hu hz N = r := ⟨_, rfl⟩
  refine q_mV (wc' := [(o0, .inr (4, [.int th, .int (nI n), .ref xb, .ref yb, .int r1.1, .int (nI r1.2.1.2.2), .ref za, .ref ua, .ref wa, .int (nI r1.2.2.2.2), .ref va])), (xb, .inl (cI, 20, .inl x)), (yb, .inl (cI, 20, .inl y)), (za, .inl (cI, 60, .inl (fun j9 => nI (r1.2.1.1 j9)))), (ua, .inl (cI, 1200, .inl (fun j9 => nI (r1.2.1.2.1 j9)))), (wa, .inl (cI, 60, .inl (fun j9 => nI (r1.2.2.1 j9)))), (va, .inl (cI, 20, .inl (fun j9 => nI (r1.2.2.2.1 j9))))]) (wsN := [(o0, .inr (4, [.int th, .int (nI n), .ref xb, .ref yb, .int r1.1, .int (nI r1.2.1.2.2), .ref za, .ref ua, .ref wa, .int (nI r1.2.2.2.2), .ref va])), (xb, .inl (cI, 20, .inl x)), (yb, .inl (cI, 20, .inl y)), (za, .inl (cI, 60, .inl (fun j9 => nI (r1.2.1.1 j9)))), (ua, .inl (cI, 1200, .inl (fun j9 => nI (r1.2.1.2.1 j9)))), (wa, .inl (cI, 60, .inl (fun j9 => nI (r1.2.2.1 j9)))), (va, .inl (cI, 20, .inl (fun j9 => nI (r1.2.2.2.1 j9))))]) (As := []) (rest := []) ⟨hx, hb, hml, hown, hts⟩ (c_X4_make l dC dI o0 xb yb za ua wa va cI th md x y sz rd od hu n q hz N (by omega) lo lz lr hG r1 hr1) (cwV 0 hts gX4_hull_X4_make rfl rfl rfl (by decide +kernel) ⟨Nat.le_of_ble_eq_true rfl, Nat.le_of_ble_eq_true rfl⟩) hK hP hD hS [0, 1, 2, 3, 4, 5, 6] [0] 4 0 rfl rfl rfl rfl rfl rfl rfl rfl rfl hl.1 rfl (Nat.le_of_ble_eq_true rfl) ⟨Nat.zero_le _, Nat.zero_le _⟩ dX4_hull_1 rfl (fun H locs hP hD hS => ?_)
  refine W.eq (g2 := F0 m 4 ls []) rfl ?_
  rw [hr1] at hR hst
  have hz9 := hst.2.2.2.2
  refine lv_aload_n hx hb dX4_hull_4 rfl (lv_at hl 0 rfl) ?_
  refine lv_iload_n hx hb dX4_hull_5 rfl (lv_at hl 1 rfl) ?_
  refine lv_iconst (v := (-1)) hx hb dX4_hull_6 (by decide) ?_
  refine lv_icmp_lt (tgt := 18) hx hb dX4_hull_7 (by decide) (fun c7 => ?_) (fun c7 => ?_)
  · rw [r_hulR, if_pos c7] at hR
    subst hR
    refine lv_iconst (v := bI true) hx hb dX4_hull_18 (by decide) ?_
    refine lv_goto (tgt := 23) hx hb dX4_hull_19 (by decide) ?_
    refine lv_iconst (v := bI false) hx hb dX4_hull_23 (by decide) ?_
    refine q_mV (wc' := [(o0, .inr (4, [.int (r_thr true false), .int (nI n), .ref xb, .ref yb, .int r1.1, .int (nI r1.2.1.2.2), .ref za, .ref ua, .ref wa, .int (nI r1.2.2.2.2), .ref va]))]) (wsN := [(o0, .inr (4, [.int (r_thr true false), .int (nI n), .ref xb, .ref yb, .int r1.1, .int (nI r1.2.1.2.2), .ref za, .ref ua, .ref wa, .int (nI r1.2.2.2.2), .ref va])), (xb, .inl (cI, 20, .inl x)), (yb, .inl (cI, 20, .inl y)), (za, .inl (cI, 60, .inl (fun j9 => nI (r1.2.1.1 j9)))), (ua, .inl (cI, 1200, .inl (fun j9 => nI (r1.2.1.2.1 j9)))), (wa, .inl (cI, 60, .inl (fun j9 => nI (r1.2.2.1 j9)))), (va, .inl (cI, 20, .inl (fun j9 => nI (r1.2.2.2.1 j9))))]) (As := [.int (bI true), .int (bI false)]) (rest := []) ⟨hx, hb, hml, hown, hts⟩ (c_X4_throwing l dC dI o0 xb yb za ua wa va (by omega) th (nI n) r1.1 (nI r1.2.1.2.2) (nI r1.2.2.2.2) true false) (cwV 2 hts gX4_hull_X4_throwing rfl rfl rfl (by decide +kernel) ⟨Nat.le_of_ble_eq_true rfl, Nat.le_of_ble_eq_true rfl⟩) hK hP hD hS [0] [] 4 0 rfl rfl rfl rfl rfl rfl rfl rfl rfl hl.1 rfl (Nat.le_of_ble_eq_true rfl) ⟨Nat.zero_le _, Nat.zero_le _⟩ dX4_hull_24 rfl (fun H locs hP hD hS => ?_)
    refine W.eq (g2 := F0 m 27 ls [.int (bI (true || false))]) rfl ?_
    refine q_ifb_eq (tgt := 32) hx hb dX4_hull_27 (by decide) (fun c27 => ?_) (fun c27 => ?_)
    · exact absurd c27 (by decide)
    · refine lv_iconst (v := 0) hx hb dX4_hull_30 (by decide) ?_
      exact W.iret (v := 0) hx hb hr (q_retm hP hS) hS.2.2 dX4_hull_31
  · rw [r_hulR, if_neg c7] at hR
    refine lv_iload_n hx hb dX4_hull_10 rfl (lv_at hl 1 rfl) ?_
    refine lv_aload_n hx hb dX4_hull_11 rfl (lv_at hl 0 rfl) ?_
    refine va_get (D := (dC, dI)) (ci := 4) (v := .int (nI r1.2.2.2.2)) (C := RX4) (T := TX4) (N := 11) hx hb hts (by decide +kernel) hown hK hP 0 rfl rfl 9 (by decide) (hts (.fieldLink RX4 72 "CircleCellsModel" "hullSize" "I") (by decide +kernel)) (fun _ h9 => h9) rfl dX4_hull_12 ?_
    refine lv_icmp_lt (tgt := 22) hx hb dX4_hull_15 (by decide) (fun c15 => ?_) (fun c15 => ?_)
    · rw [if_pos c15] at hR
      refine lv_iconst (v := bI false) hx hb dX4_hull_22 (by decide) ?_
      refine lv_iconst (v := bI false) hx hb dX4_hull_23 (by decide) ?_
      refine q_mV (wc' := [(o0, .inr (4, [.int (r_thr false false), .int (nI n), .ref xb, .ref yb, .int r1.1, .int (nI r1.2.1.2.2), .ref za, .ref ua, .ref wa, .int (nI r1.2.2.2.2), .ref va]))]) (wsN := [(o0, .inr (4, [.int (r_thr false false), .int (nI n), .ref xb, .ref yb, .int r1.1, .int (nI r1.2.1.2.2), .ref za, .ref ua, .ref wa, .int (nI r1.2.2.2.2), .ref va])), (xb, .inl (cI, 20, .inl x)), (yb, .inl (cI, 20, .inl y)), (za, .inl (cI, 60, .inl (fun j9 => nI (r1.2.1.1 j9)))), (ua, .inl (cI, 1200, .inl (fun j9 => nI (r1.2.1.2.1 j9)))), (wa, .inl (cI, 60, .inl (fun j9 => nI (r1.2.2.1 j9)))), (va, .inl (cI, 20, .inl (fun j9 => nI (r1.2.2.2.1 j9))))]) (As := [.int (bI false), .int (bI false)]) (rest := []) ⟨hx, hb, hml, hown, hts⟩ (c_X4_throwing l dC dI o0 xb yb za ua wa va (by omega) th (nI n) r1.1 (nI r1.2.1.2.2) (nI r1.2.2.2.2) false false) (cwV 2 hts gX4_hull_X4_throwing rfl rfl rfl (by decide +kernel) ⟨Nat.le_of_ble_eq_true rfl, Nat.le_of_ble_eq_true rfl⟩) hK hP hD hS [0] [] 4 0 rfl rfl rfl rfl rfl rfl rfl rfl rfl hl.1 rfl (Nat.le_of_ble_eq_true rfl) ⟨Nat.zero_le _, Nat.zero_le _⟩ dX4_hull_24 rfl (fun H locs hP hD hS => ?_)
      refine W.eq (g2 := F0 m 27 ls [.int (bI (false || false))]) rfl ?_
      refine q_ifb_eq (tgt := 32) hx hb dX4_hull_27 (by decide) (fun c27 => ?_) (fun c27 => ?_)
      · refine lv_iload_n hx hb dX4_hull_32 rfl (lv_at hl 1 rfl) ?_
        refine lv_if_ge (tgt := 43) hx hb dX4_hull_33 (by decide) (fun c33 => ?_) (fun c33 => ?_)
        · rw [if_pos c33] at hR
          obtain ⟨t, ht, rfl⟩ := nI_of (k2_nlt c33)
          have ht2 : t < r1.2.2.2.2 := (nI_ltI ht (by omega)).mp c15
          rw [nI_clamp ht] at hR
          subst hR
          refine lv_aload_n hx hb dX4_hull_43 rfl (lv_at hl 0 rfl) ?_
          refine va_get (D := (dC, dI)) (ci := 4) (v := .ref va) (C := RX4) (T := TX4) (N := 11) hx hb hts (by decide +kernel) hown hK hP 0 rfl rfl 10 (by decide) (hts (.fieldLink RX4 25 "CircleCellsModel" "hull" "[I") (by decide +kernel)) (fun _ h9 => h9) rfl dX4_hull_44 ?_
          refine lv_iload_n hx hb dX4_hull_47 rfl (lv_at hl 1 rfl) ?_
          refine q_iald hx hb hK hP 6 0 rfl rfl (t) rfl (by omega) (by decide) dX4_hull_48 ?_
          exact W.iret (v := nI (r1.2.2.2.1 t)) hx hb hr (q_retm hP hS) hS.2.2 dX4_hull_49
        · rw [if_neg c33] at hR
          subst hR
          refine lv_aload_n hx hb dX4_hull_36 rfl (lv_at hl 0 rfl) ?_
          refine va_get (D := (dC, dI)) (ci := 4) (v := .int (nI r1.2.2.2.2)) (C := RX4) (T := TX4) (N := 11) hx hb hts (by decide +kernel) hown hK hP 0 rfl rfl 9 (by decide) (hts (.fieldLink RX4 72 "CircleCellsModel" "hullSize" "I") (by decide +kernel)) (fun _ h9 => h9) rfl dX4_hull_37 ?_
          refine lv_goto (tgt := 49) hx hb dX4_hull_40 (by decide) ?_
          exact W.iret (v := nI r1.2.2.2.2) hx hb hr (q_retm hP hS) hS.2.2 dX4_hull_49
      · exact absurd c27 (by decide)
    · rw [if_neg c15] at hR
      subst hR
      refine lv_iconst (v := bI true) hx hb dX4_hull_18 (by decide) ?_
      refine lv_goto (tgt := 23) hx hb dX4_hull_19 (by decide) ?_
      refine lv_iconst (v := bI false) hx hb dX4_hull_23 (by decide) ?_
      refine q_mV (wc' := [(o0, .inr (4, [.int (r_thr true false), .int (nI n), .ref xb, .ref yb, .int r1.1, .int (nI r1.2.1.2.2), .ref za, .ref ua, .ref wa, .int (nI r1.2.2.2.2), .ref va]))]) (wsN := [(o0, .inr (4, [.int (r_thr true false), .int (nI n), .ref xb, .ref yb, .int r1.1, .int (nI r1.2.1.2.2), .ref za, .ref ua, .ref wa, .int (nI r1.2.2.2.2), .ref va])), (xb, .inl (cI, 20, .inl x)), (yb, .inl (cI, 20, .inl y)), (za, .inl (cI, 60, .inl (fun j9 => nI (r1.2.1.1 j9)))), (ua, .inl (cI, 1200, .inl (fun j9 => nI (r1.2.1.2.1 j9)))), (wa, .inl (cI, 60, .inl (fun j9 => nI (r1.2.2.1 j9)))), (va, .inl (cI, 20, .inl (fun j9 => nI (r1.2.2.2.1 j9))))]) (As := [.int (bI true), .int (bI false)]) (rest := []) ⟨hx, hb, hml, hown, hts⟩ (c_X4_throwing l dC dI o0 xb yb za ua wa va (by omega) th (nI n) r1.1 (nI r1.2.1.2.2) (nI r1.2.2.2.2) true false) (cwV 2 hts gX4_hull_X4_throwing rfl rfl rfl (by decide +kernel) ⟨Nat.le_of_ble_eq_true rfl, Nat.le_of_ble_eq_true rfl⟩) hK hP hD hS [0] [] 4 0 rfl rfl rfl rfl rfl rfl rfl rfl rfl hl.1 rfl (Nat.le_of_ble_eq_true rfl) ⟨Nat.zero_le _, Nat.zero_le _⟩ dX4_hull_24 rfl (fun H locs hP hD hS => ?_)
      refine W.eq (g2 := F0 m 27 ls [.int (bI (true || false))]) rfl ?_
      refine q_ifb_eq (tgt := 32) hx hb dX4_hull_27 (by decide) (fun c27 => ?_) (fun c27 => ?_)
      · exact absurd c27 (by decide)
      · refine lv_iconst (v := 0) hx hb dX4_hull_30 (by decide) ?_
        exact W.iret (v := 0) hx hb hr (q_retm hP hS) hS.2.2 dX4_hull_31
set_option maxHeartbeats 4000000 in
set_option maxRecDepth 100000 in
theorem c_X4_around (l : Launch) (dC : Nat → ClassId) (dI : Nat → Nat → Nat) (o0 xb yb za ua wa va : Nat) (cI : ClassId) (th md : Int32) (x y : Nat → Int32) (sz rd od hu : Nat → Nat) (n q hz N : Nat) (px py : Int32) (ln : n ≤ 20) (lo : ∀ j, od j < 60) (lz : ∀ j, sz j ≤ 20) (lr : ∀ j, rd j < 20) (hG : md = 0 → r_good x y n sz rd od N) (hst : r_st (r_mkR x y n md sz rd q od hu hz N)) (R : Int32 × Int32 × Int32 × ((Nat → Nat) × (Nat → Nat) × Nat) × (Nat → Nat) × (Nat → Nat) × Nat) (hR : r_aroR x y px py (md, (sz, rd, q), od, hu, hz) (r_mkR x y n md sz rd q od hu hz N) = R) : Met l yX4_around wsX4_around ({ frames := 5, cells := 0, slots := 0, locals := 117 }) (q_Pm (dC, dI) [.ref o0, .int px, .int py] [(o0, .inr (4, [.int th, .int (nI n), .ref xb, .ref yb, .int md, .int (nI q), .ref za, .ref ua, .ref wa, .int (nI hz), .ref va])), (xb, .inl (cI, 20, .inl x)), (yb, .inl (cI, 20, .inl y)), (za, .inl (cI, 60, .inl (fun j9 => nI (sz j9)))), (ua, .inl (cI, 1200, .inl (fun j9 => nI (rd j9)))), (wa, .inl (cI, 60, .inl (fun j9 => nI (od j9)))), (va, .inl (cI, 20, .inl (fun j9 => nI (hu j9))))] [(cI, .int)]) (q_Qm (dC, dI) (q_in [(o0, .inr (4, [.int th, .int (nI n), .ref xb, .ref yb, .int md, .int (nI q), .ref za, .ref ua, .ref wa, .int (nI hz), .ref va])), (xb, .inl (cI, 20, .inl x)), (yb, .inl (cI, 20, .inl y)), (za, .inl (cI, 60, .inl (fun j9 => nI (sz j9)))), (ua, .inl (cI, 1200, .inl (fun j9 => nI (rd j9)))), (wa, .inl (cI, 60, .inl (fun j9 => nI (od j9)))), (va, .inl (cI, 20, .inl (fun j9 => nI (hu j9))))]) (some (.int R.1)) [(o0, .inr (4, [.int R.2.1, .int (nI n), .ref xb, .ref yb, .int R.2.2.1, .int (nI R.2.2.2.1.2.2), .ref za, .ref ua, .ref wa, .int (nI R.2.2.2.2.2.2), .ref va])), (xb, .inl (cI, 20, .inl x)), (yb, .inl (cI, 20, .inl y)), (za, .inl (cI, 60, .inl (fun j9 => nI (R.2.2.2.1.1 j9)))), (ua, .inl (cI, 1200, .inl (fun j9 => nI (R.2.2.2.1.2.1 j9)))), (wa, .inl (cI, 60, .inl (fun j9 => nI (R.2.2.2.2.1 j9)))), (va, .inl (cI, 20, .inl (fun j9 => nI (R.2.2.2.2.2.1 j9))))]) 0 0 (q_in [(o0, .inr (4, [.int th, .int (nI n), .ref xb, .ref yb, .int md, .int (nI q), .ref za, .ref ua, .ref wa, .int (nI hz), .ref va])), (xb, .inl (cI, 20, .inl x)), (yb, .inl (cI, 20, .inl y)), (za, .inl (cI, 60, .inl (fun j9 => nI (sz j9)))), (ua, .inl (cI, 1200, .inl (fun j9 => nI (rd j9)))), (wa, .inl (cI, 60, .inl (fun j9 => nI (od j9)))), (va, .inl (cI, 20, .inl (fun j9 => nI (hu j9))))]) := by
  refine Met.ofW (cc := cX4_around) (maxL := 7) (ret := (some .int)) (by decide) rfl ?_
  intro p e s m args below meth c s₁ B hml hv
  obtain ⟨rfl, hP, hK, hD0⟩ := hv
  have hx := B.exec
  have hb := B.bytes
  have hr := B.returns
  have hts := atoms_spec (ws := wsX4_around) B.pre
  have hown : s.vm.findClass RX4 = some m.cls := findClass_of_methodNamed B.named
  have hlocks := B.notSynchronized
  have hD := q_inD hD0
  generalize hAe : q_in [(o0, .inr (4, [.int th, .int (nI n), .ref xb, .ref yb, .int md, .int (nI q), .ref za, .ref ua, .ref wa, .int (nI hz), .ref va])), (xb, .inl (cI, 20, .inl x)), (yb, .inl (cI, 20, .inl y)), (za, .inl (cI, 60, .inl (fun j9 => nI (sz j9)))), (ua, .inl (cI, 1200, .inl (fun j9 => nI (rd j9)))), (wa, .inl (cI, 60, .inl (fun j9 => nI (od j9)))), (va, .inl (cI, 20, .inl (fun j9 => nI (hu j9))))] = A at hD ⊢
  have hS : va_S A s.heap s.heap [] := va_S.rf
  have hP : va_P (dC, dI) vwCl [(o0, .inr (4, [.int th, .int (nI n), .ref xb, .ref yb, .int md, .int (nI q), .ref za, .ref ua, .ref wa, .int (nI hz), .ref va])), (xb, .inl (cI, 20, .inl x)), (yb, .inl (cI, 20, .inl y)), (za, .inl (cI, 60, .inl (fun j9 => nI (sz j9)))), (ua, .inl (cI, 1200, .inl (fun j9 => nI (rd j9)))), (wa, .inl (cI, 60, .inl (fun j9 => nI (od j9)))), (va, .inl (cI, 20, .inl (fun j9 => nI (hu j9))))] s.heap := hP
  have hl := lv_entry ([.ref o0, .int px, .int py]) (n := 7) (Nat.le_of_ble_eq_true rfl)
  rw [lg_entry_eq]
  generalize (lg_sl ([.ref o0, .int px, .int py]) ++ List.replicate (7 - (lg_sl ([.ref o0, .int px, .int py])).length) Slot.unset).toArray = ls at hl ⊢
  have hl : lv_has ls 7 [(0, .ref o0), (1, .int px), (2, .int py)] := hl
  refine lv_aload_n hx hb dX4_around_0 rfl (lv_at hl 0 rfl) ?_
  refine lv_iload_n hx hb dX4_around_1 rfl (lv_at hl 1 rfl) ?_
  refine lv_iload_n hx hb dX4_around_2 rfl (lv_at hl 2 rfl) ?_
  refine q_cS (As := [.int px, .int py]) (rest := [.ref o0]) ⟨hx, hb, hml, hown, hts⟩ (c_X4_isFar l dC dI px py) (va_cwS 2 hts gX4_around_X4_isFar rfl rfl rfl (by decide +kernel) ⟨Nat.le_of_ble_eq_true rfl, Nat.le_of_ble_eq_true rfl⟩) (q_pS hK hP [] [] rfl rfl rfl) rfl hl.1 rfl (Nat.le_of_ble_eq_true rfl) ⟨Nat.zero_le _, Nat.zero_le _⟩ dX4_around_3 ?_
  refine lv_iconst (v := bI false) hx hb dX4_around_6 (by decide) ?_
  refine q_mV (wc' := [(o0, .inr (4, [.int (r_thr (r_far px py) false), .int (nI n), .ref xb, .ref yb, .int md, .int (nI q), .ref za, .ref ua, .ref wa, .int (nI hz), .ref va]))]) (wsN := [(o0, .inr (4, [.int (r_thr (r_far px py) false), .int (nI n), .ref xb, .ref yb, .int md, .int (nI q), .ref za, .ref ua, .ref wa, .int (nI hz), .ref va])), (xb, .inl (cI, 20, .inl x)), (yb, .inl (cI, 20, .inl y)), (za, .inl (cI, 60, .inl (fun j9 => nI (sz j9)))), (ua, .inl (cI, 1200, .inl (fun j9 => nI (rd j9)))), (wa, .inl (cI, 60, .inl (fun j9 => nI (od j9)))), (va, .inl (cI, 20, .inl (fun j9 => nI (hu j9))))]) (As := [.int (bI (r_far px py)), .int (bI false)]) (rest := []) ⟨hx, hb, hml, hown, hts⟩ (c_X4_throwing l dC dI o0 xb yb za ua wa va (by omega) th (nI n) md (nI q) (nI hz) (r_far px py) false) (cwV 2 hts gX4_around_X4_throwing rfl rfl rfl (by decide +kernel) ⟨Nat.le_of_ble_eq_true rfl, Nat.le_of_ble_eq_true rfl⟩) hK hP hD hS [0] [] 4 0 rfl rfl rfl rfl rfl rfl rfl rfl rfl hl.1 rfl (Nat.le_of_ble_eq_true rfl) ⟨Nat.zero_le _, Nat.zero_le _⟩ dX4_around_7 rfl (fun H locs hP hD hS => ?_)
  refine W.eq (g2 := F0 m 10 ls [.int (bI ((r_far px py) || false))]) rfl ?_
  refine q_ifb_eq (tgt := 15) hx hb dX4_around_10 (by decide) (fun c10 => ?_) (fun c10 => ?_)
  · have c10 : r_far px py = false := by simpa using c10
    rw [r_aroR, if_neg (by rw [c10]; decide)] at hR
    rw [c10] at hP hD
    have hP : va_P (dC, dI) vwCl [(o0, .inr (4, [.int 0, .int (nI n), .ref xb, .ref yb, .int md, .int (nI q), .ref za, .ref ua, .ref wa, .int (nI hz), .ref va])), (xb, .inl (cI, 20, .inl x)), (yb, .inl (cI, 20, .inl y)), (za, .inl (cI, 60, .inl (fun j9 => nI (sz j9)))), (ua, .inl (cI, 1200, .inl (fun j9 => nI (rd j9)))), (wa, .inl (cI, 60, .inl (fun j9 => nI (od j9)))), (va, .inl (cI, 20, .inl (fun j9 => nI (hu j9))))] H := hP
    have hD : va_D A [(o0, .inr (4, [.int 0, .int (nI n), .ref xb, .ref yb, .int md, .int (nI q), .ref za, .ref ua, .ref wa, .int (nI hz), .ref va])), (xb, .inl (cI, 20, .inl x)), (yb, .inl (cI, 20, .inl y)), (za, .inl (cI, 60, .inl (fun j9 => nI (sz j9)))), (ua, .inl (cI, 1200, .inl (fun j9 => nI (rd j9)))), (wa, .inl (cI, 60, .inl (fun j9 => nI (od j9)))), (va, .inl (cI, 20, .inl (fun j9 => nI (hu j9))))] := hD
    refine lv_aload_n hx hb dX4_around_15 rfl (lv_at hl 0 rfl) ?_
    obtain ⟨r1, hr1⟩ : ∃ r : Int32 × ((Nat → Nat) × (Nat → Nat) × Nat) × (Nat → Nat) × (Nat → Nat) × Nat, r_mkR x y n md sz rd q od hu hz N = r := ⟨_, rfl⟩
    refine q_mV (wc' := [(o0, .inr (4, [.int 0, .int (nI n), .ref xb, .ref yb, .int r1.1, .int (nI r1.2.1.2.2), .ref za, .ref ua, .ref wa, .int (nI r1.2.2.2.2), .ref va])), (xb, .inl (cI, 20, .inl x)), (yb, .inl (cI, 20, .inl y)), (za, .inl (cI, 60, .inl (fun j9 => nI (r1.2.1.1 j9)))), (ua, .inl (cI, 1200, .inl (fun j9 => nI (r1.2.1.2.1 j9)))), (wa, .inl (cI, 60, .inl (fun j9 => nI (r1.2.2.1 j9)))), (va, .inl (cI, 20, .inl (fun j9 => nI (r1.2.2.2.1 j9))))]) (wsN := [(o0, .inr (4, [.int 0, .int (nI n), .ref xb, .ref yb, .int r1.1, .int (nI r1.2.1.2.2), .ref za, .ref ua, .ref wa, .int (nI r1.2.2.2.2), .ref va])), (xb, .inl (cI, 20, .inl x)), (yb, .inl (cI, 20, .inl y)), (za, .inl (cI, 60, .inl (fun j9 => nI (r1.2.1.1 j9)))), (ua, .inl (cI, 1200, .inl (fun j9 => nI (r1.2.1.2.1 j9)))), (wa, .inl (cI, 60, .inl (fun j9 => nI (r1.2.2.1 j9)))), (va, .inl (cI, 20, .inl (fun j9 => nI (r1.2.2.2.1 j9))))]) (As := []) (rest := []) ⟨hx, hb, hml, hown, hts⟩ (c_X4_make l dC dI o0 xb yb za ua wa va cI 0 md x y sz rd od hu n q hz N (by omega) lo lz lr hG r1 hr1) (cwV 0 hts gX4_around_X4_make rfl rfl rfl (by decide +kernel) ⟨Nat.le_of_ble_eq_true rfl, Nat.le_of_ble_eq_true rfl⟩) hK hP hD hS [0, 1, 2, 3, 4, 5, 6] [0] 4 0 rfl rfl rfl rfl rfl rfl rfl rfl rfl hl.1 rfl (Nat.le_of_ble_eq_true rfl) ⟨Nat.zero_le _, Nat.zero_le _⟩ dX4_around_16 rfl (fun H locs hP hD hS => ?_)
    refine W.eq (g2 := F0 m 19 ls []) rfl ?_
    rw [hr1] at hR hst
    have hq9 := hst.2.2.1
    refine lv_iconst (v := nI 0) hx hb dX4_around_19 (by decide) ?_
    refine lv_istore_n (lv' := [(3, .int (nI 0)), (0, .ref o0), (1, .int px), (2, .int py)]) hx hb dX4_around_20 rfl hl (by decide) rfl (fun ls hl => ?_)
    have loopA : ∀ (f : Nat) (k : Nat) (R : Int32 × Int32 × Int32 × ((Nat → Nat) × (Nat → Nat) × Nat) × (Nat → Nat) × (Nat → Nat) × Nat) (H : Heap) (locs : List Loc) (ls : Array Slot), (k ≤ r1.2.1.2.2) → (r1.2.1.2.2 + 1 ≤ k + f) → (r_ao x y r1.2.2.1 r1.2.1.1 r1.2.1.2.1 r1.2.1.2.2 px py k, (0 : Int32), r1) = R → va_P (dC, dI) vwCl [(o0, .inr (4, [.int 0, .int (nI n), .ref xb, .ref yb, .int r1.1, .int (nI r1.2.1.2.2), .ref za, .ref ua, .ref wa, .int (nI r1.2.2.2.2), .ref va])), (xb, .inl (cI, 20, .inl x)), (yb, .inl (cI, 20, .inl y)), (za, .inl (cI, 60, .inl (fun j9 => nI (r1.2.1.1 j9)))), (ua, .inl (cI, 1200, .inl (fun j9 => nI (r1.2.1.2.1 j9)))), (wa, .inl (cI, 60, .inl (fun j9 => nI (r1.2.2.1 j9)))), (va, .inl (cI, 20, .inl (fun j9 => nI (r1.2.2.2.1 j9))))] H → va_D A [(o0, .inr (4, [.int 0, .int (nI n), .ref xb, .ref yb, .int r1.1, .int (nI r1.2.1.2.2), .ref za, .ref ua, .ref wa, .int (nI r1.2.2.2.2), .ref va])), (xb, .inl (cI, 20, .inl x)), (yb, .inl (cI, 20, .inl y)), (za, .inl (cI, 60, .inl (fun j9 => nI (r1.2.1.1 j9)))), (ua, .inl (cI, 1200, .inl (fun j9 => nI (r1.2.1.2.1 j9)))), (wa, .inl (cI, 60, .inl (fun j9 => nI (r1.2.2.1 j9)))), (va, .inl (cI, 20, .inl (fun j9 => nI (r1.2.2.2.1 j9))))] → va_S A s.heap H locs → lv_has ls 7 [(0, .ref o0), (1, .int px), (2, .int py), (3, .int (nI k))] → W p l e (headSpec wsX4_around ({ frames := 5, cells := 0, slots := 0, locals := 117 })).room s m ([.ref o0, .int px, .int py] : List Value).toArray below meth c H locs 0 0 (MQ below (q_Qm (dC, dI) A (some (.int R.1)) [(o0, .inr (4, [.int R.2.1, .int (nI n), .ref xb, .ref yb, .int R.2.2.1, .int (nI R.2.2.2.1.2.2), .ref za, .ref ua, .ref wa, .int (nI R.2.2.2.2.2.2), .ref va])), (xb, .inl (cI, 20, .inl x)), (yb, .inl (cI, 20, .inl y)), (za, .inl (cI, 60, .inl (fun j9 => nI (R.2.2.2.1.1 j9)))), (ua, .inl (cI, 1200, .inl (fun j9 => nI (R.2.2.2.1.2.1 j9)))), (wa, .inl (cI, 60, .inl (fun j9 => nI (R.2.2.2.2.1 j9)))), (va, .inl (cI, 20, .inl (fun j9 => nI (R.2.2.2.2.2.1 j9))))]) ([.ref o0, .int px, .int py] : List Value).toArray s 0 0 A) (F0 m 21 ls []) := by
      intro f
      induction f with
      | zero =>
        intro k R H locs ls h1 h2
        omega
      | succ f ih_loopA =>
        intro k R H locs ls h1 h2 hF hP hD hS hl
        refine lv_iload_n hx hb dX4_around_21 rfl (lv_at hl 3 rfl) ?_
        refine lv_aload_n hx hb dX4_around_22 rfl (lv_at hl 0 rfl) ?_
        refine va_get (D := (dC, dI)) (ci := 4) (v := .int (nI r1.2.1.2.2)) (C := RX4) (T := TX4) (N := 11) hx hb hts (by decide +kernel) hown hK hP 0 rfl rfl 5 (by decide) (hts (.fieldLink RX4 65 "CircleCellsModel" "cells" "I") (by decide +kernel)) (fun _ h9 => h9) rfl dX4_around_23 ?_
        refine q_icmp_ge (tgt := 118) (by omega) (by omega) hx hb dX4_around_26 (by decide) (fun c26 => ?_) (fun c26 => ?_)
        · rw [r_ao, if_neg (by omega)] at hF
          subst hF
          refine lv_iconst (v := (-1)) hx hb dX4_around_118 (by decide) ?_
          exact W.iret (v := (-1)) hx hb hr (q_retm hP hS) hS.2.2 dX4_around_119
        · rw [r_ao, if_pos c26] at hF
          have lok := hst.2.2.2.1 k
          refine lv_aload_n hx hb dX4_around_29 rfl (lv_at hl 0 rfl) ?_
          refine va_get (D := (dC, dI)) (ci := 4) (v := .ref wa) (C := RX4) (T := TX4) (N := 11) hx hb hts (by decide +kernel) hown hK hP 0 rfl rfl 8 (by decide) (hts (.fieldLink RX4 22 "CircleCellsModel" "order" "[I") (by decide +kernel)) (fun _ h9 => h9) rfl dX4_around_30 ?_
          refine lv_iload_n hx hb dX4_around_33 rfl (lv_at hl 3 rfl) ?_
          refine q_iald hx hb hK hP 5 0 rfl rfl (k) rfl (by omega) (by decide) dX4_around_34 ?_
          refine lv_istore (lv' := [(4, .int (nI (r1.2.2.1 k))), (0, .ref o0), (1, .int px), (2, .int py), (3, .int (nI k))]) hx hb dX4_around_35 hl (by decide) rfl (fun ls hl => ?_)
          refine lv_iconst (v := bI true) hx hb dX4_around_37 (by decide) ?_
          refine lv_istore (lv' := [(5, .int (bI true)), (4, .int (nI (r1.2.2.1 k))), (0, .ref o0), (1, .int px), (2, .int py), (3, .int (nI k))]) hx hb dX4_around_38 hl (by decide) rfl (fun ls hl => ?_)
          refine lv_iconst (v := nI 0) hx hb dX4_around_40 (by decide) ?_
          refine lv_istore (lv' := [(6, .int (nI 0)), (5, .int (bI true)), (4, .int (nI (r1.2.2.1 k))), (0, .ref o0), (1, .int px), (2, .int py), (3, .int (nI k))]) hx hb dX4_around_41 hl (by decide) rfl (fun ls hl => ?_)
          have loopB : ∀ (f : Nat) (t : Bool) (i : Nat) (R : Int32 × Int32 × Int32 × ((Nat → Nat) × (Nat → Nat) × Nat) × (Nat → Nat) × (Nat → Nat) × Nat) (H : Heap) (locs : List Loc) (ls : Array Slot), (i ≤ r1.2.1.1 (r1.2.2.1 k)) → (r1.2.1.1 (r1.2.2.1 k) + 1 ≤ i + f) → ((if r_ai x y r1.2.1.1 r1.2.1.2.1 (r1.2.2.1 k) px py t i = false then r_ao x y r1.2.2.1 r1.2.1.1 r1.2.1.2.1 r1.2.1.2.2 px py (k + 1) else nI k), (0 : Int32), r1) = R → va_P (dC, dI) vwCl [(o0, .inr (4, [.int 0, .int (nI n), .ref xb, .ref yb, .int r1.1, .int (nI r1.2.1.2.2), .ref za, .ref ua, .ref wa, .int (nI r1.2.2.2.2), .ref va])), (xb, .inl (cI, 20, .inl x)), (yb, .inl (cI, 20, .inl y)), (za, .inl (cI, 60, .inl (fun j9 => nI (r1.2.1.1 j9)))), (ua, .inl (cI, 1200, .inl (fun j9 => nI (r1.2.1.2.1 j9)))), (wa, .inl (cI, 60, .inl (fun j9 => nI (r1.2.2.1 j9)))), (va, .inl (cI, 20, .inl (fun j9 => nI (r1.2.2.2.1 j9))))] H → va_D A [(o0, .inr (4, [.int 0, .int (nI n), .ref xb, .ref yb, .int r1.1, .int (nI r1.2.1.2.2), .ref za, .ref ua, .ref wa, .int (nI r1.2.2.2.2), .ref va])), (xb, .inl (cI, 20, .inl x)), (yb, .inl (cI, 20, .inl y)), (za, .inl (cI, 60, .inl (fun j9 => nI (r1.2.1.1 j9)))), (ua, .inl (cI, 1200, .inl (fun j9 => nI (r1.2.1.2.1 j9)))), (wa, .inl (cI, 60, .inl (fun j9 => nI (r1.2.2.1 j9)))), (va, .inl (cI, 20, .inl (fun j9 => nI (r1.2.2.2.1 j9))))] → va_S A s.heap H locs → lv_has ls 7 [(0, .ref o0), (1, .int px), (2, .int py), (3, .int (nI k)), (4, .int (nI (r1.2.2.1 k))), (5, .int (bI t)), (6, .int (nI i))] → W p l e (headSpec wsX4_around ({ frames := 5, cells := 0, slots := 0, locals := 117 })).room s m ([.ref o0, .int px, .int py] : List Value).toArray below meth c H locs 0 0 (MQ below (q_Qm (dC, dI) A (some (.int R.1)) [(o0, .inr (4, [.int R.2.1, .int (nI n), .ref xb, .ref yb, .int R.2.2.1, .int (nI R.2.2.2.1.2.2), .ref za, .ref ua, .ref wa, .int (nI R.2.2.2.2.2.2), .ref va])), (xb, .inl (cI, 20, .inl x)), (yb, .inl (cI, 20, .inl y)), (za, .inl (cI, 60, .inl (fun j9 => nI (R.2.2.2.1.1 j9)))), (ua, .inl (cI, 1200, .inl (fun j9 => nI (R.2.2.2.1.2.1 j9)))), (wa, .inl (cI, 60, .inl (fun j9 => nI (R.2.2.2.2.1 j9)))), (va, .inl (cI, 20, .inl (fun j9 => nI (R.2.2.2.2.2.1 j9))))]) ([.ref o0, .int px, .int py] : List Value).toArray s 0 0 A) (F0 m 43 ls []) := by
            intro f
            induction f with
            | zero =>
              intro t i R H locs ls h3 h4
              omega
            | succ f ih_loopB =>
              intro t i R H locs ls h3 h4 hF hP hD hS hl
              refine lv_iload hx hb dX4_around_43 (lv_at hl 6 rfl) ?_
              refine lv_aload_n hx hb dX4_around_45 rfl (lv_at hl 0 rfl) ?_
              refine va_get (D := (dC, dI)) (ci := 4) (v := .ref za) (C := RX4) (T := TX4) (N := 11) hx hb hts (by decide +kernel) hown hK hP 0 rfl rfl 6 (by decide) (hts (.fieldLink RX4 16 "CircleCellsModel" "size" "[I") (by decide +kernel)) (fun _ h9 => h9) rfl dX4_around_46 ?_
              refine lv_iload hx hb dX4_around_49 (lv_at hl 4 rfl) ?_
              refine q_iald hx hb hK hP 3 0 rfl rfl (r1.2.2.1 k) rfl (by omega) (by decide) dX4_around_51 ?_
              refine q_icmp_ge (tgt := 105) (by have := hst.1 (r1.2.2.1 k); omega) (by have := hst.1 (r1.2.2.1 k); omega) hx hb dX4_around_52 (by decide) (fun c52 => ?_) (fun c52 => ?_)
              · rw [r_ai, if_neg (show ¬ i < r1.2.1.1 (r1.2.2.1 k) by omega)] at hF
                refine lv_iload hx hb dX4_around_105 (lv_at hl 5 rfl) ?_
                refine q_ifb_eq (tgt := 112) hx hb dX4_around_107 (by decide) (fun c107 => ?_) (fun c107 => ?_)
                · rw [if_pos c107] at hF
                  refine lv_iinc (v := nI (k + 1)) (lv' := [(3, .int (nI (k + 1))), (0, .ref o0), (1, .int px), (2, .int py), (4, .int (nI (r1.2.2.1 k))), (5, .int (bI t)), (6, .int (nI i))]) hx hb dX4_around_112 hl (k := 3) rfl (by rw [show Int32.ofInt 1 = 1 from rfl]; exact nI_1 _) (by decide) rfl (fun ls hl => ?_)
                  refine lv_goto (tgt := 21) hx hb dX4_around_115 (by decide) ?_
                  exact ih_loopA (k + 1) R H locs ls (by omega) (by omega) hF hP hD hS (lv_sub hl [1, 2, 3, 0] rfl)
                · rw [if_neg (show ¬ t = false by rw [c107]; decide)] at hF
                  subst hF
                  refine lv_iload_n hx hb dX4_around_110 rfl (lv_at hl 3 rfl) ?_
                  exact W.iret (v := nI k) hx hb hr (q_retm hP hS) hS.2.2 dX4_around_111
              · rw [r_ai, if_pos c52] at hF
                refine lv_iload hx hb dX4_around_55 (lv_at hl 5 rfl) ?_
                refine q_ifb_eq (tgt := 96) hx hb dX4_around_57 (by decide) (fun c57 => ?_) (fun c57 => ?_)
                · rw [if_pos c57] at hF
                  refine lv_iconst (v := bI false) hx hb dX4_around_96 (by decide) ?_
                  refine lv_istore (lv' := [(5, .int (bI false)), (0, .ref o0), (1, .int px), (2, .int py), (3, .int (nI k)), (4, .int (nI (r1.2.2.1 k))), (6, .int (nI i))]) hx hb dX4_around_97 hl (by decide) rfl (fun ls hl => ?_)
                  refine lv_iinc (v := nI (i + 1)) (lv' := [(6, .int (nI (i + 1))), (5, .int (bI false)), (0, .ref o0), (1, .int px), (2, .int py), (3, .int (nI k)), (4, .int (nI (r1.2.2.1 k)))]) hx hb dX4_around_99 hl (k := 6) rfl (by rw [show Int32.ofInt 1 = 1 from rfl]; exact nI_1 _) (by decide) rfl (fun ls hl => ?_)
                  refine lv_goto (tgt := 43) hx hb dX4_around_102 (by decide) ?_
                  exact ih_loopB false (i + 1) R H locs ls (by omega) (by omega) hF hP hD hS (lv_sub hl [2, 3, 4, 5, 6, 1, 0] rfl)
                · rw [if_neg (show ¬ t = false by rw [c57]; decide)] at hF
                  refine lv_aload_n hx hb dX4_around_60 rfl (lv_at hl 0 rfl) ?_
                  refine lv_aload_n hx hb dX4_around_61 rfl (lv_at hl 0 rfl) ?_
                  refine va_get (D := (dC, dI)) (ci := 4) (v := .ref ua) (C := RX4) (T := TX4) (N := 11) hx hb hts (by decide +kernel) hown hK hP 0 rfl rfl 7 (by decide) (hts (.fieldLink RX4 19 "CircleCellsModel" "round" "[I") (by decide +kernel)) (fun _ h9 => h9) rfl dX4_around_62 ?_
                  refine lv_bipush (v := nI 20) hx hb dX4_around_65 (by decide) ?_
                  refine lv_iload hx hb dX4_around_67 (lv_at hl 4 rfl) ?_
                  refine q_imul hx hb dX4_around_69 ?_
                  refine lv_iload hx hb dX4_around_70 (lv_at hl 6 rfl) ?_
                  refine q_iadd hx hb dX4_around_72 ?_
                  refine q_iald hx hb hK hP 4 0 rfl rfl ((20 * (r1.2.2.1 k)) + i) rfl (by have := hst.1 (r1.2.2.1 k); omega) (by decide) dX4_around_73 ?_
                  refine lv_aload_n hx hb dX4_around_74 rfl (lv_at hl 0 rfl) ?_
                  refine lv_iload hx hb dX4_around_75 (lv_at hl 4 rfl) ?_
                  refine lv_iload hx hb dX4_around_77 (lv_at hl 6 rfl) ?_
                  refine q_cV (As := [.int (nI (r1.2.2.1 k)), .int (nI i)]) (rest := [.int (nI (r1.2.1.2.1 ((20 * (r1.2.2.1 k)) + i))), .ref o0]) ⟨hx, hb, hml, hown, hts⟩ (c_X4_after l dC dI o0 xb yb za ua wa va cI 0 (nI n) r1.1 (nI r1.2.1.2.2) (nI r1.2.2.2.2) r1.2.1.1 r1.2.1.2.1 (r1.2.2.1 k) i (by omega) (by omega) (hst.1 _)) (cwV 2 hts gX4_around_X4_after rfl rfl rfl (by decide +kernel) ⟨Nat.le_of_ble_eq_true rfl, Nat.le_of_ble_eq_true rfl⟩) (q_pV hK hP [0, 3, 4] [0] 4 0 rfl rfl rfl rfl rfl rfl) rfl hl.1 rfl (Nat.le_of_ble_eq_true rfl) ⟨Nat.zero_le _, Nat.zero_le _⟩ dX4_around_79 ?_
                  refine lv_iload_n hx hb dX4_around_82 rfl (lv_at hl 1 rfl) ?_
                  refine lv_iload_n hx hb dX4_around_83 rfl (lv_at hl 2 rfl) ?_
                  refine q_cV (As := [.int (nI (r1.2.1.2.1 ((20 * (r1.2.2.1 k)) + i))), .int (nI (r_after r1.2.1.1 r1.2.1.2.1 (r1.2.2.1 k) i)), .int px, .int py]) (rest := []) ⟨hx, hb, hml, hown, hts⟩ (c_X4_turn l dC dI o0 xb yb za ua wa va cI 0 (nI n) r1.1 (nI r1.2.1.2.2) (nI r1.2.2.2.2) x y (r1.2.1.2.1 ((20 * (r1.2.2.1 k)) + i)) (r_after r1.2.1.1 r1.2.1.2.1 (r1.2.2.1 k) i) px py (hst.2.1 _) (hst.2.1 _)) (cwV 4 hts gX4_around_X4_turn rfl rfl rfl (by decide +kernel) ⟨Nat.le_of_ble_eq_true rfl, Nat.le_of_ble_eq_true rfl⟩) (q_pV hK hP [0, 1, 2] [0] 4 0 rfl rfl rfl rfl rfl rfl) rfl hl.1 rfl (Nat.le_of_ble_eq_true rfl) ⟨Nat.zero_le _, Nat.zero_le _⟩ dX4_around_84 ?_
                  refine lv_lconst (v := 0) hx hb dX4_around_87 (by decide) ?_
                  refine q_lcmp_lt (tgt := 96) hx hb dX4_around_88 dX4_around_89 (by decide) (fun c89 => ?_) (fun c89 => ?_)
                  · rw [if_pos c89] at hF
                    refine lv_iconst (v := bI false) hx hb dX4_around_96 (by decide) ?_
                    refine lv_istore (lv' := [(5, .int (bI false)), (0, .ref o0), (1, .int px), (2, .int py), (3, .int (nI k)), (4, .int (nI (r1.2.2.1 k))), (6, .int (nI i))]) hx hb dX4_around_97 hl (by decide) rfl (fun ls hl => ?_)
                    refine lv_iinc (v := nI (i + 1)) (lv' := [(6, .int (nI (i + 1))), (5, .int (bI false)), (0, .ref o0), (1, .int px), (2, .int py), (3, .int (nI k)), (4, .int (nI (r1.2.2.1 k)))]) hx hb dX4_around_99 hl (k := 6) rfl (by rw [show Int32.ofInt 1 = 1 from rfl]; exact nI_1 _) (by decide) rfl (fun ls hl => ?_)
                    refine lv_goto (tgt := 43) hx hb dX4_around_102 (by decide) ?_
                    exact ih_loopB false (i + 1) R H locs ls (by omega) (by omega) hF hP hD hS (lv_sub hl [2, 3, 4, 5, 6, 1, 0] rfl)
                  · rw [if_neg c89] at hF
                    refine lv_iconst (v := bI true) hx hb dX4_around_92 (by decide) ?_
                    refine lv_goto (tgt := 97) hx hb dX4_around_93 (by decide) ?_
                    refine lv_istore (lv' := [(5, .int (bI true)), (0, .ref o0), (1, .int px), (2, .int py), (3, .int (nI k)), (4, .int (nI (r1.2.2.1 k))), (6, .int (nI i))]) hx hb dX4_around_97 hl (by decide) rfl (fun ls hl => ?_)
                    refine lv_iinc (v := nI (i + 1)) (lv' := [(6, .int (nI (i + 1))), (5, .int (bI true)), (0, .ref o0), (1, .int px), (2, .int py), (3, .int (nI k)), (4, .int (nI (r1.2.2.1 k)))]) hx hb dX4_around_99 hl (k := 6) rfl (by rw [show Int32.ofInt 1 = 1 from rfl]; exact nI_1 _) (by decide) rfl (fun ls hl => ?_)
                    refine lv_goto (tgt := 43) hx hb dX4_around_102 (by decide) ?_
                    exact ih_loopB true (i + 1) R H locs ls (by omega) (by omega) hF hP hD hS (lv_sub hl [2, 3, 4, 5, 6, 1, 0] rfl)
          exact loopB (r1.2.1.1 (r1.2.2.1 k) + 1) true 0 R _ _ ls (by omega) (by omega) hF hP hD hS (lv_sub hl [3, 4, 5, 6, 2, 1, 0] rfl)
    exact loopA (r1.2.1.2.2 + 1) 0 R _ _ ls (by omega) (by omega) hR hP hD hS (lv_sub hl [1, 2, 3, 0] rfl)
  · have c10 : r_far px py = true := by simpa using c10
    rw [r_aroR, if_pos c10] at hR
    rw [c10] at hP
    subst hR
    refine lv_iconst (v := 0) hx hb dX4_around_13 (by decide) ?_
    exact W.iret (v := 0) hx hb hr (q_retm hP hS) hS.2.2 dX4_around_14
set_option maxHeartbeats 4000000 in
set_option maxRecDepth 100000 in
theorem c_X4_nearest (l : Launch) (dC : Nat → ClassId) (dI : Nat → Nat → Nat) (o0 xb yb za ua wa va : Nat) (cI : ClassId) (th md nc hz : Int32) (x y : Nat → Int32) (n : Nat) (px py : Int32) (ln : n ≤ 20) (R : Int32 × Int32) (hR : r_neaR x y n px py = R) : Met l yX4_nearest wsX4_nearest ({ frames := 1, cells := 0, slots := 0, locals := 22 }) (q_Pm (dC, dI) [.ref o0, .int px, .int py] [(o0, .inr (4, [.int th, .int (nI n), .ref xb, .ref yb, .int md, .int nc, .ref za, .ref ua, .ref wa, .int hz, .ref va])), (xb, .inl (cI, 20, .inl x)), (yb, .inl (cI, 20, .inl y))] [(cI, .int)]) (q_Qm (dC, dI) (q_in [(o0, .inr (4, [.int th, .int (nI n), .ref xb, .ref yb, .int md, .int nc, .ref za, .ref ua, .ref wa, .int hz, .ref va])), (xb, .inl (cI, 20, .inl x)), (yb, .inl (cI, 20, .inl y))]) (some (.int R.1)) [(o0, .inr (4, [.int R.2, .int (nI n), .ref xb, .ref yb, .int md, .int nc, .ref za, .ref ua, .ref wa, .int hz, .ref va])), (xb, .inl (cI, 20, .inl x)), (yb, .inl (cI, 20, .inl y))]) 0 0 (q_in [(o0, .inr (4, [.int th, .int (nI n), .ref xb, .ref yb, .int md, .int nc, .ref za, .ref ua, .ref wa, .int hz, .ref va])), (xb, .inl (cI, 20, .inl x)), (yb, .inl (cI, 20, .inl y))]) := by
  refine Met.ofW (cc := cX4_nearest) (maxL := 10) (ret := (some .int)) (by decide) rfl ?_
  intro p e s m args below meth c s₁ B hml hv
  obtain ⟨rfl, hP, hK, hD0⟩ := hv
  have hx := B.exec
  have hb := B.bytes
  have hr := B.returns
  have hts := atoms_spec (ws := wsX4_nearest) B.pre
  have hown : s.vm.findClass RX4 = some m.cls := findClass_of_methodNamed B.named
  have hlocks := B.notSynchronized
  have hD := q_inD hD0
  generalize hAe : q_in [(o0, .inr (4, [.int th, .int (nI n), .ref xb, .ref yb, .int md, .int nc, .ref za, .ref ua, .ref wa, .int hz, .ref va])), (xb, .inl (cI, 20, .inl x)), (yb, .inl (cI, 20, .inl y))] = A at hD ⊢
  have hS : va_S A s.heap s.heap [] := va_S.rf
  have hP : va_P (dC, dI) vwCl [(o0, .inr (4, [.int th, .int (nI n), .ref xb, .ref yb, .int md, .int nc, .ref za, .ref ua, .ref wa, .int hz, .ref va])), (xb, .inl (cI, 20, .inl x)), (yb, .inl (cI, 20, .inl y))] s.heap := hP
  have hl := lv_entry ([.ref o0, .int px, .int py]) (n := 10) (Nat.le_of_ble_eq_true rfl)
  rw [lg_entry_eq]
  generalize (lg_sl ([.ref o0, .int px, .int py]) ++ List.replicate (10 - (lg_sl ([.ref o0, .int px, .int py])).length) Slot.unset).toArray = ls at hl ⊢
  have hl : lv_has ls 10 [(0, .ref o0), (1, .int px), (2, .int py)] := hl
  refine lv_iload_n hx hb dX4_nearest_0 rfl (lv_at hl 1 rfl) ?_
  refine lv_iload_n hx hb dX4_nearest_1 rfl (lv_at hl 2 rfl) ?_
  refine q_cS (As := [.int px, .int py]) (rest := []) ⟨hx, hb, hml, hown, hts⟩ (c_X4_isFar l dC dI px py) (va_cwS 2 hts gX4_nearest_X4_isFar rfl rfl rfl (by decide +kernel) ⟨Nat.le_of_ble_eq_true rfl, Nat.le_of_ble_eq_true rfl⟩) (q_pS hK hP [] [] rfl rfl rfl) rfl hl.1 rfl (Nat.le_of_ble_eq_true rfl) ⟨Nat.zero_le _, Nat.zero_le _⟩ dX4_nearest_2 ?_
  refine lv_istore_n (lv' := [(3, .int (bI (r_far px py))), (0, .ref o0), (1, .int px), (2, .int py)]) hx hb dX4_nearest_5 rfl hl (by decide) rfl (fun ls hl => ?_)
  refine lv_aload_n hx hb dX4_nearest_6 rfl (lv_at hl 1 rfl) ?_
  refine lv_iload_n hx hb dX4_nearest_7 rfl (lv_at hl 0 rfl) ?_
  refine lv_iload_n hx hb dX4_nearest_8 rfl (lv_at hl 0 rfl) ?_
  refine q_ifb_ne (tgt := 23) hx hb dX4_nearest_9 (by decide) (fun c9 => ?_) (fun c9 => ?_)
  · rw [r_neaR, if_pos c9] at hR
    subst hR
    rw [c9] at hl ⊢
    refine lv_iconst (v := bI false) hx hb dX4_nearest_23 (by decide) ?_
    refine q_mV (wc' := [(o0, .inr (4, [.int (r_thr true false), .int (nI n), .ref xb, .ref yb, .int md, .int nc, .ref za, .ref ua, .ref wa, .int hz, .ref va]))]) (wsN := [(o0, .inr (4, [.int (r_thr true false), .int (nI n), .ref xb, .ref yb, .int md, .int nc, .ref za, .ref ua, .ref wa, .int hz, .ref va])), (xb, .inl (cI, 20, .inl x)), (yb, .inl (cI, 20, .inl y))]) (As := [.int (bI true), .int (bI false)]) (rest := []) ⟨hx, hb, hml, hown, hts⟩ (c_X4_throwing l dC dI o0 xb yb za ua wa va (by omega) th (nI n) md nc hz true false) (cwV 2 hts gX4_nearest_X4_throwing rfl rfl rfl (by decide +kernel) ⟨Nat.le_of_ble_eq_true rfl, Nat.le_of_ble_eq_true rfl⟩) hK hP hD hS [0] [] 4 0 rfl rfl rfl rfl rfl rfl rfl rfl rfl hl.1 rfl (Nat.le_of_ble_eq_true rfl) ⟨Nat.zero_le _, Nat.zero_le _⟩ dX4_nearest_24 rfl (fun H locs hP hD hS => ?_)
    refine W.eq (g2 := F0 m 27 ls [.int (bI (true || false))]) rfl ?_
    refine q_ifb_eq (tgt := 32) hx hb dX4_nearest_27 (by decide) (fun c27 => ?_) (fun c27 => ?_)
    · exact absurd c27 (by decide)
    · refine lv_iconst (v := 0) hx hb dX4_nearest_30 (by decide) ?_
      exact W.iret (v := 0) hx hb hr (q_retm hP hS) hS.2.2 dX4_nearest_31
  · rw [r_neaR, if_neg (by rw [c9]; decide)] at hR
    rw [c9] at hl ⊢
    refine lv_aload_n hx hb dX4_nearest_12 rfl (lv_at hl 1 rfl) ?_
    refine va_get (D := (dC, dI)) (ci := 4) (v := .int (nI n)) (C := RX4) (T := TX4) (N := 11) hx hb hts (by decide +kernel) hown hK hP 0 rfl rfl 1 (by decide) (hts (.fieldLink RX4 32 "CircleCellsModel" "sites" "I") (by decide +kernel)) (fun _ h9 => h9) rfl dX4_nearest_13 ?_
    refine q_ifn_ne (tgt := 23) (by omega) hx hb dX4_nearest_16 (by decide) (fun c16 => ?_) (fun c16 => ?_)
    · rw [if_neg c16] at hR
      refine lv_iconst (v := bI false) hx hb dX4_nearest_23 (by decide) ?_
      refine q_mV (wc' := [(o0, .inr (4, [.int (r_thr false false), .int (nI n), .ref xb, .ref yb, .int md, .int nc, .ref za, .ref ua, .ref wa, .int hz, .ref va]))]) (wsN := [(o0, .inr (4, [.int (r_thr false false), .int (nI n), .ref xb, .ref yb, .int md, .int nc, .ref za, .ref ua, .ref wa, .int hz, .ref va])), (xb, .inl (cI, 20, .inl x)), (yb, .inl (cI, 20, .inl y))]) (As := [.int (bI false), .int (bI false)]) (rest := []) ⟨hx, hb, hml, hown, hts⟩ (c_X4_throwing l dC dI o0 xb yb za ua wa va (by omega) th (nI n) md nc hz false false) (cwV 2 hts gX4_nearest_X4_throwing rfl rfl rfl (by decide +kernel) ⟨Nat.le_of_ble_eq_true rfl, Nat.le_of_ble_eq_true rfl⟩) hK hP hD hS [0] [] 4 0 rfl rfl rfl rfl rfl rfl rfl rfl rfl hl.1 rfl (Nat.le_of_ble_eq_true rfl) ⟨Nat.zero_le _, Nat.zero_le _⟩ dX4_nearest_24 rfl (fun H locs hP hD hS => ?_)
      refine W.eq (g2 := F0 m 27 ls [.int (bI (false || false))]) rfl ?_
      refine q_ifb_eq (tgt := 32) hx hb dX4_nearest_27 (by decide) (fun c27 => ?_) (fun c27 => ?_)
      · refine lv_iconst (v := nI 0) hx hb dX4_nearest_32 (by decide) ?_
        refine lv_istore (lv' := [(4, .int (nI 0)), (3, .int (bI false)), (0, .ref o0), (1, .int px), (2, .int py)]) hx hb dX4_nearest_33 hl (by decide) rfl (fun ls hl => ?_)
        refine lv_iconst (v := nI 1) hx hb dX4_nearest_35 (by decide) ?_
        refine lv_istore (lv' := [(5, .int (nI 1)), (4, .int (nI 0)), (3, .int (bI false)), (0, .ref o0), (1, .int px), (2, .int py)]) hx hb dX4_nearest_36 hl (by decide) rfl (fun ls hl => ?_)
        have loop : ∀ (f : Nat) (b : Nat) (k : Nat) (R : Int32 × Int32) (H : Heap) (locs : List Loc) (ls : Array Slot), (k ≤ n) → (n + 1 ≤ k + f) → (b < n) → (nI (r_near x y n px py b k), (0 : Int32)) = R → va_P (dC, dI) vwCl [(o0, .inr (4, [.int 0, .int (nI n), .ref xb, .ref yb, .int md, .int nc, .ref za, .ref ua, .ref wa, .int hz, .ref va])), (xb, .inl (cI, 20, .inl x)), (yb, .inl (cI, 20, .inl y))] H → va_D A [(o0, .inr (4, [.int 0, .int (nI n), .ref xb, .ref yb, .int md, .int nc, .ref za, .ref ua, .ref wa, .int hz, .ref va])), (xb, .inl (cI, 20, .inl x)), (yb, .inl (cI, 20, .inl y))] → va_S A s.heap H locs → lv_has ls 10 [(0, .ref o0), (1, .int px), (2, .int py), (3, .int (bI false)), (4, .int (nI b)), (5, .int (nI k))] → W p l e (headSpec wsX4_nearest ({ frames := 1, cells := 0, slots := 0, locals := 22 })).room s m ([.ref o0, .int px, .int py] : List Value).toArray below meth c H locs 0 0 (MQ below (q_Qm (dC, dI) A (some (.int R.1)) [(o0, .inr (4, [.int R.2, .int (nI n), .ref xb, .ref yb, .int md, .int nc, .ref za, .ref ua, .ref wa, .int hz, .ref va])), (xb, .inl (cI, 20, .inl x)), (yb, .inl (cI, 20, .inl y))]) ([.ref o0, .int px, .int py] : List Value).toArray s 0 0 A) (F0 m 38 ls []) := by
          intro f
          induction f with
          | zero =>
            intro b k R H locs ls h1 h2 h3
            omega
          | succ f ih_loop =>
            intro b k R H locs ls h1 h2 h3 hF hP hD hS hl
            refine lv_iload hx hb dX4_nearest_38 (lv_at hl 5 rfl) ?_
            refine lv_aload_n hx hb dX4_nearest_40 rfl (lv_at hl 0 rfl) ?_
            refine va_get (D := (dC, dI)) (ci := 4) (v := .int (nI n)) (C := RX4) (T := TX4) (N := 11) hx hb hts (by decide +kernel) hown hK hP 0 rfl rfl 1 (by decide) (hts (.fieldLink RX4 32 "CircleCellsModel" "sites" "I") (by decide +kernel)) (fun _ h9 => h9) rfl dX4_nearest_41 ?_
            refine q_icmp_ge (tgt := 160) (by omega) (by omega) hx hb dX4_nearest_44 (by decide) (fun c44 => ?_) (fun c44 => ?_)
            · rw [r_near, if_neg (by omega)] at hF
              subst hF
              refine lv_iload hx hb dX4_nearest_160 (lv_at hl 4 rfl) ?_
              exact W.iret (v := nI b) hx hb hr (q_retm hP hS) hS.2.2 dX4_nearest_162
            · rw [r_near, if_pos c44] at hF
              refine lv_aload_n hx hb dX4_nearest_47 rfl (lv_at hl 0 rfl) ?_
              refine va_get (D := (dC, dI)) (ci := 4) (v := .ref xb) (C := RX4) (T := TX4) (N := 11) hx hb hts (by decide +kernel) hown hK hP 0 rfl rfl 2 (by decide) (hts (.fieldLink RX4 7 "CircleCellsModel" "x" "[I") (by decide +kernel)) (fun _ h9 => h9) rfl dX4_nearest_48 ?_
              refine lv_iload hx hb dX4_nearest_51 (lv_at hl 5 rfl) ?_
              refine q_iald hx hb hK hP 1 0 rfl rfl (k) rfl (by omega) (by decide) dX4_nearest_53 ?_
              refine lv_iload_n hx hb dX4_nearest_54 rfl (lv_at hl 1 rfl) ?_
              refine lv_isub hx hb dX4_nearest_55 ?_
              refine lv_i2l (v := ((x k) - px).toInt64) hx hb dX4_nearest_56 rfl ?_
              refine lv_aload_n hx hb dX4_nearest_57 rfl (lv_at hl 0 rfl) ?_
              refine va_get (D := (dC, dI)) (ci := 4) (v := .ref xb) (C := RX4) (T := TX4) (N := 11) hx hb hts (by decide +kernel) hown hK hP 0 rfl rfl 2 (by decide) (hts (.fieldLink RX4 7 "CircleCellsModel" "x" "[I") (by decide +kernel)) (fun _ h9 => h9) rfl dX4_nearest_58 ?_
              refine lv_iload hx hb dX4_nearest_61 (lv_at hl 5 rfl) ?_
              refine q_iald hx hb hK hP 1 0 rfl rfl (k) rfl (by omega) (by decide) dX4_nearest_63 ?_
              refine lv_iload_n hx hb dX4_nearest_64 rfl (lv_at hl 1 rfl) ?_
              refine lv_isub hx hb dX4_nearest_65 ?_
              refine lv_i2l (v := ((x k) - px).toInt64) hx hb dX4_nearest_66 rfl ?_
              refine lv_lmul hx hb dX4_nearest_67 ?_
              refine lv_aload_n hx hb dX4_nearest_68 rfl (lv_at hl 0 rfl) ?_
              refine va_get (D := (dC, dI)) (ci := 4) (v := .ref yb) (C := RX4) (T := TX4) (N := 11) hx hb hts (by decide +kernel) hown hK hP 0 rfl rfl 3 (by decide) (hts (.fieldLink RX4 13 "CircleCellsModel" "y" "[I") (by decide +kernel)) (fun _ h9 => h9) rfl dX4_nearest_69 ?_
              refine lv_iload hx hb dX4_nearest_72 (lv_at hl 5 rfl) ?_
              refine q_iald hx hb hK hP 2 0 rfl rfl (k) rfl (by omega) (by decide) dX4_nearest_74 ?_
              refine lv_iload_n hx hb dX4_nearest_75 rfl (lv_at hl 2 rfl) ?_
              refine lv_isub hx hb dX4_nearest_76 ?_
              refine lv_i2l (v := ((y k) - py).toInt64) hx hb dX4_nearest_77 rfl ?_
              refine lv_aload_n hx hb dX4_nearest_78 rfl (lv_at hl 0 rfl) ?_
              refine va_get (D := (dC, dI)) (ci := 4) (v := .ref yb) (C := RX4) (T := TX4) (N := 11) hx hb hts (by decide +kernel) hown hK hP 0 rfl rfl 3 (by decide) (hts (.fieldLink RX4 13 "CircleCellsModel" "y" "[I") (by decide +kernel)) (fun _ h9 => h9) rfl dX4_nearest_79 ?_
              refine lv_iload hx hb dX4_nearest_82 (lv_at hl 5 rfl) ?_
              refine q_iald hx hb hK hP 2 0 rfl rfl (k) rfl (by omega) (by decide) dX4_nearest_84 ?_
              refine lv_iload_n hx hb dX4_nearest_85 rfl (lv_at hl 2 rfl) ?_
              refine lv_isub hx hb dX4_nearest_86 ?_
              refine lv_i2l (v := ((y k) - py).toInt64) hx hb dX4_nearest_87 rfl ?_
              refine lv_lmul hx hb dX4_nearest_88 ?_
              refine lv_ladd hx hb dX4_nearest_89 ?_
              refine lv_lstore (lv' := [(6, .long (((((x k) - px).toInt64) * (((x k) - px).toInt64)) + ((((y k) - py).toInt64) * (((y k) - py).toInt64)))), (0, .ref o0), (1, .int px), (2, .int py), (3, .int (bI false)), (4, .int (nI b)), (5, .int (nI k))]) hx hb dX4_nearest_90 hl (by decide) rfl (fun ls hl => ?_)
              refine lv_aload_n hx hb dX4_nearest_92 rfl (lv_at hl 1 rfl) ?_
              refine va_get (D := (dC, dI)) (ci := 4) (v := .ref xb) (C := RX4) (T := TX4) (N := 11) hx hb hts (by decide +kernel) hown hK hP 0 rfl rfl 2 (by decide) (hts (.fieldLink RX4 7 "CircleCellsModel" "x" "[I") (by decide +kernel)) (fun _ h9 => h9) rfl dX4_nearest_93 ?_
              refine lv_iload hx hb dX4_nearest_96 (lv_at hl 5 rfl) ?_
              refine q_iald hx hb hK hP 1 0 rfl rfl (b) rfl (by omega) (by decide) dX4_nearest_98 ?_
              refine lv_iload_n hx hb dX4_nearest_99 rfl (lv_at hl 2 rfl) ?_
              refine lv_isub hx hb dX4_nearest_100 ?_
              refine lv_i2l (v := ((x b) - px).toInt64) hx hb dX4_nearest_101 rfl ?_
              refine lv_aload_n hx hb dX4_nearest_102 rfl (lv_at hl 1 rfl) ?_
              refine va_get (D := (dC, dI)) (ci := 4) (v := .ref xb) (C := RX4) (T := TX4) (N := 11) hx hb hts (by decide +kernel) hown hK hP 0 rfl rfl 2 (by decide) (hts (.fieldLink RX4 7 "CircleCellsModel" "x" "[I") (by decide +kernel)) (fun _ h9 => h9) rfl dX4_nearest_103 ?_
              refine lv_iload hx hb dX4_nearest_106 (lv_at hl 5 rfl) ?_
              refine q_iald hx hb hK hP 1 0 rfl rfl (b) rfl (by omega) (by decide) dX4_nearest_108 ?_
              refine lv_iload_n hx hb dX4_nearest_109 rfl (lv_at hl 2 rfl) ?_
              refine lv_isub hx hb dX4_nearest_110 ?_
              refine lv_i2l (v := ((x b) - px).toInt64) hx hb dX4_nearest_111 rfl ?_
              refine lv_lmul hx hb dX4_nearest_112 ?_
              refine lv_aload_n hx hb dX4_nearest_113 rfl (lv_at hl 1 rfl) ?_
              refine va_get (D := (dC, dI)) (ci := 4) (v := .ref yb) (C := RX4) (T := TX4) (N := 11) hx hb hts (by decide +kernel) hown hK hP 0 rfl rfl 3 (by decide) (hts (.fieldLink RX4 13 "CircleCellsModel" "y" "[I") (by decide +kernel)) (fun _ h9 => h9) rfl dX4_nearest_114 ?_
              refine lv_iload hx hb dX4_nearest_117 (lv_at hl 5 rfl) ?_
              refine q_iald hx hb hK hP 2 0 rfl rfl (b) rfl (by omega) (by decide) dX4_nearest_119 ?_
              refine lv_iload_n hx hb dX4_nearest_120 rfl (lv_at hl 3 rfl) ?_
              refine lv_isub hx hb dX4_nearest_121 ?_
              refine lv_i2l (v := ((y b) - py).toInt64) hx hb dX4_nearest_122 rfl ?_
              refine lv_aload_n hx hb dX4_nearest_123 rfl (lv_at hl 1 rfl) ?_
              refine va_get (D := (dC, dI)) (ci := 4) (v := .ref yb) (C := RX4) (T := TX4) (N := 11) hx hb hts (by decide +kernel) hown hK hP 0 rfl rfl 3 (by decide) (hts (.fieldLink RX4 13 "CircleCellsModel" "y" "[I") (by decide +kernel)) (fun _ h9 => h9) rfl dX4_nearest_124 ?_
              refine lv_iload hx hb dX4_nearest_127 (lv_at hl 5 rfl) ?_
              refine q_iald hx hb hK hP 2 0 rfl rfl (b) rfl (by omega) (by decide) dX4_nearest_129 ?_
              refine lv_iload_n hx hb dX4_nearest_130 rfl (lv_at hl 3 rfl) ?_
              refine lv_isub hx hb dX4_nearest_131 ?_
              refine lv_i2l (v := ((y b) - py).toInt64) hx hb dX4_nearest_132 rfl ?_
              refine lv_lmul hx hb dX4_nearest_133 ?_
              refine lv_ladd hx hb dX4_nearest_134 ?_
              refine lv_lstore (lv' := [(8, .long (((((x b) - px).toInt64) * (((x b) - px).toInt64)) + ((((y b) - py).toInt64) * (((y b) - py).toInt64)))), (6, .long (((((x k) - px).toInt64) * (((x k) - px).toInt64)) + ((((y k) - py).toInt64) * (((y k) - py).toInt64)))), (0, .ref o0), (1, .int px), (2, .int py), (3, .int (bI false)), (4, .int (nI b)), (5, .int (nI k))]) hx hb dX4_nearest_135 hl (by decide) rfl (fun ls hl => ?_)
              refine lv_lload hx hb dX4_nearest_137 (lv_at hl 1 rfl) ?_
              refine lv_lload hx hb dX4_nearest_139 (lv_at hl 0 rfl) ?_
              refine q_lcmp_ge (tgt := 150) hx hb dX4_nearest_141 dX4_nearest_142 (by decide) (fun c142 => ?_) (fun c142 => ?_)
              · rw [if_pos (show r_sqP x y b px py ≤ r_sqP x y k px py from c142)] at hF
                refine lv_iload hx hb dX4_nearest_150 (lv_at hl 6 rfl) ?_
                refine lv_istore (lv' := [(4, .int (nI b)), (8, .long (((((x b) - px).toInt64) * (((x b) - px).toInt64)) + ((((y b) - py).toInt64) * (((y b) - py).toInt64)))), (6, .long (((((x k) - px).toInt64) * (((x k) - px).toInt64)) + ((((y k) - py).toInt64) * (((y k) - py).toInt64)))), (0, .ref o0), (1, .int px), (2, .int py), (3, .int (bI false)), (5, .int (nI k))]) hx hb dX4_nearest_152 hl (by decide) rfl (fun ls hl => ?_)
                refine lv_iinc (v := nI (k + 1)) (lv' := [(5, .int (nI (k + 1))), (4, .int (nI b)), (8, .long (((((x b) - px).toInt64) * (((x b) - px).toInt64)) + ((((y b) - py).toInt64) * (((y b) - py).toInt64)))), (6, .long (((((x k) - px).toInt64) * (((x k) - px).toInt64)) + ((((y k) - py).toInt64) * (((y k) - py).toInt64)))), (0, .ref o0), (1, .int px), (2, .int py), (3, .int (bI false))]) hx hb dX4_nearest_154 hl (k := 7) rfl (by rw [show Int32.ofInt 1 = 1 from rfl]; exact nI_1 _) (by decide) rfl (fun ls hl => ?_)
                refine lv_goto (tgt := 38) hx hb dX4_nearest_157 (by decide) ?_
                exact ih_loop b (k + 1) R H locs ls (by omega) (by omega) (by omega) hF hP hD hS (lv_sub hl [4, 5, 6, 7, 1, 0] rfl)
              · rw [if_neg (show ¬ r_sqP x y b px py ≤ r_sqP x y k px py from c142)] at hF
                refine lv_iload hx hb dX4_nearest_145 (lv_at hl 7 rfl) ?_
                refine lv_goto (tgt := 152) hx hb dX4_nearest_147 (by decide) ?_
                refine lv_istore (lv' := [(4, .int (nI k)), (8, .long (((((x b) - px).toInt64) * (((x b) - px).toInt64)) + ((((y b) - py).toInt64) * (((y b) - py).toInt64)))), (6, .long (((((x k) - px).toInt64) * (((x k) - px).toInt64)) + ((((y k) - py).toInt64) * (((y k) - py).toInt64)))), (0, .ref o0), (1, .int px), (2, .int py), (3, .int (bI false)), (5, .int (nI k))]) hx hb dX4_nearest_152 hl (by decide) rfl (fun ls hl => ?_)
                refine lv_iinc (v := nI (k + 1)) (lv' := [(5, .int (nI (k + 1))), (4, .int (nI k)), (8, .long (((((x b) - px).toInt64) * (((x b) - px).toInt64)) + ((((y b) - py).toInt64) * (((y b) - py).toInt64)))), (6, .long (((((x k) - px).toInt64) * (((x k) - px).toInt64)) + ((((y k) - py).toInt64) * (((y k) - py).toInt64)))), (0, .ref o0), (1, .int px), (2, .int py), (3, .int (bI false))]) hx hb dX4_nearest_154 hl (k := 7) rfl (by rw [show Int32.ofInt 1 = 1 from rfl]; exact nI_1 _) (by decide) rfl (fun ls hl => ?_)
                refine lv_goto (tgt := 38) hx hb dX4_nearest_157 (by decide) ?_
                exact ih_loop k (k + 1) R H locs ls (by omega) (by omega) (by omega) hF hP hD hS (lv_sub hl [4, 5, 6, 7, 1, 0] rfl)
        exact loop (n + 1) 0 1 R _ _ ls (by omega) (by omega) (by omega) hR hP hD hS (lv_sub hl [3, 4, 5, 2, 1, 0] rfl)
      · exact absurd c27 (by decide)
    · rw [if_pos c16] at hR
      subst hR
      refine lv_iconst (v := bI true) hx hb dX4_nearest_19 (by decide) ?_
      refine lv_goto (tgt := 24) hx hb dX4_nearest_20 (by decide) ?_
      refine q_mV (wc' := [(o0, .inr (4, [.int (r_thr false true), .int (nI n), .ref xb, .ref yb, .int md, .int nc, .ref za, .ref ua, .ref wa, .int hz, .ref va]))]) (wsN := [(o0, .inr (4, [.int (r_thr false true), .int (nI n), .ref xb, .ref yb, .int md, .int nc, .ref za, .ref ua, .ref wa, .int hz, .ref va])), (xb, .inl (cI, 20, .inl x)), (yb, .inl (cI, 20, .inl y))]) (As := [.int (bI false), .int (bI true)]) (rest := []) ⟨hx, hb, hml, hown, hts⟩ (c_X4_throwing l dC dI o0 xb yb za ua wa va (by omega) th (nI n) md nc hz false true) (cwV 2 hts gX4_nearest_X4_throwing rfl rfl rfl (by decide +kernel) ⟨Nat.le_of_ble_eq_true rfl, Nat.le_of_ble_eq_true rfl⟩) hK hP hD hS [0] [] 4 0 rfl rfl rfl rfl rfl rfl rfl rfl rfl hl.1 rfl (Nat.le_of_ble_eq_true rfl) ⟨Nat.zero_le _, Nat.zero_le _⟩ dX4_nearest_24 rfl (fun H locs hP hD hS => ?_)
      refine W.eq (g2 := F0 m 27 ls [.int (bI (false || true))]) rfl ?_
      refine q_ifb_eq (tgt := 32) hx hb dX4_nearest_27 (by decide) (fun c27 => ?_) (fun c27 => ?_)
      · exact absurd c27 (by decide)
      · refine lv_iconst (v := 0) hx hb dX4_nearest_30 (by decide) ?_
        exact W.iret (v := 0) hx hb hr (q_retm hP hS) hS.2.2 dX4_nearest_31
set_option maxHeartbeats 4000000 in
set_option maxRecDepth 100000 in
theorem c_X4_centre (l : Launch) (dC : Nat → ClassId) (dI : Nat → Nat → Nat) (o0 xb yb za ua wa va : Nat) (cI : ClassId) (th md : Int32) (x y : Nat → Int32) (sz rd od hu : Nat → Nat) (n q hz N : Nat) (w t : Int32) (ln : n ≤ 20) (lo : ∀ j, od j < 60) (lz : ∀ j, sz j ≤ 20) (lr : ∀ j, rd j < 20) (hG : md = 0 → r_good x y n sz rd od N) (hst : r_st (r_mkR x y n md sz rd q od hu hz N)) (hu1 : ∀ a b d, a < 20 → b < 20 → d < 20 → (r_uu x y a b d).toInt.natAbs < 2 ^ 62 ∧ (r_ww x y a b d).toInt.natAbs < 2 ^ 62 ∧ (r_dd x y a b d).toInt.natAbs < 2 ^ 62) (hd1 : ∀ k, k < (r_mkR x y n md sz rd q od hu hz N).2.1.2.2 → 0 < (r_dd x y ((r_mkR x y n md sz rd q od hu hz N).2.1.2.1 (20 * (r_mkR x y n md sz rd q od hu hz N).2.2.1 k)) ((r_mkR x y n md sz rd q od hu hz N).2.1.2.1 (20 * (r_mkR x y n md sz rd q od hu hz N).2.2.1 k + 1)) ((r_mkR x y n md sz rd q od hu hz N).2.1.2.1 (20 * (r_mkR x y n md sz rd q od hu hz N).2.2.1 k + 2))).toInt.natAbs) (R : Int64 × Int32 × Int32 × ((Nat → Nat) × (Nat → Nat) × Nat) × (Nat → Nat) × (Nat → Nat) × Nat) (hR : r_cenR x y w t (r_mkR x y n md sz rd q od hu hz N) = R) : Met l yX4_centre wsX4_centre ({ frames := 5, cells := 0, slots := 0, locals := 117 }) (q_Pm (dC, dI) [.ref o0, .int w, .int t] [(o0, .inr (4, [.int th, .int (nI n), .ref xb, .ref yb, .int md, .int (nI q), .ref za, .ref ua, .ref wa, .int (nI hz), .ref va])), (xb, .inl (cI, 20, .inl x)), (yb, .inl (cI, 20, .inl y)), (za, .inl (cI, 60, .inl (fun j9 => nI (sz j9)))), (ua, .inl (cI, 1200, .inl (fun j9 => nI (rd j9)))), (wa, .inl (cI, 60, .inl (fun j9 => nI (od j9)))), (va, .inl (cI, 20, .inl (fun j9 => nI (hu j9))))] [(cI, .int)]) (q_Qm (dC, dI) (q_in [(o0, .inr (4, [.int th, .int (nI n), .ref xb, .ref yb, .int md, .int (nI q), .ref za, .ref ua, .ref wa, .int (nI hz), .ref va])), (xb, .inl (cI, 20, .inl x)), (yb, .inl (cI, 20, .inl y)), (za, .inl (cI, 60, .inl (fun j9 => nI (sz j9)))), (ua, .inl (cI, 1200, .inl (fun j9 => nI (rd j9)))), (wa, .inl (cI, 60, .inl (fun j9 => nI (od j9)))), (va, .inl (cI, 20, .inl (fun j9 => nI (hu j9))))]) (some (.long R.1)) [(o0, .inr (4, [.int R.2.1, .int (nI n), .ref xb, .ref yb, .int R.2.2.1, .int (nI R.2.2.2.1.2.2), .ref za, .ref ua, .ref wa, .int (nI R.2.2.2.2.2.2), .ref va])), (xb, .inl (cI, 20, .inl x)), (yb, .inl (cI, 20, .inl y)), (za, .inl (cI, 60, .inl (fun j9 => nI (R.2.2.2.1.1 j9)))), (ua, .inl (cI, 1200, .inl (fun j9 => nI (R.2.2.2.1.2.1 j9)))), (wa, .inl (cI, 60, .inl (fun j9 => nI (R.2.2.2.2.1 j9)))), (va, .inl (cI, 20, .inl (fun j9 => nI (R.2.2.2.2.2.1 j9))))]) 0 0 (q_in [(o0, .inr (4, [.int th, .int (nI n), .ref xb, .ref yb, .int md, .int (nI q), .ref za, .ref ua, .ref wa, .int (nI hz), .ref va])), (xb, .inl (cI, 20, .inl x)), (yb, .inl (cI, 20, .inl y)), (za, .inl (cI, 60, .inl (fun j9 => nI (sz j9)))), (ua, .inl (cI, 1200, .inl (fun j9 => nI (rd j9)))), (wa, .inl (cI, 60, .inl (fun j9 => nI (od j9)))), (va, .inl (cI, 20, .inl (fun j9 => nI (hu j9))))]) := by
  refine Met.ofW (cc := cX4_centre) (maxL := 22) (ret := (some .long)) (by decide) rfl ?_
  intro p e s m args below meth c s₁ B hml hv
  obtain ⟨rfl, hP, hK, hD0⟩ := hv
  have hx := B.exec
  have hb := B.bytes
  have hr := B.returns
  have hts := atoms_spec (ws := wsX4_centre) B.pre
  have hown : s.vm.findClass RX4 = some m.cls := findClass_of_methodNamed B.named
  have hlocks := B.notSynchronized
  have hD := q_inD hD0
  generalize hAe : q_in [(o0, .inr (4, [.int th, .int (nI n), .ref xb, .ref yb, .int md, .int (nI q), .ref za, .ref ua, .ref wa, .int (nI hz), .ref va])), (xb, .inl (cI, 20, .inl x)), (yb, .inl (cI, 20, .inl y)), (za, .inl (cI, 60, .inl (fun j9 => nI (sz j9)))), (ua, .inl (cI, 1200, .inl (fun j9 => nI (rd j9)))), (wa, .inl (cI, 60, .inl (fun j9 => nI (od j9)))), (va, .inl (cI, 20, .inl (fun j9 => nI (hu j9))))] = A at hD ⊢
  have hS : va_S A s.heap s.heap [] := va_S.rf
  have hP : va_P (dC, dI) vwCl [(o0, .inr (4, [.int th, .int (nI n), .ref xb, .ref yb, .int md, .int (nI q), .ref za, .ref ua, .ref wa, .int (nI hz), .ref va])), (xb, .inl (cI, 20, .inl x)), (yb, .inl (cI, 20, .inl y)), (za, .inl (cI, 60, .inl (fun j9 => nI (sz j9)))), (ua, .inl (cI, 1200, .inl (fun j9 => nI (rd j9)))), (wa, .inl (cI, 60, .inl (fun j9 => nI (od j9)))), (va, .inl (cI, 20, .inl (fun j9 => nI (hu j9))))] s.heap := hP
  have hl := lv_entry ([.ref o0, .int w, .int t]) (n := 22) (Nat.le_of_ble_eq_true rfl)
  rw [lg_entry_eq]
  generalize (lg_sl ([.ref o0, .int w, .int t]) ++ List.replicate (22 - (lg_sl ([.ref o0, .int w, .int t])).length) Slot.unset).toArray = ls at hl ⊢
  have hl : lv_has ls 22 [(0, .ref o0), (1, .int w), (2, .int t)] := hl
  refine lv_aload_n hx hb dX4_centre_0 rfl (lv_at hl 0 rfl) ?_
  obtain ⟨r1, hr1⟩ : ∃ r : Int32 × ((Nat → Nat) × (Nat → Nat) × Nat) × (Nat → Nat) × (Nat → Nat) × Nat, r_mkR x y n md sz rd q od hu hz N = r := ⟨_, rfl⟩
  refine q_mV (wc' := [(o0, .inr (4, [.int th, .int (nI n), .ref xb, .ref yb, .int r1.1, .int (nI r1.2.1.2.2), .ref za, .ref ua, .ref wa, .int (nI r1.2.2.2.2), .ref va])), (xb, .inl (cI, 20, .inl x)), (yb, .inl (cI, 20, .inl y)), (za, .inl (cI, 60, .inl (fun j9 => nI (r1.2.1.1 j9)))), (ua, .inl (cI, 1200, .inl (fun j9 => nI (r1.2.1.2.1 j9)))), (wa, .inl (cI, 60, .inl (fun j9 => nI (r1.2.2.1 j9)))), (va, .inl (cI, 20, .inl (fun j9 => nI (r1.2.2.2.1 j9))))]) (wsN := [(o0, .inr (4, [.int th, .int (nI n), .ref xb, .ref yb, .int r1.1, .int (nI r1.2.1.2.2), .ref za, .ref ua, .ref wa, .int (nI r1.2.2.2.2), .ref va])), (xb, .inl (cI, 20, .inl x)), (yb, .inl (cI, 20, .inl y)), (za, .inl (cI, 60, .inl (fun j9 => nI (r1.2.1.1 j9)))), (ua, .inl (cI, 1200, .inl (fun j9 => nI (r1.2.1.2.1 j9)))), (wa, .inl (cI, 60, .inl (fun j9 => nI (r1.2.2.1 j9)))), (va, .inl (cI, 20, .inl (fun j9 => nI (r1.2.2.2.1 j9))))]) (As := []) (rest := []) ⟨hx, hb, hml, hown, hts⟩ (c_X4_make l dC dI o0 xb yb za ua wa va cI th md x y sz rd od hu n q hz N (by omega) lo lz lr hG r1 hr1) (cwV 0 hts gX4_centre_X4_make rfl rfl rfl (by decide +kernel) ⟨Nat.le_of_ble_eq_true rfl, Nat.le_of_ble_eq_true rfl⟩) hK hP hD hS [0, 1, 2, 3, 4, 5, 6] [0] 4 0 rfl rfl rfl rfl rfl rfl rfl rfl rfl hl.1 rfl (Nat.le_of_ble_eq_true rfl) ⟨Nat.zero_le _, Nat.zero_le _⟩ dX4_centre_1 rfl (fun H locs hP hD hS => ?_)
  refine W.eq (g2 := F0 m 4 ls []) rfl ?_
  rw [hr1] at hR hst hd1
  have hq9 := hst.2.2.1
  refine lv_iload_n hx hb dX4_centre_4 rfl (lv_at hl 2 rfl) ?_
  refine lv_iconst (v := 3) hx hb dX4_centre_5 (by decide) ?_
  refine q_cS (As := [.int t, .int 3]) (rest := []) ⟨hx, hb, hml, hown, hts⟩ (c_X4_out l dC dI t 3) (va_cwS 2 hts gX4_centre_X4_out rfl rfl rfl (by decide +kernel) ⟨Nat.le_of_ble_eq_true rfl, Nat.le_of_ble_eq_true rfl⟩) (q_pS hK hP [] [] rfl rfl rfl) rfl hl.1 rfl (Nat.le_of_ble_eq_true rfl) ⟨Nat.zero_le _, Nat.zero_le _⟩ dX4_centre_6 ?_
  refine lv_istore_n (lv' := [(3, .int (bI (r_out t 3))), (0, .ref o0), (1, .int w), (2, .int t)]) hx hb dX4_centre_9 rfl hl (by decide) rfl (fun ls hl => ?_)
  refine lv_aload_n hx hb dX4_centre_10 rfl (lv_at hl 1 rfl) ?_
  refine lv_iload_n hx hb dX4_centre_11 rfl (lv_at hl 0 rfl) ?_
  refine q_ifb_eq (tgt := 19) hx hb dX4_centre_12 (by decide) (fun c12 => ?_) (fun c12 => ?_)
  · rw [r_cenR, if_neg (by rw [c12]; decide)] at hR
    refine lv_iload_n hx hb dX4_centre_19 rfl (lv_at hl 2 rfl) ?_
    refine lv_aload_n hx hb dX4_centre_20 rfl (lv_at hl 1 rfl) ?_
    refine va_get (D := (dC, dI)) (ci := 4) (v := .int (nI r1.2.1.2.2)) (C := RX4) (T := TX4) (N := 11) hx hb hts (by decide +kernel) hown hK hP 0 rfl rfl 5 (by decide) (hts (.fieldLink RX4 65 "CircleCellsModel" "cells" "I") (by decide +kernel)) (fun _ h9 => h9) rfl dX4_centre_21 ?_
    refine q_cS (As := [.int w, .int (nI r1.2.1.2.2)]) (rest := [.ref o0]) ⟨hx, hb, hml, hown, hts⟩ (c_X4_out l dC dI w (nI r1.2.1.2.2)) (va_cwS 2 hts gX4_centre_X4_out rfl rfl rfl (by decide +kernel) ⟨Nat.le_of_ble_eq_true rfl, Nat.le_of_ble_eq_true rfl⟩) (q_pS hK hP [] [] rfl rfl rfl) rfl hl.1 rfl (Nat.le_of_ble_eq_true rfl) ⟨Nat.zero_le _, Nat.zero_le _⟩ dX4_centre_24 ?_
    refine q_ifb_eq (tgt := 34) hx hb dX4_centre_27 (by decide) (fun c27 => ?_) (fun c27 => ?_)
    · rw [if_neg (by rw [c27]; decide)] at hR
      obtain ⟨k, hk, rfl⟩ := r_out_f (by omega) c27
      rw [nI_clamp (by omega)] at hR
      have lok := hst.2.2.2.1 k
      refine lv_iconst (v := 0) hx hb dX4_centre_34 (by decide) ?_
      refine va_put (D := (dC, dI)) (ci := 4) (v := .int 0) (ty := .int) (C := RX4) (T := TX4) (N := 11) hx hb hts (by decide +kernel) tyX4 tyX4_ok nmX4 hown hK hP hD hS 0 rfl rfl 0 (by decide) (hts (.fieldLink RX4 28 "CircleCellsModel" "thrown" "I") (by decide +kernel)) (fun _ h9 => h9) rfl (by decide +kernel) rfl rfl (Nat.le_of_ble_eq_true rfl) dX4_centre_35 (fun H locs hP hD hS => ?_)
      have hP : va_P (dC, dI) vwCl [(o0, .inr (4, [.int 0, .int (nI n), .ref xb, .ref yb, .int r1.1, .int (nI r1.2.1.2.2), .ref za, .ref ua, .ref wa, .int (nI r1.2.2.2.2), .ref va])), (xb, .inl (cI, 20, .inl x)), (yb, .inl (cI, 20, .inl y)), (za, .inl (cI, 60, .inl (fun j9 => nI (r1.2.1.1 j9)))), (ua, .inl (cI, 1200, .inl (fun j9 => nI (r1.2.1.2.1 j9)))), (wa, .inl (cI, 60, .inl (fun j9 => nI (r1.2.2.1 j9)))), (va, .inl (cI, 20, .inl (fun j9 => nI (r1.2.2.2.1 j9))))] H := hP
      have hD : va_D A [(o0, .inr (4, [.int 0, .int (nI n), .ref xb, .ref yb, .int r1.1, .int (nI r1.2.1.2.2), .ref za, .ref ua, .ref wa, .int (nI r1.2.2.2.2), .ref va])), (xb, .inl (cI, 20, .inl x)), (yb, .inl (cI, 20, .inl y)), (za, .inl (cI, 60, .inl (fun j9 => nI (r1.2.1.1 j9)))), (ua, .inl (cI, 1200, .inl (fun j9 => nI (r1.2.1.2.1 j9)))), (wa, .inl (cI, 60, .inl (fun j9 => nI (r1.2.2.1 j9)))), (va, .inl (cI, 20, .inl (fun j9 => nI (r1.2.2.2.1 j9))))] := hD
      refine lv_aload_n hx hb dX4_centre_38 rfl (lv_at hl 1 rfl) ?_
      refine va_get (D := (dC, dI)) (ci := 4) (v := .int 0) (C := RX4) (T := TX4) (N := 11) hx hb hts (by decide +kernel) hown hK hP 0 rfl rfl 0 (by decide) (hts (.fieldLink RX4 28 "CircleCellsModel" "thrown" "I") (by decide +kernel)) (fun _ h9 => h9) rfl dX4_centre_39 ?_
      refine lv_if_le (tgt := 47) hx hb dX4_centre_42 (by decide) (fun c42 => ?_) (fun c42 => ?_)
      · refine lv_aload_n hx hb dX4_centre_47 rfl (lv_at hl 1 rfl) ?_
        refine va_get (D := (dC, dI)) (ci := 4) (v := .ref wa) (C := RX4) (T := TX4) (N := 11) hx hb hts (by decide +kernel) hown hK hP 0 rfl rfl 8 (by decide) (hts (.fieldLink RX4 22 "CircleCellsModel" "order" "[I") (by decide +kernel)) (fun _ h9 => h9) rfl dX4_centre_48 ?_
        refine lv_iload_n hx hb dX4_centre_51 rfl (lv_at hl 2 rfl) ?_
        refine q_iald hx hb hK hP 5 0 rfl rfl (k) rfl (by omega) (by decide) dX4_centre_52 ?_
        refine lv_istore (lv' := [(4, .int (nI (r1.2.2.1 k))), (3, .int (bI (r_out t 3))), (0, .ref o0), (1, .int (nI k)), (2, .int t)]) hx hb dX4_centre_53 hl (by decide) rfl (fun ls hl => ?_)
        refine lv_aload_n hx hb dX4_centre_55 rfl (lv_at hl 2 rfl) ?_
        refine va_get (D := (dC, dI)) (ci := 4) (v := .ref ua) (C := RX4) (T := TX4) (N := 11) hx hb hts (by decide +kernel) hown hK hP 0 rfl rfl 7 (by decide) (hts (.fieldLink RX4 19 "CircleCellsModel" "round" "[I") (by decide +kernel)) (fun _ h9 => h9) rfl dX4_centre_56 ?_
        refine lv_bipush (v := nI 20) hx hb dX4_centre_59 (by decide) ?_
        refine lv_iload hx hb dX4_centre_61 (lv_at hl 0 rfl) ?_
        refine q_imul hx hb dX4_centre_63 ?_
        refine q_iald hx hb hK hP 4 0 rfl rfl (20 * (r1.2.2.1 k)) rfl (by omega) (by decide) dX4_centre_64 ?_
        refine lv_istore (lv' := [(5, .int (nI (r1.2.1.2.1 (20 * (r1.2.2.1 k))))), (4, .int (nI (r1.2.2.1 k))), (3, .int (bI (r_out t 3))), (0, .ref o0), (1, .int (nI k)), (2, .int t)]) hx hb dX4_centre_65 hl (by decide) rfl (fun ls hl => ?_)
        refine lv_aload_n hx hb dX4_centre_67 rfl (lv_at hl 3 rfl) ?_
        refine va_get (D := (dC, dI)) (ci := 4) (v := .ref ua) (C := RX4) (T := TX4) (N := 11) hx hb hts (by decide +kernel) hown hK hP 0 rfl rfl 7 (by decide) (hts (.fieldLink RX4 19 "CircleCellsModel" "round" "[I") (by decide +kernel)) (fun _ h9 => h9) rfl dX4_centre_68 ?_
        refine lv_bipush (v := nI 20) hx hb dX4_centre_71 (by decide) ?_
        refine lv_iload hx hb dX4_centre_73 (lv_at hl 1 rfl) ?_
        refine q_imul hx hb dX4_centre_75 ?_
        refine lv_iconst (v := nI 1) hx hb dX4_centre_76 (by decide) ?_
        refine q_iadd hx hb dX4_centre_77 ?_
        refine q_iald hx hb hK hP 4 0 rfl rfl ((20 * (r1.2.2.1 k)) + 1) rfl (by omega) (by decide) dX4_centre_78 ?_
        refine lv_istore (lv' := [(6, .int (nI (r1.2.1.2.1 ((20 * (r1.2.2.1 k)) + 1)))), (5, .int (nI (r1.2.1.2.1 (20 * (r1.2.2.1 k))))), (4, .int (nI (r1.2.2.1 k))), (3, .int (bI (r_out t 3))), (0, .ref o0), (1, .int (nI k)), (2, .int t)]) hx hb dX4_centre_79 hl (by decide) rfl (fun ls hl => ?_)
        refine lv_aload_n hx hb dX4_centre_81 rfl (lv_at hl 4 rfl) ?_
        refine va_get (D := (dC, dI)) (ci := 4) (v := .ref ua) (C := RX4) (T := TX4) (N := 11) hx hb hts (by decide +kernel) hown hK hP 0 rfl rfl 7 (by decide) (hts (.fieldLink RX4 19 "CircleCellsModel" "round" "[I") (by decide +kernel)) (fun _ h9 => h9) rfl dX4_centre_82 ?_
        refine lv_bipush (v := nI 20) hx hb dX4_centre_85 (by decide) ?_
        refine lv_iload hx hb dX4_centre_87 (lv_at hl 2 rfl) ?_
        refine q_imul hx hb dX4_centre_89 ?_
        refine lv_iconst (v := nI 2) hx hb dX4_centre_90 (by decide) ?_
        refine q_iadd hx hb dX4_centre_91 ?_
        refine q_iald hx hb hK hP 4 0 rfl rfl ((20 * (r1.2.2.1 k)) + 2) rfl (by omega) (by decide) dX4_centre_92 ?_
        refine lv_istore (lv' := [(7, .int (nI (r1.2.1.2.1 ((20 * (r1.2.2.1 k)) + 2)))), (6, .int (nI (r1.2.1.2.1 ((20 * (r1.2.2.1 k)) + 1)))), (5, .int (nI (r1.2.1.2.1 (20 * (r1.2.2.1 k))))), (4, .int (nI (r1.2.2.1 k))), (3, .int (bI (r_out t 3))), (0, .ref o0), (1, .int (nI k)), (2, .int t)]) hx hb dX4_centre_93 hl (by decide) rfl (fun ls hl => ?_)
        refine lv_aload_n hx hb dX4_centre_95 rfl (lv_at hl 5 rfl) ?_
        refine va_get (D := (dC, dI)) (ci := 4) (v := .ref xb) (C := RX4) (T := TX4) (N := 11) hx hb hts (by decide +kernel) hown hK hP 0 rfl rfl 2 (by decide) (hts (.fieldLink RX4 7 "CircleCellsModel" "x" "[I") (by decide +kernel)) (fun _ h9 => h9) rfl dX4_centre_96 ?_
        refine lv_iload hx hb dX4_centre_99 (lv_at hl 2 rfl) ?_
        refine q_iald hx hb hK hP 1 0 rfl rfl (r1.2.1.2.1 (20 * (r1.2.2.1 k))) rfl (hst.2.1 _) (by decide) dX4_centre_101 ?_
        refine lv_i2l (v := (x (r1.2.1.2.1 (20 * (r1.2.2.1 k)))).toInt64) hx hb dX4_centre_102 rfl ?_
        refine lv_aload_n hx hb dX4_centre_103 rfl (lv_at hl 5 rfl) ?_
        refine va_get (D := (dC, dI)) (ci := 4) (v := .ref xb) (C := RX4) (T := TX4) (N := 11) hx hb hts (by decide +kernel) hown hK hP 0 rfl rfl 2 (by decide) (hts (.fieldLink RX4 7 "CircleCellsModel" "x" "[I") (by decide +kernel)) (fun _ h9 => h9) rfl dX4_centre_104 ?_
        refine lv_iload hx hb dX4_centre_107 (lv_at hl 2 rfl) ?_
        refine q_iald hx hb hK hP 1 0 rfl rfl (r1.2.1.2.1 (20 * (r1.2.2.1 k))) rfl (hst.2.1 _) (by decide) dX4_centre_109 ?_
        refine lv_i2l (v := (x (r1.2.1.2.1 (20 * (r1.2.2.1 k)))).toInt64) hx hb dX4_centre_110 rfl ?_
        refine lv_lmul hx hb dX4_centre_111 ?_
        refine lv_aload_n hx hb dX4_centre_112 rfl (lv_at hl 5 rfl) ?_
        refine va_get (D := (dC, dI)) (ci := 4) (v := .ref yb) (C := RX4) (T := TX4) (N := 11) hx hb hts (by decide +kernel) hown hK hP 0 rfl rfl 3 (by decide) (hts (.fieldLink RX4 13 "CircleCellsModel" "y" "[I") (by decide +kernel)) (fun _ h9 => h9) rfl dX4_centre_113 ?_
        refine lv_iload hx hb dX4_centre_116 (lv_at hl 2 rfl) ?_
        refine q_iald hx hb hK hP 2 0 rfl rfl (r1.2.1.2.1 (20 * (r1.2.2.1 k))) rfl (hst.2.1 _) (by decide) dX4_centre_118 ?_
        refine lv_i2l (v := (y (r1.2.1.2.1 (20 * (r1.2.2.1 k)))).toInt64) hx hb dX4_centre_119 rfl ?_
        refine lv_aload_n hx hb dX4_centre_120 rfl (lv_at hl 5 rfl) ?_
        refine va_get (D := (dC, dI)) (ci := 4) (v := .ref yb) (C := RX4) (T := TX4) (N := 11) hx hb hts (by decide +kernel) hown hK hP 0 rfl rfl 3 (by decide) (hts (.fieldLink RX4 13 "CircleCellsModel" "y" "[I") (by decide +kernel)) (fun _ h9 => h9) rfl dX4_centre_121 ?_
        refine lv_iload hx hb dX4_centre_124 (lv_at hl 2 rfl) ?_
        refine q_iald hx hb hK hP 2 0 rfl rfl (r1.2.1.2.1 (20 * (r1.2.2.1 k))) rfl (hst.2.1 _) (by decide) dX4_centre_126 ?_
        refine lv_i2l (v := (y (r1.2.1.2.1 (20 * (r1.2.2.1 k)))).toInt64) hx hb dX4_centre_127 rfl ?_
        refine lv_lmul hx hb dX4_centre_128 ?_
        refine lv_ladd hx hb dX4_centre_129 ?_
        refine lv_lstore (lv' := [(8, .long ((((x (r1.2.1.2.1 (20 * (r1.2.2.1 k)))).toInt64) * ((x (r1.2.1.2.1 (20 * (r1.2.2.1 k)))).toInt64)) + (((y (r1.2.1.2.1 (20 * (r1.2.2.1 k)))).toInt64) * ((y (r1.2.1.2.1 (20 * (r1.2.2.1 k)))).toInt64)))), (7, .int (nI (r1.2.1.2.1 ((20 * (r1.2.2.1 k)) + 2)))), (6, .int (nI (r1.2.1.2.1 ((20 * (r1.2.2.1 k)) + 1)))), (5, .int (nI (r1.2.1.2.1 (20 * (r1.2.2.1 k))))), (4, .int (nI (r1.2.2.1 k))), (3, .int (bI (r_out t 3))), (0, .ref o0), (1, .int (nI k)), (2, .int t)]) hx hb dX4_centre_130 hl (by decide) rfl (fun ls hl => ?_)
        refine lv_aload_n hx hb dX4_centre_132 rfl (lv_at hl 6 rfl) ?_
        refine va_get (D := (dC, dI)) (ci := 4) (v := .ref xb) (C := RX4) (T := TX4) (N := 11) hx hb hts (by decide +kernel) hown hK hP 0 rfl rfl 2 (by decide) (hts (.fieldLink RX4 7 "CircleCellsModel" "x" "[I") (by decide +kernel)) (fun _ h9 => h9) rfl dX4_centre_133 ?_
        refine lv_iload hx hb dX4_centre_136 (lv_at hl 2 rfl) ?_
        refine q_iald hx hb hK hP 1 0 rfl rfl (r1.2.1.2.1 ((20 * (r1.2.2.1 k)) + 1)) rfl (hst.2.1 _) (by decide) dX4_centre_138 ?_
        refine lv_i2l (v := (x (r1.2.1.2.1 ((20 * (r1.2.2.1 k)) + 1))).toInt64) hx hb dX4_centre_139 rfl ?_
        refine lv_aload_n hx hb dX4_centre_140 rfl (lv_at hl 6 rfl) ?_
        refine va_get (D := (dC, dI)) (ci := 4) (v := .ref xb) (C := RX4) (T := TX4) (N := 11) hx hb hts (by decide +kernel) hown hK hP 0 rfl rfl 2 (by decide) (hts (.fieldLink RX4 7 "CircleCellsModel" "x" "[I") (by decide +kernel)) (fun _ h9 => h9) rfl dX4_centre_141 ?_
        refine lv_iload hx hb dX4_centre_144 (lv_at hl 2 rfl) ?_
        refine q_iald hx hb hK hP 1 0 rfl rfl (r1.2.1.2.1 ((20 * (r1.2.2.1 k)) + 1)) rfl (hst.2.1 _) (by decide) dX4_centre_146 ?_
        refine lv_i2l (v := (x (r1.2.1.2.1 ((20 * (r1.2.2.1 k)) + 1))).toInt64) hx hb dX4_centre_147 rfl ?_
        refine lv_lmul hx hb dX4_centre_148 ?_
        refine lv_aload_n hx hb dX4_centre_149 rfl (lv_at hl 6 rfl) ?_
        refine va_get (D := (dC, dI)) (ci := 4) (v := .ref yb) (C := RX4) (T := TX4) (N := 11) hx hb hts (by decide +kernel) hown hK hP 0 rfl rfl 3 (by decide) (hts (.fieldLink RX4 13 "CircleCellsModel" "y" "[I") (by decide +kernel)) (fun _ h9 => h9) rfl dX4_centre_150 ?_
        refine lv_iload hx hb dX4_centre_153 (lv_at hl 2 rfl) ?_
        refine q_iald hx hb hK hP 2 0 rfl rfl (r1.2.1.2.1 ((20 * (r1.2.2.1 k)) + 1)) rfl (hst.2.1 _) (by decide) dX4_centre_155 ?_
        refine lv_i2l (v := (y (r1.2.1.2.1 ((20 * (r1.2.2.1 k)) + 1))).toInt64) hx hb dX4_centre_156 rfl ?_
        refine lv_aload_n hx hb dX4_centre_157 rfl (lv_at hl 6 rfl) ?_
        refine va_get (D := (dC, dI)) (ci := 4) (v := .ref yb) (C := RX4) (T := TX4) (N := 11) hx hb hts (by decide +kernel) hown hK hP 0 rfl rfl 3 (by decide) (hts (.fieldLink RX4 13 "CircleCellsModel" "y" "[I") (by decide +kernel)) (fun _ h9 => h9) rfl dX4_centre_158 ?_
        refine lv_iload hx hb dX4_centre_161 (lv_at hl 2 rfl) ?_
        refine q_iald hx hb hK hP 2 0 rfl rfl (r1.2.1.2.1 ((20 * (r1.2.2.1 k)) + 1)) rfl (hst.2.1 _) (by decide) dX4_centre_163 ?_
        refine lv_i2l (v := (y (r1.2.1.2.1 ((20 * (r1.2.2.1 k)) + 1))).toInt64) hx hb dX4_centre_164 rfl ?_
        refine lv_lmul hx hb dX4_centre_165 ?_
        refine lv_ladd hx hb dX4_centre_166 ?_
        refine lv_lstore (lv' := [(10, .long ((((x (r1.2.1.2.1 ((20 * (r1.2.2.1 k)) + 1))).toInt64) * ((x (r1.2.1.2.1 ((20 * (r1.2.2.1 k)) + 1))).toInt64)) + (((y (r1.2.1.2.1 ((20 * (r1.2.2.1 k)) + 1))).toInt64) * ((y (r1.2.1.2.1 ((20 * (r1.2.2.1 k)) + 1))).toInt64)))), (8, .long ((((x (r1.2.1.2.1 (20 * (r1.2.2.1 k)))).toInt64) * ((x (r1.2.1.2.1 (20 * (r1.2.2.1 k)))).toInt64)) + (((y (r1.2.1.2.1 (20 * (r1.2.2.1 k)))).toInt64) * ((y (r1.2.1.2.1 (20 * (r1.2.2.1 k)))).toInt64)))), (7, .int (nI (r1.2.1.2.1 ((20 * (r1.2.2.1 k)) + 2)))), (6, .int (nI (r1.2.1.2.1 ((20 * (r1.2.2.1 k)) + 1)))), (5, .int (nI (r1.2.1.2.1 (20 * (r1.2.2.1 k))))), (4, .int (nI (r1.2.2.1 k))), (3, .int (bI (r_out t 3))), (0, .ref o0), (1, .int (nI k)), (2, .int t)]) hx hb dX4_centre_167 hl (by decide) rfl (fun ls hl => ?_)
        refine lv_aload_n hx hb dX4_centre_169 rfl (lv_at hl 7 rfl) ?_
        refine va_get (D := (dC, dI)) (ci := 4) (v := .ref xb) (C := RX4) (T := TX4) (N := 11) hx hb hts (by decide +kernel) hown hK hP 0 rfl rfl 2 (by decide) (hts (.fieldLink RX4 7 "CircleCellsModel" "x" "[I") (by decide +kernel)) (fun _ h9 => h9) rfl dX4_centre_170 ?_
        refine lv_iload hx hb dX4_centre_173 (lv_at hl 2 rfl) ?_
        refine q_iald hx hb hK hP 1 0 rfl rfl (r1.2.1.2.1 ((20 * (r1.2.2.1 k)) + 2)) rfl (hst.2.1 _) (by decide) dX4_centre_175 ?_
        refine lv_i2l (v := (x (r1.2.1.2.1 ((20 * (r1.2.2.1 k)) + 2))).toInt64) hx hb dX4_centre_176 rfl ?_
        refine lv_aload_n hx hb dX4_centre_177 rfl (lv_at hl 7 rfl) ?_
        refine va_get (D := (dC, dI)) (ci := 4) (v := .ref xb) (C := RX4) (T := TX4) (N := 11) hx hb hts (by decide +kernel) hown hK hP 0 rfl rfl 2 (by decide) (hts (.fieldLink RX4 7 "CircleCellsModel" "x" "[I") (by decide +kernel)) (fun _ h9 => h9) rfl dX4_centre_178 ?_
        refine lv_iload hx hb dX4_centre_181 (lv_at hl 2 rfl) ?_
        refine q_iald hx hb hK hP 1 0 rfl rfl (r1.2.1.2.1 ((20 * (r1.2.2.1 k)) + 2)) rfl (hst.2.1 _) (by decide) dX4_centre_183 ?_
        refine lv_i2l (v := (x (r1.2.1.2.1 ((20 * (r1.2.2.1 k)) + 2))).toInt64) hx hb dX4_centre_184 rfl ?_
        refine lv_lmul hx hb dX4_centre_185 ?_
        refine lv_aload_n hx hb dX4_centre_186 rfl (lv_at hl 7 rfl) ?_
        refine va_get (D := (dC, dI)) (ci := 4) (v := .ref yb) (C := RX4) (T := TX4) (N := 11) hx hb hts (by decide +kernel) hown hK hP 0 rfl rfl 3 (by decide) (hts (.fieldLink RX4 13 "CircleCellsModel" "y" "[I") (by decide +kernel)) (fun _ h9 => h9) rfl dX4_centre_187 ?_
        refine lv_iload hx hb dX4_centre_190 (lv_at hl 2 rfl) ?_
        refine q_iald hx hb hK hP 2 0 rfl rfl (r1.2.1.2.1 ((20 * (r1.2.2.1 k)) + 2)) rfl (hst.2.1 _) (by decide) dX4_centre_192 ?_
        refine lv_i2l (v := (y (r1.2.1.2.1 ((20 * (r1.2.2.1 k)) + 2))).toInt64) hx hb dX4_centre_193 rfl ?_
        refine lv_aload_n hx hb dX4_centre_194 rfl (lv_at hl 7 rfl) ?_
        refine va_get (D := (dC, dI)) (ci := 4) (v := .ref yb) (C := RX4) (T := TX4) (N := 11) hx hb hts (by decide +kernel) hown hK hP 0 rfl rfl 3 (by decide) (hts (.fieldLink RX4 13 "CircleCellsModel" "y" "[I") (by decide +kernel)) (fun _ h9 => h9) rfl dX4_centre_195 ?_
        refine lv_iload hx hb dX4_centre_198 (lv_at hl 2 rfl) ?_
        refine q_iald hx hb hK hP 2 0 rfl rfl (r1.2.1.2.1 ((20 * (r1.2.2.1 k)) + 2)) rfl (hst.2.1 _) (by decide) dX4_centre_200 ?_
        refine lv_i2l (v := (y (r1.2.1.2.1 ((20 * (r1.2.2.1 k)) + 2))).toInt64) hx hb dX4_centre_201 rfl ?_
        refine lv_lmul hx hb dX4_centre_202 ?_
        refine lv_ladd hx hb dX4_centre_203 ?_
        refine lv_lstore (lv' := [(12, .long ((((x (r1.2.1.2.1 ((20 * (r1.2.2.1 k)) + 2))).toInt64) * ((x (r1.2.1.2.1 ((20 * (r1.2.2.1 k)) + 2))).toInt64)) + (((y (r1.2.1.2.1 ((20 * (r1.2.2.1 k)) + 2))).toInt64) * ((y (r1.2.1.2.1 ((20 * (r1.2.2.1 k)) + 2))).toInt64)))), (10, .long ((((x (r1.2.1.2.1 ((20 * (r1.2.2.1 k)) + 1))).toInt64) * ((x (r1.2.1.2.1 ((20 * (r1.2.2.1 k)) + 1))).toInt64)) + (((y (r1.2.1.2.1 ((20 * (r1.2.2.1 k)) + 1))).toInt64) * ((y (r1.2.1.2.1 ((20 * (r1.2.2.1 k)) + 1))).toInt64)))), (8, .long ((((x (r1.2.1.2.1 (20 * (r1.2.2.1 k)))).toInt64) * ((x (r1.2.1.2.1 (20 * (r1.2.2.1 k)))).toInt64)) + (((y (r1.2.1.2.1 (20 * (r1.2.2.1 k)))).toInt64) * ((y (r1.2.1.2.1 (20 * (r1.2.2.1 k)))).toInt64)))), (7, .int (nI (r1.2.1.2.1 ((20 * (r1.2.2.1 k)) + 2)))), (6, .int (nI (r1.2.1.2.1 ((20 * (r1.2.2.1 k)) + 1)))), (5, .int (nI (r1.2.1.2.1 (20 * (r1.2.2.1 k))))), (4, .int (nI (r1.2.2.1 k))), (3, .int (bI (r_out t 3))), (0, .ref o0), (1, .int (nI k)), (2, .int t)]) hx hb dX4_centre_204 hl (by decide) rfl (fun ls hl => ?_)
        refine lv_ldc2 (v := 2) hx hb hown (hts (.constantLong RX4 102 (2)) (by decide +kernel)) dX4_centre_206 ?_
        refine lv_aload_n hx hb dX4_centre_209 rfl (lv_at hl 8 rfl) ?_
        refine va_get (D := (dC, dI)) (ci := 4) (v := .ref xb) (C := RX4) (T := TX4) (N := 11) hx hb hts (by decide +kernel) hown hK hP 0 rfl rfl 2 (by decide) (hts (.fieldLink RX4 7 "CircleCellsModel" "x" "[I") (by decide +kernel)) (fun _ h9 => h9) rfl dX4_centre_210 ?_
        refine lv_iload hx hb dX4_centre_213 (lv_at hl 5 rfl) ?_
        refine q_iald hx hb hK hP 1 0 rfl rfl (r1.2.1.2.1 (20 * (r1.2.2.1 k))) rfl (hst.2.1 _) (by decide) dX4_centre_215 ?_
        refine lv_i2l (v := (x (r1.2.1.2.1 (20 * (r1.2.2.1 k)))).toInt64) hx hb dX4_centre_216 rfl ?_
        refine lv_aload_n hx hb dX4_centre_217 rfl (lv_at hl 8 rfl) ?_
        refine va_get (D := (dC, dI)) (ci := 4) (v := .ref yb) (C := RX4) (T := TX4) (N := 11) hx hb hts (by decide +kernel) hown hK hP 0 rfl rfl 3 (by decide) (hts (.fieldLink RX4 13 "CircleCellsModel" "y" "[I") (by decide +kernel)) (fun _ h9 => h9) rfl dX4_centre_218 ?_
        refine lv_iload hx hb dX4_centre_221 (lv_at hl 4 rfl) ?_
        refine q_iald hx hb hK hP 2 0 rfl rfl (r1.2.1.2.1 ((20 * (r1.2.2.1 k)) + 1)) rfl (hst.2.1 _) (by decide) dX4_centre_223 ?_
        refine lv_aload_n hx hb dX4_centre_224 rfl (lv_at hl 8 rfl) ?_
        refine va_get (D := (dC, dI)) (ci := 4) (v := .ref yb) (C := RX4) (T := TX4) (N := 11) hx hb hts (by decide +kernel) hown hK hP 0 rfl rfl 3 (by decide) (hts (.fieldLink RX4 13 "CircleCellsModel" "y" "[I") (by decide +kernel)) (fun _ h9 => h9) rfl dX4_centre_225 ?_
        refine lv_iload hx hb dX4_centre_228 (lv_at hl 3 rfl) ?_
        refine q_iald hx hb hK hP 2 0 rfl rfl (r1.2.1.2.1 ((20 * (r1.2.2.1 k)) + 2)) rfl (hst.2.1 _) (by decide) dX4_centre_230 ?_
        refine lv_isub hx hb dX4_centre_231 ?_
        refine lv_i2l (v := ((y (r1.2.1.2.1 ((20 * (r1.2.2.1 k)) + 1))) - (y (r1.2.1.2.1 ((20 * (r1.2.2.1 k)) + 2)))).toInt64) hx hb dX4_centre_232 rfl ?_
        refine lv_lmul hx hb dX4_centre_233 ?_
        refine lv_aload_n hx hb dX4_centre_234 rfl (lv_at hl 8 rfl) ?_
        refine va_get (D := (dC, dI)) (ci := 4) (v := .ref xb) (C := RX4) (T := TX4) (N := 11) hx hb hts (by decide +kernel) hown hK hP 0 rfl rfl 2 (by decide) (hts (.fieldLink RX4 7 "CircleCellsModel" "x" "[I") (by decide +kernel)) (fun _ h9 => h9) rfl dX4_centre_235 ?_
        refine lv_iload hx hb dX4_centre_238 (lv_at hl 4 rfl) ?_
        refine q_iald hx hb hK hP 1 0 rfl rfl (r1.2.1.2.1 ((20 * (r1.2.2.1 k)) + 1)) rfl (hst.2.1 _) (by decide) dX4_centre_240 ?_
        refine lv_i2l (v := (x (r1.2.1.2.1 ((20 * (r1.2.2.1 k)) + 1))).toInt64) hx hb dX4_centre_241 rfl ?_
        refine lv_aload_n hx hb dX4_centre_242 rfl (lv_at hl 8 rfl) ?_
        refine va_get (D := (dC, dI)) (ci := 4) (v := .ref yb) (C := RX4) (T := TX4) (N := 11) hx hb hts (by decide +kernel) hown hK hP 0 rfl rfl 3 (by decide) (hts (.fieldLink RX4 13 "CircleCellsModel" "y" "[I") (by decide +kernel)) (fun _ h9 => h9) rfl dX4_centre_243 ?_
        refine lv_iload hx hb dX4_centre_246 (lv_at hl 3 rfl) ?_
        refine q_iald hx hb hK hP 2 0 rfl rfl (r1.2.1.2.1 ((20 * (r1.2.2.1 k)) + 2)) rfl (hst.2.1 _) (by decide) dX4_centre_248 ?_
        refine lv_aload_n hx hb dX4_centre_249 rfl (lv_at hl 8 rfl) ?_
        refine va_get (D := (dC, dI)) (ci := 4) (v := .ref yb) (C := RX4) (T := TX4) (N := 11) hx hb hts (by decide +kernel) hown hK hP 0 rfl rfl 3 (by decide) (hts (.fieldLink RX4 13 "CircleCellsModel" "y" "[I") (by decide +kernel)) (fun _ h9 => h9) rfl dX4_centre_250 ?_
        refine lv_iload hx hb dX4_centre_253 (lv_at hl 5 rfl) ?_
        refine q_iald hx hb hK hP 2 0 rfl rfl (r1.2.1.2.1 (20 * (r1.2.2.1 k))) rfl (hst.2.1 _) (by decide) dX4_centre_255 ?_
        refine lv_isub hx hb dX4_centre_256 ?_
        refine lv_i2l (v := ((y (r1.2.1.2.1 ((20 * (r1.2.2.1 k)) + 2))) - (y (r1.2.1.2.1 (20 * (r1.2.2.1 k))))).toInt64) hx hb dX4_centre_257 rfl ?_
        refine lv_lmul hx hb dX4_centre_258 ?_
        refine lv_ladd hx hb dX4_centre_259 ?_
        refine lv_aload_n hx hb dX4_centre_260 rfl (lv_at hl 8 rfl) ?_
        refine va_get (D := (dC, dI)) (ci := 4) (v := .ref xb) (C := RX4) (T := TX4) (N := 11) hx hb hts (by decide +kernel) hown hK hP 0 rfl rfl 2 (by decide) (hts (.fieldLink RX4 7 "CircleCellsModel" "x" "[I") (by decide +kernel)) (fun _ h9 => h9) rfl dX4_centre_261 ?_
        refine lv_iload hx hb dX4_centre_264 (lv_at hl 3 rfl) ?_
        refine q_iald hx hb hK hP 1 0 rfl rfl (r1.2.1.2.1 ((20 * (r1.2.2.1 k)) + 2)) rfl (hst.2.1 _) (by decide) dX4_centre_266 ?_
        refine lv_i2l (v := (x (r1.2.1.2.1 ((20 * (r1.2.2.1 k)) + 2))).toInt64) hx hb dX4_centre_267 rfl ?_
        refine lv_aload_n hx hb dX4_centre_268 rfl (lv_at hl 8 rfl) ?_
        refine va_get (D := (dC, dI)) (ci := 4) (v := .ref yb) (C := RX4) (T := TX4) (N := 11) hx hb hts (by decide +kernel) hown hK hP 0 rfl rfl 3 (by decide) (hts (.fieldLink RX4 13 "CircleCellsModel" "y" "[I") (by decide +kernel)) (fun _ h9 => h9) rfl dX4_centre_269 ?_
        refine lv_iload hx hb dX4_centre_272 (lv_at hl 5 rfl) ?_
        refine q_iald hx hb hK hP 2 0 rfl rfl (r1.2.1.2.1 (20 * (r1.2.2.1 k))) rfl (hst.2.1 _) (by decide) dX4_centre_274 ?_
        refine lv_aload_n hx hb dX4_centre_275 rfl (lv_at hl 8 rfl) ?_
        refine va_get (D := (dC, dI)) (ci := 4) (v := .ref yb) (C := RX4) (T := TX4) (N := 11) hx hb hts (by decide +kernel) hown hK hP 0 rfl rfl 3 (by decide) (hts (.fieldLink RX4 13 "CircleCellsModel" "y" "[I") (by decide +kernel)) (fun _ h9 => h9) rfl dX4_centre_276 ?_
        refine lv_iload hx hb dX4_centre_279 (lv_at hl 4 rfl) ?_
        refine q_iald hx hb hK hP 2 0 rfl rfl (r1.2.1.2.1 ((20 * (r1.2.2.1 k)) + 1)) rfl (hst.2.1 _) (by decide) dX4_centre_281 ?_
        refine lv_isub hx hb dX4_centre_282 ?_
        refine lv_i2l (v := ((y (r1.2.1.2.1 (20 * (r1.2.2.1 k)))) - (y (r1.2.1.2.1 ((20 * (r1.2.2.1 k)) + 1)))).toInt64) hx hb dX4_centre_283 rfl ?_
        refine lv_lmul hx hb dX4_centre_284 ?_
        refine lv_ladd hx hb dX4_centre_285 ?_
        refine lv_lmul hx hb dX4_centre_286 ?_
        refine lv_lstore (lv' := [(14, .long (2 * (((((x (r1.2.1.2.1 (20 * (r1.2.2.1 k)))).toInt64) * (((y (r1.2.1.2.1 ((20 * (r1.2.2.1 k)) + 1))) - (y (r1.2.1.2.1 ((20 * (r1.2.2.1 k)) + 2)))).toInt64)) + (((x (r1.2.1.2.1 ((20 * (r1.2.2.1 k)) + 1))).toInt64) * (((y (r1.2.1.2.1 ((20 * (r1.2.2.1 k)) + 2))) - (y (r1.2.1.2.1 (20 * (r1.2.2.1 k))))).toInt64))) + (((x (r1.2.1.2.1 ((20 * (r1.2.2.1 k)) + 2))).toInt64) * (((y (r1.2.1.2.1 (20 * (r1.2.2.1 k)))) - (y (r1.2.1.2.1 ((20 * (r1.2.2.1 k)) + 1)))).toInt64))))), (12, .long ((((x (r1.2.1.2.1 ((20 * (r1.2.2.1 k)) + 2))).toInt64) * ((x (r1.2.1.2.1 ((20 * (r1.2.2.1 k)) + 2))).toInt64)) + (((y (r1.2.1.2.1 ((20 * (r1.2.2.1 k)) + 2))).toInt64) * ((y (r1.2.1.2.1 ((20 * (r1.2.2.1 k)) + 2))).toInt64)))), (10, .long ((((x (r1.2.1.2.1 ((20 * (r1.2.2.1 k)) + 1))).toInt64) * ((x (r1.2.1.2.1 ((20 * (r1.2.2.1 k)) + 1))).toInt64)) + (((y (r1.2.1.2.1 ((20 * (r1.2.2.1 k)) + 1))).toInt64) * ((y (r1.2.1.2.1 ((20 * (r1.2.2.1 k)) + 1))).toInt64)))), (8, .long ((((x (r1.2.1.2.1 (20 * (r1.2.2.1 k)))).toInt64) * ((x (r1.2.1.2.1 (20 * (r1.2.2.1 k)))).toInt64)) + (((y (r1.2.1.2.1 (20 * (r1.2.2.1 k)))).toInt64) * ((y (r1.2.1.2.1 (20 * (r1.2.2.1 k)))).toInt64)))), (7, .int (nI (r1.2.1.2.1 ((20 * (r1.2.2.1 k)) + 2)))), (6, .int (nI (r1.2.1.2.1 ((20 * (r1.2.2.1 k)) + 1)))), (5, .int (nI (r1.2.1.2.1 (20 * (r1.2.2.1 k))))), (4, .int (nI (r1.2.2.1 k))), (3, .int (bI (r_out t 3))), (0, .ref o0), (1, .int (nI k)), (2, .int t)]) hx hb dX4_centre_287 hl (by decide) rfl (fun ls hl => ?_)
        refine lv_lload hx hb dX4_centre_289 (lv_at hl 3 rfl) ?_
        refine lv_aload_n hx hb dX4_centre_291 rfl (lv_at hl 9 rfl) ?_
        refine va_get (D := (dC, dI)) (ci := 4) (v := .ref yb) (C := RX4) (T := TX4) (N := 11) hx hb hts (by decide +kernel) hown hK hP 0 rfl rfl 3 (by decide) (hts (.fieldLink RX4 13 "CircleCellsModel" "y" "[I") (by decide +kernel)) (fun _ h9 => h9) rfl dX4_centre_292 ?_
        refine lv_iload hx hb dX4_centre_295 (lv_at hl 5 rfl) ?_
        refine q_iald hx hb hK hP 2 0 rfl rfl (r1.2.1.2.1 ((20 * (r1.2.2.1 k)) + 1)) rfl (hst.2.1 _) (by decide) dX4_centre_297 ?_
        refine lv_aload_n hx hb dX4_centre_298 rfl (lv_at hl 9 rfl) ?_
        refine va_get (D := (dC, dI)) (ci := 4) (v := .ref yb) (C := RX4) (T := TX4) (N := 11) hx hb hts (by decide +kernel) hown hK hP 0 rfl rfl 3 (by decide) (hts (.fieldLink RX4 13 "CircleCellsModel" "y" "[I") (by decide +kernel)) (fun _ h9 => h9) rfl dX4_centre_299 ?_
        refine lv_iload hx hb dX4_centre_302 (lv_at hl 4 rfl) ?_
        refine q_iald hx hb hK hP 2 0 rfl rfl (r1.2.1.2.1 ((20 * (r1.2.2.1 k)) + 2)) rfl (hst.2.1 _) (by decide) dX4_centre_304 ?_
        refine lv_isub hx hb dX4_centre_305 ?_
        refine lv_i2l (v := ((y (r1.2.1.2.1 ((20 * (r1.2.2.1 k)) + 1))) - (y (r1.2.1.2.1 ((20 * (r1.2.2.1 k)) + 2)))).toInt64) hx hb dX4_centre_306 rfl ?_
        refine lv_lmul hx hb dX4_centre_307 ?_
        refine lv_lload hx hb dX4_centre_308 (lv_at hl 2 rfl) ?_
        refine lv_aload_n hx hb dX4_centre_310 rfl (lv_at hl 9 rfl) ?_
        refine va_get (D := (dC, dI)) (ci := 4) (v := .ref yb) (C := RX4) (T := TX4) (N := 11) hx hb hts (by decide +kernel) hown hK hP 0 rfl rfl 3 (by decide) (hts (.fieldLink RX4 13 "CircleCellsModel" "y" "[I") (by decide +kernel)) (fun _ h9 => h9) rfl dX4_centre_311 ?_
        refine lv_iload hx hb dX4_centre_314 (lv_at hl 4 rfl) ?_
        refine q_iald hx hb hK hP 2 0 rfl rfl (r1.2.1.2.1 ((20 * (r1.2.2.1 k)) + 2)) rfl (hst.2.1 _) (by decide) dX4_centre_316 ?_
        refine lv_aload_n hx hb dX4_centre_317 rfl (lv_at hl 9 rfl) ?_
        refine va_get (D := (dC, dI)) (ci := 4) (v := .ref yb) (C := RX4) (T := TX4) (N := 11) hx hb hts (by decide +kernel) hown hK hP 0 rfl rfl 3 (by decide) (hts (.fieldLink RX4 13 "CircleCellsModel" "y" "[I") (by decide +kernel)) (fun _ h9 => h9) rfl dX4_centre_318 ?_
        refine lv_iload hx hb dX4_centre_321 (lv_at hl 6 rfl) ?_
        refine q_iald hx hb hK hP 2 0 rfl rfl (r1.2.1.2.1 (20 * (r1.2.2.1 k))) rfl (hst.2.1 _) (by decide) dX4_centre_323 ?_
        refine lv_isub hx hb dX4_centre_324 ?_
        refine lv_i2l (v := ((y (r1.2.1.2.1 ((20 * (r1.2.2.1 k)) + 2))) - (y (r1.2.1.2.1 (20 * (r1.2.2.1 k))))).toInt64) hx hb dX4_centre_325 rfl ?_
        refine lv_lmul hx hb dX4_centre_326 ?_
        refine lv_ladd hx hb dX4_centre_327 ?_
        refine lv_lload hx hb dX4_centre_328 (lv_at hl 1 rfl) ?_
        refine lv_aload_n hx hb dX4_centre_330 rfl (lv_at hl 9 rfl) ?_
        refine va_get (D := (dC, dI)) (ci := 4) (v := .ref yb) (C := RX4) (T := TX4) (N := 11) hx hb hts (by decide +kernel) hown hK hP 0 rfl rfl 3 (by decide) (hts (.fieldLink RX4 13 "CircleCellsModel" "y" "[I") (by decide +kernel)) (fun _ h9 => h9) rfl dX4_centre_331 ?_
        refine lv_iload hx hb dX4_centre_334 (lv_at hl 6 rfl) ?_
        refine q_iald hx hb hK hP 2 0 rfl rfl (r1.2.1.2.1 (20 * (r1.2.2.1 k))) rfl (hst.2.1 _) (by decide) dX4_centre_336 ?_
        refine lv_aload_n hx hb dX4_centre_337 rfl (lv_at hl 9 rfl) ?_
        refine va_get (D := (dC, dI)) (ci := 4) (v := .ref yb) (C := RX4) (T := TX4) (N := 11) hx hb hts (by decide +kernel) hown hK hP 0 rfl rfl 3 (by decide) (hts (.fieldLink RX4 13 "CircleCellsModel" "y" "[I") (by decide +kernel)) (fun _ h9 => h9) rfl dX4_centre_338 ?_
        refine lv_iload hx hb dX4_centre_341 (lv_at hl 5 rfl) ?_
        refine q_iald hx hb hK hP 2 0 rfl rfl (r1.2.1.2.1 ((20 * (r1.2.2.1 k)) + 1)) rfl (hst.2.1 _) (by decide) dX4_centre_343 ?_
        refine lv_isub hx hb dX4_centre_344 ?_
        refine lv_i2l (v := ((y (r1.2.1.2.1 (20 * (r1.2.2.1 k)))) - (y (r1.2.1.2.1 ((20 * (r1.2.2.1 k)) + 1)))).toInt64) hx hb dX4_centre_345 rfl ?_
        refine lv_lmul hx hb dX4_centre_346 ?_
        refine lv_ladd hx hb dX4_centre_347 ?_
        refine lv_lstore (lv' := [(16, .long (((((((x (r1.2.1.2.1 (20 * (r1.2.2.1 k)))).toInt64) * ((x (r1.2.1.2.1 (20 * (r1.2.2.1 k)))).toInt64)) + (((y (r1.2.1.2.1 (20 * (r1.2.2.1 k)))).toInt64) * ((y (r1.2.1.2.1 (20 * (r1.2.2.1 k)))).toInt64))) * (((y (r1.2.1.2.1 ((20 * (r1.2.2.1 k)) + 1))) - (y (r1.2.1.2.1 ((20 * (r1.2.2.1 k)) + 2)))).toInt64)) + (((((x (r1.2.1.2.1 ((20 * (r1.2.2.1 k)) + 1))).toInt64) * ((x (r1.2.1.2.1 ((20 * (r1.2.2.1 k)) + 1))).toInt64)) + (((y (r1.2.1.2.1 ((20 * (r1.2.2.1 k)) + 1))).toInt64) * ((y (r1.2.1.2.1 ((20 * (r1.2.2.1 k)) + 1))).toInt64))) * (((y (r1.2.1.2.1 ((20 * (r1.2.2.1 k)) + 2))) - (y (r1.2.1.2.1 (20 * (r1.2.2.1 k))))).toInt64))) + (((((x (r1.2.1.2.1 ((20 * (r1.2.2.1 k)) + 2))).toInt64) * ((x (r1.2.1.2.1 ((20 * (r1.2.2.1 k)) + 2))).toInt64)) + (((y (r1.2.1.2.1 ((20 * (r1.2.2.1 k)) + 2))).toInt64) * ((y (r1.2.1.2.1 ((20 * (r1.2.2.1 k)) + 2))).toInt64))) * (((y (r1.2.1.2.1 (20 * (r1.2.2.1 k)))) - (y (r1.2.1.2.1 ((20 * (r1.2.2.1 k)) + 1)))).toInt64)))), (14, .long (2 * (((((x (r1.2.1.2.1 (20 * (r1.2.2.1 k)))).toInt64) * (((y (r1.2.1.2.1 ((20 * (r1.2.2.1 k)) + 1))) - (y (r1.2.1.2.1 ((20 * (r1.2.2.1 k)) + 2)))).toInt64)) + (((x (r1.2.1.2.1 ((20 * (r1.2.2.1 k)) + 1))).toInt64) * (((y (r1.2.1.2.1 ((20 * (r1.2.2.1 k)) + 2))) - (y (r1.2.1.2.1 (20 * (r1.2.2.1 k))))).toInt64))) + (((x (r1.2.1.2.1 ((20 * (r1.2.2.1 k)) + 2))).toInt64) * (((y (r1.2.1.2.1 (20 * (r1.2.2.1 k)))) - (y (r1.2.1.2.1 ((20 * (r1.2.2.1 k)) + 1)))).toInt64))))), (12, .long ((((x (r1.2.1.2.1 ((20 * (r1.2.2.1 k)) + 2))).toInt64) * ((x (r1.2.1.2.1 ((20 * (r1.2.2.1 k)) + 2))).toInt64)) + (((y (r1.2.1.2.1 ((20 * (r1.2.2.1 k)) + 2))).toInt64) * ((y (r1.2.1.2.1 ((20 * (r1.2.2.1 k)) + 2))).toInt64)))), (10, .long ((((x (r1.2.1.2.1 ((20 * (r1.2.2.1 k)) + 1))).toInt64) * ((x (r1.2.1.2.1 ((20 * (r1.2.2.1 k)) + 1))).toInt64)) + (((y (r1.2.1.2.1 ((20 * (r1.2.2.1 k)) + 1))).toInt64) * ((y (r1.2.1.2.1 ((20 * (r1.2.2.1 k)) + 1))).toInt64)))), (8, .long ((((x (r1.2.1.2.1 (20 * (r1.2.2.1 k)))).toInt64) * ((x (r1.2.1.2.1 (20 * (r1.2.2.1 k)))).toInt64)) + (((y (r1.2.1.2.1 (20 * (r1.2.2.1 k)))).toInt64) * ((y (r1.2.1.2.1 (20 * (r1.2.2.1 k)))).toInt64)))), (7, .int (nI (r1.2.1.2.1 ((20 * (r1.2.2.1 k)) + 2)))), (6, .int (nI (r1.2.1.2.1 ((20 * (r1.2.2.1 k)) + 1)))), (5, .int (nI (r1.2.1.2.1 (20 * (r1.2.2.1 k))))), (4, .int (nI (r1.2.2.1 k))), (3, .int (bI (r_out t 3))), (0, .ref o0), (1, .int (nI k)), (2, .int t)]) hx hb dX4_centre_348 hl (by decide) rfl (fun ls hl => ?_)
        refine lv_lload hx hb dX4_centre_350 (lv_at hl 4 rfl) ?_
        refine lv_aload_n hx hb dX4_centre_352 rfl (lv_at hl 10 rfl) ?_
        refine va_get (D := (dC, dI)) (ci := 4) (v := .ref xb) (C := RX4) (T := TX4) (N := 11) hx hb hts (by decide +kernel) hown hK hP 0 rfl rfl 2 (by decide) (hts (.fieldLink RX4 7 "CircleCellsModel" "x" "[I") (by decide +kernel)) (fun _ h9 => h9) rfl dX4_centre_353 ?_
        refine lv_iload hx hb dX4_centre_356 (lv_at hl 5 rfl) ?_
        refine q_iald hx hb hK hP 1 0 rfl rfl (r1.2.1.2.1 ((20 * (r1.2.2.1 k)) + 2)) rfl (hst.2.1 _) (by decide) dX4_centre_358 ?_
        refine lv_aload_n hx hb dX4_centre_359 rfl (lv_at hl 10 rfl) ?_
        refine va_get (D := (dC, dI)) (ci := 4) (v := .ref xb) (C := RX4) (T := TX4) (N := 11) hx hb hts (by decide +kernel) hown hK hP 0 rfl rfl 2 (by decide) (hts (.fieldLink RX4 7 "CircleCellsModel" "x" "[I") (by decide +kernel)) (fun _ h9 => h9) rfl dX4_centre_360 ?_
        refine lv_iload hx hb dX4_centre_363 (lv_at hl 6 rfl) ?_
        refine q_iald hx hb hK hP 1 0 rfl rfl (r1.2.1.2.1 ((20 * (r1.2.2.1 k)) + 1)) rfl (hst.2.1 _) (by decide) dX4_centre_365 ?_
        refine lv_isub hx hb dX4_centre_366 ?_
        refine lv_i2l (v := ((x (r1.2.1.2.1 ((20 * (r1.2.2.1 k)) + 2))) - (x (r1.2.1.2.1 ((20 * (r1.2.2.1 k)) + 1)))).toInt64) hx hb dX4_centre_367 rfl ?_
        refine lv_lmul hx hb dX4_centre_368 ?_
        refine lv_lload hx hb dX4_centre_369 (lv_at hl 3 rfl) ?_
        refine lv_aload_n hx hb dX4_centre_371 rfl (lv_at hl 10 rfl) ?_
        refine va_get (D := (dC, dI)) (ci := 4) (v := .ref xb) (C := RX4) (T := TX4) (N := 11) hx hb hts (by decide +kernel) hown hK hP 0 rfl rfl 2 (by decide) (hts (.fieldLink RX4 7 "CircleCellsModel" "x" "[I") (by decide +kernel)) (fun _ h9 => h9) rfl dX4_centre_372 ?_
        refine lv_iload hx hb dX4_centre_375 (lv_at hl 7 rfl) ?_
        refine q_iald hx hb hK hP 1 0 rfl rfl (r1.2.1.2.1 (20 * (r1.2.2.1 k))) rfl (hst.2.1 _) (by decide) dX4_centre_377 ?_
        refine lv_aload_n hx hb dX4_centre_378 rfl (lv_at hl 10 rfl) ?_
        refine va_get (D := (dC, dI)) (ci := 4) (v := .ref xb) (C := RX4) (T := TX4) (N := 11) hx hb hts (by decide +kernel) hown hK hP 0 rfl rfl 2 (by decide) (hts (.fieldLink RX4 7 "CircleCellsModel" "x" "[I") (by decide +kernel)) (fun _ h9 => h9) rfl dX4_centre_379 ?_
        refine lv_iload hx hb dX4_centre_382 (lv_at hl 5 rfl) ?_
        refine q_iald hx hb hK hP 1 0 rfl rfl (r1.2.1.2.1 ((20 * (r1.2.2.1 k)) + 2)) rfl (hst.2.1 _) (by decide) dX4_centre_384 ?_
        refine lv_isub hx hb dX4_centre_385 ?_
        refine lv_i2l (v := ((x (r1.2.1.2.1 (20 * (r1.2.2.1 k)))) - (x (r1.2.1.2.1 ((20 * (r1.2.2.1 k)) + 2)))).toInt64) hx hb dX4_centre_386 rfl ?_
        refine lv_lmul hx hb dX4_centre_387 ?_
        refine lv_ladd hx hb dX4_centre_388 ?_
        refine lv_lload hx hb dX4_centre_389 (lv_at hl 2 rfl) ?_
        refine lv_aload_n hx hb dX4_centre_391 rfl (lv_at hl 10 rfl) ?_
        refine va_get (D := (dC, dI)) (ci := 4) (v := .ref xb) (C := RX4) (T := TX4) (N := 11) hx hb hts (by decide +kernel) hown hK hP 0 rfl rfl 2 (by decide) (hts (.fieldLink RX4 7 "CircleCellsModel" "x" "[I") (by decide +kernel)) (fun _ h9 => h9) rfl dX4_centre_392 ?_
        refine lv_iload hx hb dX4_centre_395 (lv_at hl 6 rfl) ?_
        refine q_iald hx hb hK hP 1 0 rfl rfl (r1.2.1.2.1 ((20 * (r1.2.2.1 k)) + 1)) rfl (hst.2.1 _) (by decide) dX4_centre_397 ?_
        refine lv_aload_n hx hb dX4_centre_398 rfl (lv_at hl 10 rfl) ?_
        refine va_get (D := (dC, dI)) (ci := 4) (v := .ref xb) (C := RX4) (T := TX4) (N := 11) hx hb hts (by decide +kernel) hown hK hP 0 rfl rfl 2 (by decide) (hts (.fieldLink RX4 7 "CircleCellsModel" "x" "[I") (by decide +kernel)) (fun _ h9 => h9) rfl dX4_centre_399 ?_
        refine lv_iload hx hb dX4_centre_402 (lv_at hl 7 rfl) ?_
        refine q_iald hx hb hK hP 1 0 rfl rfl (r1.2.1.2.1 (20 * (r1.2.2.1 k))) rfl (hst.2.1 _) (by decide) dX4_centre_404 ?_
        refine lv_isub hx hb dX4_centre_405 ?_
        refine lv_i2l (v := ((x (r1.2.1.2.1 ((20 * (r1.2.2.1 k)) + 1))) - (x (r1.2.1.2.1 (20 * (r1.2.2.1 k))))).toInt64) hx hb dX4_centre_406 rfl ?_
        refine lv_lmul hx hb dX4_centre_407 ?_
        refine lv_ladd hx hb dX4_centre_408 ?_
        refine lv_lstore (lv' := [(18, .long (((((((x (r1.2.1.2.1 (20 * (r1.2.2.1 k)))).toInt64) * ((x (r1.2.1.2.1 (20 * (r1.2.2.1 k)))).toInt64)) + (((y (r1.2.1.2.1 (20 * (r1.2.2.1 k)))).toInt64) * ((y (r1.2.1.2.1 (20 * (r1.2.2.1 k)))).toInt64))) * (((x (r1.2.1.2.1 ((20 * (r1.2.2.1 k)) + 2))) - (x (r1.2.1.2.1 ((20 * (r1.2.2.1 k)) + 1)))).toInt64)) + (((((x (r1.2.1.2.1 ((20 * (r1.2.2.1 k)) + 1))).toInt64) * ((x (r1.2.1.2.1 ((20 * (r1.2.2.1 k)) + 1))).toInt64)) + (((y (r1.2.1.2.1 ((20 * (r1.2.2.1 k)) + 1))).toInt64) * ((y (r1.2.1.2.1 ((20 * (r1.2.2.1 k)) + 1))).toInt64))) * (((x (r1.2.1.2.1 (20 * (r1.2.2.1 k)))) - (x (r1.2.1.2.1 ((20 * (r1.2.2.1 k)) + 2)))).toInt64))) + (((((x (r1.2.1.2.1 ((20 * (r1.2.2.1 k)) + 2))).toInt64) * ((x (r1.2.1.2.1 ((20 * (r1.2.2.1 k)) + 2))).toInt64)) + (((y (r1.2.1.2.1 ((20 * (r1.2.2.1 k)) + 2))).toInt64) * ((y (r1.2.1.2.1 ((20 * (r1.2.2.1 k)) + 2))).toInt64))) * (((x (r1.2.1.2.1 ((20 * (r1.2.2.1 k)) + 1))) - (x (r1.2.1.2.1 (20 * (r1.2.2.1 k))))).toInt64)))), (16, .long (((((((x (r1.2.1.2.1 (20 * (r1.2.2.1 k)))).toInt64) * ((x (r1.2.1.2.1 (20 * (r1.2.2.1 k)))).toInt64)) + (((y (r1.2.1.2.1 (20 * (r1.2.2.1 k)))).toInt64) * ((y (r1.2.1.2.1 (20 * (r1.2.2.1 k)))).toInt64))) * (((y (r1.2.1.2.1 ((20 * (r1.2.2.1 k)) + 1))) - (y (r1.2.1.2.1 ((20 * (r1.2.2.1 k)) + 2)))).toInt64)) + (((((x (r1.2.1.2.1 ((20 * (r1.2.2.1 k)) + 1))).toInt64) * ((x (r1.2.1.2.1 ((20 * (r1.2.2.1 k)) + 1))).toInt64)) + (((y (r1.2.1.2.1 ((20 * (r1.2.2.1 k)) + 1))).toInt64) * ((y (r1.2.1.2.1 ((20 * (r1.2.2.1 k)) + 1))).toInt64))) * (((y (r1.2.1.2.1 ((20 * (r1.2.2.1 k)) + 2))) - (y (r1.2.1.2.1 (20 * (r1.2.2.1 k))))).toInt64))) + (((((x (r1.2.1.2.1 ((20 * (r1.2.2.1 k)) + 2))).toInt64) * ((x (r1.2.1.2.1 ((20 * (r1.2.2.1 k)) + 2))).toInt64)) + (((y (r1.2.1.2.1 ((20 * (r1.2.2.1 k)) + 2))).toInt64) * ((y (r1.2.1.2.1 ((20 * (r1.2.2.1 k)) + 2))).toInt64))) * (((y (r1.2.1.2.1 (20 * (r1.2.2.1 k)))) - (y (r1.2.1.2.1 ((20 * (r1.2.2.1 k)) + 1)))).toInt64)))), (14, .long (2 * (((((x (r1.2.1.2.1 (20 * (r1.2.2.1 k)))).toInt64) * (((y (r1.2.1.2.1 ((20 * (r1.2.2.1 k)) + 1))) - (y (r1.2.1.2.1 ((20 * (r1.2.2.1 k)) + 2)))).toInt64)) + (((x (r1.2.1.2.1 ((20 * (r1.2.2.1 k)) + 1))).toInt64) * (((y (r1.2.1.2.1 ((20 * (r1.2.2.1 k)) + 2))) - (y (r1.2.1.2.1 (20 * (r1.2.2.1 k))))).toInt64))) + (((x (r1.2.1.2.1 ((20 * (r1.2.2.1 k)) + 2))).toInt64) * (((y (r1.2.1.2.1 (20 * (r1.2.2.1 k)))) - (y (r1.2.1.2.1 ((20 * (r1.2.2.1 k)) + 1)))).toInt64))))), (12, .long ((((x (r1.2.1.2.1 ((20 * (r1.2.2.1 k)) + 2))).toInt64) * ((x (r1.2.1.2.1 ((20 * (r1.2.2.1 k)) + 2))).toInt64)) + (((y (r1.2.1.2.1 ((20 * (r1.2.2.1 k)) + 2))).toInt64) * ((y (r1.2.1.2.1 ((20 * (r1.2.2.1 k)) + 2))).toInt64)))), (10, .long ((((x (r1.2.1.2.1 ((20 * (r1.2.2.1 k)) + 1))).toInt64) * ((x (r1.2.1.2.1 ((20 * (r1.2.2.1 k)) + 1))).toInt64)) + (((y (r1.2.1.2.1 ((20 * (r1.2.2.1 k)) + 1))).toInt64) * ((y (r1.2.1.2.1 ((20 * (r1.2.2.1 k)) + 1))).toInt64)))), (8, .long ((((x (r1.2.1.2.1 (20 * (r1.2.2.1 k)))).toInt64) * ((x (r1.2.1.2.1 (20 * (r1.2.2.1 k)))).toInt64)) + (((y (r1.2.1.2.1 (20 * (r1.2.2.1 k)))).toInt64) * ((y (r1.2.1.2.1 (20 * (r1.2.2.1 k)))).toInt64)))), (7, .int (nI (r1.2.1.2.1 ((20 * (r1.2.2.1 k)) + 2)))), (6, .int (nI (r1.2.1.2.1 ((20 * (r1.2.2.1 k)) + 1)))), (5, .int (nI (r1.2.1.2.1 (20 * (r1.2.2.1 k))))), (4, .int (nI (r1.2.2.1 k))), (3, .int (bI (r_out t 3))), (0, .ref o0), (1, .int (nI k)), (2, .int t)]) hx hb dX4_centre_409 hl (by decide) rfl (fun ls hl => ?_)
        have hb9 := hu1 (r1.2.1.2.1 (20 * r1.2.2.1 k)) (r1.2.1.2.1 (20 * r1.2.2.1 k + 1)) (r1.2.1.2.1 (20 * r1.2.2.1 k + 2)) (hst.2.1 _) (hst.2.1 _) (hst.2.1 _)
        have hd9 := hd1 k hk
        have hg0 : Nat.gcd (r_uu x y (r1.2.1.2.1 (20 * r1.2.2.1 k)) (r1.2.1.2.1 (20 * r1.2.2.1 k + 1)) (r1.2.1.2.1 (20 * r1.2.2.1 k + 2))).toInt.natAbs (r_ww x y (r1.2.1.2.1 (20 * r1.2.2.1 k)) (r1.2.1.2.1 (20 * r1.2.2.1 k + 1)) (r1.2.1.2.1 (20 * r1.2.2.1 k + 2))).toInt.natAbs < 2 ^ 62 := by
          rcases Nat.eq_zero_or_pos (r_uu x y (r1.2.1.2.1 (20 * r1.2.2.1 k)) (r1.2.1.2.1 (20 * r1.2.2.1 k + 1)) (r1.2.1.2.1 (20 * r1.2.2.1 k + 2))).toInt.natAbs with h | h
          · rw [h, Nat.gcd_zero_left]; exact hb9.2.1
          · exact Nat.lt_of_le_of_lt (Nat.gcd_le_left _ h) hb9.1
        have hg1 : 0 < r_gg x y (r1.2.1.2.1 (20 * r1.2.2.1 k)) (r1.2.1.2.1 (20 * r1.2.2.1 k + 1)) (r1.2.1.2.1 (20 * r1.2.2.1 k + 2)) := Nat.gcd_pos_of_pos_right _ hd9
        have hg2 : r_gg x y (r1.2.1.2.1 (20 * r1.2.2.1 k)) (r1.2.1.2.1 (20 * r1.2.2.1 k + 1)) (r1.2.1.2.1 (20 * r1.2.2.1 k + 2)) < 2 ^ 62 := Nat.lt_of_le_of_lt (Nat.gcd_le_right _ hd9) hb9.2.2
        refine lv_lload hx hb dX4_centre_411 (lv_at hl 1 rfl) ?_
        refine lv_lload hx hb dX4_centre_413 (lv_at hl 0 rfl) ?_
        refine q_cS (As := [.long (((((((x (r1.2.1.2.1 (20 * (r1.2.2.1 k)))).toInt64) * ((x (r1.2.1.2.1 (20 * (r1.2.2.1 k)))).toInt64)) + (((y (r1.2.1.2.1 (20 * (r1.2.2.1 k)))).toInt64) * ((y (r1.2.1.2.1 (20 * (r1.2.2.1 k)))).toInt64))) * (((y (r1.2.1.2.1 ((20 * (r1.2.2.1 k)) + 1))) - (y (r1.2.1.2.1 ((20 * (r1.2.2.1 k)) + 2)))).toInt64)) + (((((x (r1.2.1.2.1 ((20 * (r1.2.2.1 k)) + 1))).toInt64) * ((x (r1.2.1.2.1 ((20 * (r1.2.2.1 k)) + 1))).toInt64)) + (((y (r1.2.1.2.1 ((20 * (r1.2.2.1 k)) + 1))).toInt64) * ((y (r1.2.1.2.1 ((20 * (r1.2.2.1 k)) + 1))).toInt64))) * (((y (r1.2.1.2.1 ((20 * (r1.2.2.1 k)) + 2))) - (y (r1.2.1.2.1 (20 * (r1.2.2.1 k))))).toInt64))) + (((((x (r1.2.1.2.1 ((20 * (r1.2.2.1 k)) + 2))).toInt64) * ((x (r1.2.1.2.1 ((20 * (r1.2.2.1 k)) + 2))).toInt64)) + (((y (r1.2.1.2.1 ((20 * (r1.2.2.1 k)) + 2))).toInt64) * ((y (r1.2.1.2.1 ((20 * (r1.2.2.1 k)) + 2))).toInt64))) * (((y (r1.2.1.2.1 (20 * (r1.2.2.1 k)))) - (y (r1.2.1.2.1 ((20 * (r1.2.2.1 k)) + 1)))).toInt64))), .long (((((((x (r1.2.1.2.1 (20 * (r1.2.2.1 k)))).toInt64) * ((x (r1.2.1.2.1 (20 * (r1.2.2.1 k)))).toInt64)) + (((y (r1.2.1.2.1 (20 * (r1.2.2.1 k)))).toInt64) * ((y (r1.2.1.2.1 (20 * (r1.2.2.1 k)))).toInt64))) * (((x (r1.2.1.2.1 ((20 * (r1.2.2.1 k)) + 2))) - (x (r1.2.1.2.1 ((20 * (r1.2.2.1 k)) + 1)))).toInt64)) + (((((x (r1.2.1.2.1 ((20 * (r1.2.2.1 k)) + 1))).toInt64) * ((x (r1.2.1.2.1 ((20 * (r1.2.2.1 k)) + 1))).toInt64)) + (((y (r1.2.1.2.1 ((20 * (r1.2.2.1 k)) + 1))).toInt64) * ((y (r1.2.1.2.1 ((20 * (r1.2.2.1 k)) + 1))).toInt64))) * (((x (r1.2.1.2.1 (20 * (r1.2.2.1 k)))) - (x (r1.2.1.2.1 ((20 * (r1.2.2.1 k)) + 2)))).toInt64))) + (((((x (r1.2.1.2.1 ((20 * (r1.2.2.1 k)) + 2))).toInt64) * ((x (r1.2.1.2.1 ((20 * (r1.2.2.1 k)) + 2))).toInt64)) + (((y (r1.2.1.2.1 ((20 * (r1.2.2.1 k)) + 2))).toInt64) * ((y (r1.2.1.2.1 ((20 * (r1.2.2.1 k)) + 2))).toInt64))) * (((x (r1.2.1.2.1 ((20 * (r1.2.2.1 k)) + 1))) - (x (r1.2.1.2.1 (20 * (r1.2.2.1 k))))).toInt64)))]) (rest := []) ⟨hx, hb, hml, hown, hts⟩ (c_X4_divisor l dC dI (r_uu x y (r1.2.1.2.1 (20 * r1.2.2.1 k)) (r1.2.1.2.1 (20 * r1.2.2.1 k + 1)) (r1.2.1.2.1 (20 * r1.2.2.1 k + 2))) (r_ww x y (r1.2.1.2.1 (20 * r1.2.2.1 k)) (r1.2.1.2.1 (20 * r1.2.2.1 k + 1)) (r1.2.1.2.1 (20 * r1.2.2.1 k + 2))) hb9.1 hb9.2.1) (va_cwS 2 hts gX4_centre_X4_divisor rfl rfl rfl (by decide +kernel) ⟨Nat.le_of_ble_eq_true rfl, Nat.le_of_ble_eq_true rfl⟩) (q_pS hK hP [] [] rfl rfl rfl) rfl hl.1 rfl (Nat.le_of_ble_eq_true rfl) ⟨Nat.zero_le _, Nat.zero_le _⟩ dX4_centre_415 ?_
        refine lv_lload hx hb dX4_centre_418 (lv_at hl 2 rfl) ?_
        refine q_cS (As := [.long (lN (Nat.gcd (r_uu x y (r1.2.1.2.1 (20 * r1.2.2.1 k)) (r1.2.1.2.1 (20 * r1.2.2.1 k + 1)) (r1.2.1.2.1 (20 * r1.2.2.1 k + 2))).toInt.natAbs (r_ww x y (r1.2.1.2.1 (20 * r1.2.2.1 k)) (r1.2.1.2.1 (20 * r1.2.2.1 k + 1)) (r1.2.1.2.1 (20 * r1.2.2.1 k + 2))).toInt.natAbs)), .long (2 * (((((x (r1.2.1.2.1 (20 * (r1.2.2.1 k)))).toInt64) * (((y (r1.2.1.2.1 ((20 * (r1.2.2.1 k)) + 1))) - (y (r1.2.1.2.1 ((20 * (r1.2.2.1 k)) + 2)))).toInt64)) + (((x (r1.2.1.2.1 ((20 * (r1.2.2.1 k)) + 1))).toInt64) * (((y (r1.2.1.2.1 ((20 * (r1.2.2.1 k)) + 2))) - (y (r1.2.1.2.1 (20 * (r1.2.2.1 k))))).toInt64))) + (((x (r1.2.1.2.1 ((20 * (r1.2.2.1 k)) + 2))).toInt64) * (((y (r1.2.1.2.1 (20 * (r1.2.2.1 k)))) - (y (r1.2.1.2.1 ((20 * (r1.2.2.1 k)) + 1)))).toInt64))))]) (rest := []) ⟨hx, hb, hml, hown, hts⟩ (c_X4_divisor l dC dI (lN (Nat.gcd (r_uu x y (r1.2.1.2.1 (20 * r1.2.2.1 k)) (r1.2.1.2.1 (20 * r1.2.2.1 k + 1)) (r1.2.1.2.1 (20 * r1.2.2.1 k + 2))).toInt.natAbs (r_ww x y (r1.2.1.2.1 (20 * r1.2.2.1 k)) (r1.2.1.2.1 (20 * r1.2.2.1 k + 1)) (r1.2.1.2.1 (20 * r1.2.2.1 k + 2))).toInt.natAbs)) (r_dd x y (r1.2.1.2.1 (20 * r1.2.2.1 k)) (r1.2.1.2.1 (20 * r1.2.2.1 k + 1)) (r1.2.1.2.1 (20 * r1.2.2.1 k + 2))) (by rw [l_nat (by omega)]; exact hg0) hb9.2.2) (va_cwS 2 hts gX4_centre_X4_divisor rfl rfl rfl (by decide +kernel) ⟨Nat.le_of_ble_eq_true rfl, Nat.le_of_ble_eq_true rfl⟩) (q_pS hK hP [] [] rfl rfl rfl) rfl hl.1 rfl (Nat.le_of_ble_eq_true rfl) ⟨Nat.zero_le _, Nat.zero_le _⟩ dX4_centre_420 ?_
        rw [l_nat (show Nat.gcd (r_uu x y (r1.2.1.2.1 (20 * r1.2.2.1 k)) (r1.2.1.2.1 (20 * r1.2.2.1 k + 1)) (r1.2.1.2.1 (20 * r1.2.2.1 k + 2))).toInt.natAbs (r_ww x y (r1.2.1.2.1 (20 * r1.2.2.1 k)) (r1.2.1.2.1 (20 * r1.2.2.1 k + 1)) (r1.2.1.2.1 (20 * r1.2.2.1 k + 2))).toInt.natAbs < 2 ^ 63 by omega)]
        refine lv_lstore (lv' := [(20, .long (lN (r_gg x y (r1.2.1.2.1 (20 * r1.2.2.1 k)) (r1.2.1.2.1 (20 * r1.2.2.1 k + 1)) (r1.2.1.2.1 (20 * r1.2.2.1 k + 2))))), (18, .long (((((((x (r1.2.1.2.1 (20 * (r1.2.2.1 k)))).toInt64) * ((x (r1.2.1.2.1 (20 * (r1.2.2.1 k)))).toInt64)) + (((y (r1.2.1.2.1 (20 * (r1.2.2.1 k)))).toInt64) * ((y (r1.2.1.2.1 (20 * (r1.2.2.1 k)))).toInt64))) * (((x (r1.2.1.2.1 ((20 * (r1.2.2.1 k)) + 2))) - (x (r1.2.1.2.1 ((20 * (r1.2.2.1 k)) + 1)))).toInt64)) + (((((x (r1.2.1.2.1 ((20 * (r1.2.2.1 k)) + 1))).toInt64) * ((x (r1.2.1.2.1 ((20 * (r1.2.2.1 k)) + 1))).toInt64)) + (((y (r1.2.1.2.1 ((20 * (r1.2.2.1 k)) + 1))).toInt64) * ((y (r1.2.1.2.1 ((20 * (r1.2.2.1 k)) + 1))).toInt64))) * (((x (r1.2.1.2.1 (20 * (r1.2.2.1 k)))) - (x (r1.2.1.2.1 ((20 * (r1.2.2.1 k)) + 2)))).toInt64))) + (((((x (r1.2.1.2.1 ((20 * (r1.2.2.1 k)) + 2))).toInt64) * ((x (r1.2.1.2.1 ((20 * (r1.2.2.1 k)) + 2))).toInt64)) + (((y (r1.2.1.2.1 ((20 * (r1.2.2.1 k)) + 2))).toInt64) * ((y (r1.2.1.2.1 ((20 * (r1.2.2.1 k)) + 2))).toInt64))) * (((x (r1.2.1.2.1 ((20 * (r1.2.2.1 k)) + 1))) - (x (r1.2.1.2.1 (20 * (r1.2.2.1 k))))).toInt64)))), (16, .long (((((((x (r1.2.1.2.1 (20 * (r1.2.2.1 k)))).toInt64) * ((x (r1.2.1.2.1 (20 * (r1.2.2.1 k)))).toInt64)) + (((y (r1.2.1.2.1 (20 * (r1.2.2.1 k)))).toInt64) * ((y (r1.2.1.2.1 (20 * (r1.2.2.1 k)))).toInt64))) * (((y (r1.2.1.2.1 ((20 * (r1.2.2.1 k)) + 1))) - (y (r1.2.1.2.1 ((20 * (r1.2.2.1 k)) + 2)))).toInt64)) + (((((x (r1.2.1.2.1 ((20 * (r1.2.2.1 k)) + 1))).toInt64) * ((x (r1.2.1.2.1 ((20 * (r1.2.2.1 k)) + 1))).toInt64)) + (((y (r1.2.1.2.1 ((20 * (r1.2.2.1 k)) + 1))).toInt64) * ((y (r1.2.1.2.1 ((20 * (r1.2.2.1 k)) + 1))).toInt64))) * (((y (r1.2.1.2.1 ((20 * (r1.2.2.1 k)) + 2))) - (y (r1.2.1.2.1 (20 * (r1.2.2.1 k))))).toInt64))) + (((((x (r1.2.1.2.1 ((20 * (r1.2.2.1 k)) + 2))).toInt64) * ((x (r1.2.1.2.1 ((20 * (r1.2.2.1 k)) + 2))).toInt64)) + (((y (r1.2.1.2.1 ((20 * (r1.2.2.1 k)) + 2))).toInt64) * ((y (r1.2.1.2.1 ((20 * (r1.2.2.1 k)) + 2))).toInt64))) * (((y (r1.2.1.2.1 (20 * (r1.2.2.1 k)))) - (y (r1.2.1.2.1 ((20 * (r1.2.2.1 k)) + 1)))).toInt64)))), (14, .long (2 * (((((x (r1.2.1.2.1 (20 * (r1.2.2.1 k)))).toInt64) * (((y (r1.2.1.2.1 ((20 * (r1.2.2.1 k)) + 1))) - (y (r1.2.1.2.1 ((20 * (r1.2.2.1 k)) + 2)))).toInt64)) + (((x (r1.2.1.2.1 ((20 * (r1.2.2.1 k)) + 1))).toInt64) * (((y (r1.2.1.2.1 ((20 * (r1.2.2.1 k)) + 2))) - (y (r1.2.1.2.1 (20 * (r1.2.2.1 k))))).toInt64))) + (((x (r1.2.1.2.1 ((20 * (r1.2.2.1 k)) + 2))).toInt64) * (((y (r1.2.1.2.1 (20 * (r1.2.2.1 k)))) - (y (r1.2.1.2.1 ((20 * (r1.2.2.1 k)) + 1)))).toInt64))))), (12, .long ((((x (r1.2.1.2.1 ((20 * (r1.2.2.1 k)) + 2))).toInt64) * ((x (r1.2.1.2.1 ((20 * (r1.2.2.1 k)) + 2))).toInt64)) + (((y (r1.2.1.2.1 ((20 * (r1.2.2.1 k)) + 2))).toInt64) * ((y (r1.2.1.2.1 ((20 * (r1.2.2.1 k)) + 2))).toInt64)))), (10, .long ((((x (r1.2.1.2.1 ((20 * (r1.2.2.1 k)) + 1))).toInt64) * ((x (r1.2.1.2.1 ((20 * (r1.2.2.1 k)) + 1))).toInt64)) + (((y (r1.2.1.2.1 ((20 * (r1.2.2.1 k)) + 1))).toInt64) * ((y (r1.2.1.2.1 ((20 * (r1.2.2.1 k)) + 1))).toInt64)))), (8, .long ((((x (r1.2.1.2.1 (20 * (r1.2.2.1 k)))).toInt64) * ((x (r1.2.1.2.1 (20 * (r1.2.2.1 k)))).toInt64)) + (((y (r1.2.1.2.1 (20 * (r1.2.2.1 k)))).toInt64) * ((y (r1.2.1.2.1 (20 * (r1.2.2.1 k)))).toInt64)))), (7, .int (nI (r1.2.1.2.1 ((20 * (r1.2.2.1 k)) + 2)))), (6, .int (nI (r1.2.1.2.1 ((20 * (r1.2.2.1 k)) + 1)))), (5, .int (nI (r1.2.1.2.1 (20 * (r1.2.2.1 k))))), (4, .int (nI (r1.2.2.1 k))), (3, .int (bI (r_out t 3))), (0, .ref o0), (1, .int (nI k)), (2, .int t)]) hx hb dX4_centre_423 hl (by decide) rfl (fun ls hl => ?_)
        refine lv_iload_n hx hb dX4_centre_425 rfl (lv_at hl 14 rfl) ?_
        refine lv_if_ne (tgt := 434) hx hb dX4_centre_426 (by decide) (fun c426 => ?_) (fun c426 => ?_)
        · unfold r_cval at hR
          rw [if_neg c426] at hR
          refine lv_iload_n hx hb dX4_centre_434 rfl (lv_at hl 14 rfl) ?_
          refine lv_iconst (v := 1) hx hb dX4_centre_435 (by decide) ?_
          refine lv_icmp_ne (tgt := 444) hx hb dX4_centre_436 (by decide) (fun c436 => ?_) (fun c436 => ?_)
          · rw [if_neg c436] at hR
            subst hR
            refine lv_lload hx hb dX4_centre_444 (lv_at hl 3 rfl) ?_
            refine lv_lload hx hb dX4_centre_446 (lv_at hl 0 rfl) ?_
            refine lv_ldiv hx hb dX4_centre_448 (lN_ne0 hg1 (by omega)) ?_
            exact W.lret (v := (2 * (((((x (r1.2.1.2.1 (20 * (r1.2.2.1 k)))).toInt64) * (((y (r1.2.1.2.1 ((20 * (r1.2.2.1 k)) + 1))) - (y (r1.2.1.2.1 ((20 * (r1.2.2.1 k)) + 2)))).toInt64)) + (((x (r1.2.1.2.1 ((20 * (r1.2.2.1 k)) + 1))).toInt64) * (((y (r1.2.1.2.1 ((20 * (r1.2.2.1 k)) + 2))) - (y (r1.2.1.2.1 (20 * (r1.2.2.1 k))))).toInt64))) + (((x (r1.2.1.2.1 ((20 * (r1.2.2.1 k)) + 2))).toInt64) * (((y (r1.2.1.2.1 (20 * (r1.2.2.1 k)))) - (y (r1.2.1.2.1 ((20 * (r1.2.2.1 k)) + 1)))).toInt64)))) / (lN (r_gg x y (r1.2.1.2.1 (20 * r1.2.2.1 k)) (r1.2.1.2.1 (20 * r1.2.2.1 k + 1)) (r1.2.1.2.1 (20 * r1.2.2.1 k + 2))))) hx hb hr (q_retm hP hS) hS.2.2 dX4_centre_449
          · rw [if_pos c436] at hR
            subst hR
            refine lv_lload hx hb dX4_centre_439 (lv_at hl 1 rfl) ?_
            refine lv_goto (tgt := 446) hx hb dX4_centre_441 (by decide) ?_
            refine lv_lload hx hb dX4_centre_446 (lv_at hl 0 rfl) ?_
            refine lv_ldiv hx hb dX4_centre_448 (lN_ne0 hg1 (by omega)) ?_
            exact W.lret (v := (((((((x (r1.2.1.2.1 (20 * (r1.2.2.1 k)))).toInt64) * ((x (r1.2.1.2.1 (20 * (r1.2.2.1 k)))).toInt64)) + (((y (r1.2.1.2.1 (20 * (r1.2.2.1 k)))).toInt64) * ((y (r1.2.1.2.1 (20 * (r1.2.2.1 k)))).toInt64))) * (((x (r1.2.1.2.1 ((20 * (r1.2.2.1 k)) + 2))) - (x (r1.2.1.2.1 ((20 * (r1.2.2.1 k)) + 1)))).toInt64)) + (((((x (r1.2.1.2.1 ((20 * (r1.2.2.1 k)) + 1))).toInt64) * ((x (r1.2.1.2.1 ((20 * (r1.2.2.1 k)) + 1))).toInt64)) + (((y (r1.2.1.2.1 ((20 * (r1.2.2.1 k)) + 1))).toInt64) * ((y (r1.2.1.2.1 ((20 * (r1.2.2.1 k)) + 1))).toInt64))) * (((x (r1.2.1.2.1 (20 * (r1.2.2.1 k)))) - (x (r1.2.1.2.1 ((20 * (r1.2.2.1 k)) + 2)))).toInt64))) + (((((x (r1.2.1.2.1 ((20 * (r1.2.2.1 k)) + 2))).toInt64) * ((x (r1.2.1.2.1 ((20 * (r1.2.2.1 k)) + 2))).toInt64)) + (((y (r1.2.1.2.1 ((20 * (r1.2.2.1 k)) + 2))).toInt64) * ((y (r1.2.1.2.1 ((20 * (r1.2.2.1 k)) + 2))).toInt64))) * (((x (r1.2.1.2.1 ((20 * (r1.2.2.1 k)) + 1))) - (x (r1.2.1.2.1 (20 * (r1.2.2.1 k))))).toInt64))) / (lN (r_gg x y (r1.2.1.2.1 (20 * r1.2.2.1 k)) (r1.2.1.2.1 (20 * r1.2.2.1 k + 1)) (r1.2.1.2.1 (20 * r1.2.2.1 k + 2))))) hx hb hr (q_retm hP hS) hS.2.2 dX4_centre_449
        · unfold r_cval at hR
          rw [if_pos c426] at hR
          subst hR
          refine lv_lload hx hb dX4_centre_429 (lv_at hl 2 rfl) ?_
          refine lv_goto (tgt := 446) hx hb dX4_centre_431 (by decide) ?_
          refine lv_lload hx hb dX4_centre_446 (lv_at hl 0 rfl) ?_
          refine lv_ldiv hx hb dX4_centre_448 (lN_ne0 hg1 (by omega)) ?_
          exact W.lret (v := (((((((x (r1.2.1.2.1 (20 * (r1.2.2.1 k)))).toInt64) * ((x (r1.2.1.2.1 (20 * (r1.2.2.1 k)))).toInt64)) + (((y (r1.2.1.2.1 (20 * (r1.2.2.1 k)))).toInt64) * ((y (r1.2.1.2.1 (20 * (r1.2.2.1 k)))).toInt64))) * (((y (r1.2.1.2.1 ((20 * (r1.2.2.1 k)) + 1))) - (y (r1.2.1.2.1 ((20 * (r1.2.2.1 k)) + 2)))).toInt64)) + (((((x (r1.2.1.2.1 ((20 * (r1.2.2.1 k)) + 1))).toInt64) * ((x (r1.2.1.2.1 ((20 * (r1.2.2.1 k)) + 1))).toInt64)) + (((y (r1.2.1.2.1 ((20 * (r1.2.2.1 k)) + 1))).toInt64) * ((y (r1.2.1.2.1 ((20 * (r1.2.2.1 k)) + 1))).toInt64))) * (((y (r1.2.1.2.1 ((20 * (r1.2.2.1 k)) + 2))) - (y (r1.2.1.2.1 (20 * (r1.2.2.1 k))))).toInt64))) + (((((x (r1.2.1.2.1 ((20 * (r1.2.2.1 k)) + 2))).toInt64) * ((x (r1.2.1.2.1 ((20 * (r1.2.2.1 k)) + 2))).toInt64)) + (((y (r1.2.1.2.1 ((20 * (r1.2.2.1 k)) + 2))).toInt64) * ((y (r1.2.1.2.1 ((20 * (r1.2.2.1 k)) + 2))).toInt64))) * (((y (r1.2.1.2.1 (20 * (r1.2.2.1 k)))) - (y (r1.2.1.2.1 ((20 * (r1.2.2.1 k)) + 1)))).toInt64))) / (lN (r_gg x y (r1.2.1.2.1 (20 * r1.2.2.1 k)) (r1.2.1.2.1 (20 * r1.2.2.1 k + 1)) (r1.2.1.2.1 (20 * r1.2.2.1 k + 2))))) hx hb hr (q_retm hP hS) hS.2.2 dX4_centre_449
      · exact absurd c42 (by decide)
    · rw [if_pos c27] at hR
      subst hR
      refine lv_iconst (v := 1) hx hb dX4_centre_30 (by decide) ?_
      refine lv_goto (tgt := 35) hx hb dX4_centre_31 (by decide) ?_
      refine va_put (D := (dC, dI)) (ci := 4) (v := .int 1) (ty := .int) (C := RX4) (T := TX4) (N := 11) hx hb hts (by decide +kernel) tyX4 tyX4_ok nmX4 hown hK hP hD hS 0 rfl rfl 0 (by decide) (hts (.fieldLink RX4 28 "CircleCellsModel" "thrown" "I") (by decide +kernel)) (fun _ h9 => h9) rfl (by decide +kernel) rfl rfl (Nat.le_of_ble_eq_true rfl) dX4_centre_35 (fun H locs hP hD hS => ?_)
      have hP : va_P (dC, dI) vwCl [(o0, .inr (4, [.int 1, .int (nI n), .ref xb, .ref yb, .int r1.1, .int (nI r1.2.1.2.2), .ref za, .ref ua, .ref wa, .int (nI r1.2.2.2.2), .ref va])), (xb, .inl (cI, 20, .inl x)), (yb, .inl (cI, 20, .inl y)), (za, .inl (cI, 60, .inl (fun j9 => nI (r1.2.1.1 j9)))), (ua, .inl (cI, 1200, .inl (fun j9 => nI (r1.2.1.2.1 j9)))), (wa, .inl (cI, 60, .inl (fun j9 => nI (r1.2.2.1 j9)))), (va, .inl (cI, 20, .inl (fun j9 => nI (r1.2.2.2.1 j9))))] H := hP
      have hD : va_D A [(o0, .inr (4, [.int 1, .int (nI n), .ref xb, .ref yb, .int r1.1, .int (nI r1.2.1.2.2), .ref za, .ref ua, .ref wa, .int (nI r1.2.2.2.2), .ref va])), (xb, .inl (cI, 20, .inl x)), (yb, .inl (cI, 20, .inl y)), (za, .inl (cI, 60, .inl (fun j9 => nI (r1.2.1.1 j9)))), (ua, .inl (cI, 1200, .inl (fun j9 => nI (r1.2.1.2.1 j9)))), (wa, .inl (cI, 60, .inl (fun j9 => nI (r1.2.2.1 j9)))), (va, .inl (cI, 20, .inl (fun j9 => nI (r1.2.2.2.1 j9))))] := hD
      refine lv_aload_n hx hb dX4_centre_38 rfl (lv_at hl 1 rfl) ?_
      refine va_get (D := (dC, dI)) (ci := 4) (v := .int 1) (C := RX4) (T := TX4) (N := 11) hx hb hts (by decide +kernel) hown hK hP 0 rfl rfl 0 (by decide) (hts (.fieldLink RX4 28 "CircleCellsModel" "thrown" "I") (by decide +kernel)) (fun _ h9 => h9) rfl dX4_centre_39 ?_
      refine lv_if_le (tgt := 47) hx hb dX4_centre_42 (by decide) (fun c42 => ?_) (fun c42 => ?_)
      · exact absurd c42 (by decide)
      · refine lv_lconst (v := 0) hx hb dX4_centre_45 (by decide) ?_
        exact W.lret (v := 0) hx hb hr (q_retm hP hS) hS.2.2 dX4_centre_46
  · rw [r_cenR, if_pos c12] at hR
    subst hR
    refine lv_iconst (v := 2) hx hb dX4_centre_15 (by decide) ?_
    refine lv_goto (tgt := 35) hx hb dX4_centre_16 (by decide) ?_
    refine va_put (D := (dC, dI)) (ci := 4) (v := .int 2) (ty := .int) (C := RX4) (T := TX4) (N := 11) hx hb hts (by decide +kernel) tyX4 tyX4_ok nmX4 hown hK hP hD hS 0 rfl rfl 0 (by decide) (hts (.fieldLink RX4 28 "CircleCellsModel" "thrown" "I") (by decide +kernel)) (fun _ h9 => h9) rfl (by decide +kernel) rfl rfl (Nat.le_of_ble_eq_true rfl) dX4_centre_35 (fun H locs hP hD hS => ?_)
    have hP : va_P (dC, dI) vwCl [(o0, .inr (4, [.int 2, .int (nI n), .ref xb, .ref yb, .int r1.1, .int (nI r1.2.1.2.2), .ref za, .ref ua, .ref wa, .int (nI r1.2.2.2.2), .ref va])), (xb, .inl (cI, 20, .inl x)), (yb, .inl (cI, 20, .inl y)), (za, .inl (cI, 60, .inl (fun j9 => nI (r1.2.1.1 j9)))), (ua, .inl (cI, 1200, .inl (fun j9 => nI (r1.2.1.2.1 j9)))), (wa, .inl (cI, 60, .inl (fun j9 => nI (r1.2.2.1 j9)))), (va, .inl (cI, 20, .inl (fun j9 => nI (r1.2.2.2.1 j9))))] H := hP
    have hD : va_D A [(o0, .inr (4, [.int 2, .int (nI n), .ref xb, .ref yb, .int r1.1, .int (nI r1.2.1.2.2), .ref za, .ref ua, .ref wa, .int (nI r1.2.2.2.2), .ref va])), (xb, .inl (cI, 20, .inl x)), (yb, .inl (cI, 20, .inl y)), (za, .inl (cI, 60, .inl (fun j9 => nI (r1.2.1.1 j9)))), (ua, .inl (cI, 1200, .inl (fun j9 => nI (r1.2.1.2.1 j9)))), (wa, .inl (cI, 60, .inl (fun j9 => nI (r1.2.2.1 j9)))), (va, .inl (cI, 20, .inl (fun j9 => nI (r1.2.2.2.1 j9))))] := hD
    refine lv_aload_n hx hb dX4_centre_38 rfl (lv_at hl 1 rfl) ?_
    refine va_get (D := (dC, dI)) (ci := 4) (v := .int 2) (C := RX4) (T := TX4) (N := 11) hx hb hts (by decide +kernel) hown hK hP 0 rfl rfl 0 (by decide) (hts (.fieldLink RX4 28 "CircleCellsModel" "thrown" "I") (by decide +kernel)) (fun _ h9 => h9) rfl dX4_centre_39 ?_
    refine lv_if_le (tgt := 47) hx hb dX4_centre_42 (by decide) (fun c42 => ?_) (fun c42 => ?_)
    · exact absurd c42 (by decide)
    · refine lv_lconst (v := 0) hx hb dX4_centre_45 (by decide) ?_
      exact W.lret (v := 0) hx hb hr (q_retm hP hS) hS.2.2 dX4_centre_46
