/-! The reference: site, remove, move, clear, where -/
def r_thr (a b : Bool) : Int32 := if a = true then 1 else if b = true then 2 else 0
theorem r_out_f {w : Int32} {n : Nat} (hn : n < 2 ^ 31) (h : r_out w (nI n) = false) : ∃ k, k < n ∧ w = nI k := by
  unfold r_out at h
  split at h
  · cases h
  · rename_i h0
    split at h
    · rename_i h1
      obtain ⟨k, hk, rfl⟩ := nI_of h0
      exact ⟨k, (nI_ltI hk hn).mp h1, rfl⟩
    · cases h
def r_siteR (x y : Nat → Int32) (n : Nat) (px py md : Int32) : Int32 × Int32 × Nat × (Nat → Int32) × (Nat → Int32) × Int32 :=
  if r_far px py = true then (0, 1, n, x, y, md) else if r_taken x y n px py (-1) false 0 = true then (0, 1, n, x, y, md) else if n = 20 then (0, 2, n, x, y, md) else (nI n, 0, n + 1, upd x n px, upd y n py, 0)
def r_rem (n : Nat) (x y : Nat → Int32) (t : Nat) : (Nat → Int32) × (Nat → Int32) := if t + 1 < n then r_rem n (upd x t (x (t + 1))) (upd y t (y (t + 1))) (t + 1) else (x, y)
termination_by n - t
def r_remR (x y : Nat → Int32) (n : Nat) (w md : Int32) : Int32 × Nat × (Nat → Int32) × (Nat → Int32) × Int32 :=
  if r_out w (nI n) = true then (1, n, x, y, md) else (0, n - 1, (r_rem n x y w.toNatClampNeg).1, (r_rem n x y w.toNatClampNeg).2, 0)
def r_movR (x y : Nat → Int32) (n : Nat) (w px py md : Int32) : Int32 × (Nat → Int32) × (Nat → Int32) × Int32 :=
  if r_out w (nI n) = true then (1, x, y, md) else if r_far px py = true then (1, x, y, md) else if r_taken x y n px py w false 0 = true then (1, x, y, md) else (0, upd x w.toNatClampNeg px, upd y w.toNatClampNeg py, 0)
def r_wheR (x y : Nat → Int32) (n : Nat) (w t : Int32) : Int32 × Int32 :=
  if r_out w (nI n) = true then (0, 1) else if r_out t 2 = true then (0, 1) else if t = 0 then (x w.toNatClampNeg, 0) else (y w.toNatClampNeg, 0)
set_option maxHeartbeats 4000000 in
set_option maxRecDepth 100000 in
theorem c_X4_throwing (l : Launch) (dC : Nat → ClassId) (dI : Nat → Nat → Nat) (o0 xb yb za ua wa va : Nat) (cI : ClassId) (th ns md nc hz : Int32) (t1 t2 : Bool) : Met l yX4_throwing wsX4_throwing ({ frames := 0, cells := 0, slots := 0, locals := 0 }) (q_Pm (dC, dI) [.ref o0, .int (bI t1), .int (bI t2)] [(o0, .inr (4, [.int th, .int ns, .ref xb, .ref yb, .int md, .int nc, .ref za, .ref ua, .ref wa, .int hz, .ref va]))] []) (q_Qm (dC, dI) (q_in [(o0, .inr (4, [.int th, .int ns, .ref xb, .ref yb, .int md, .int nc, .ref za, .ref ua, .ref wa, .int hz, .ref va]))]) (some (.int (bI (t1 || t2)))) [(o0, .inr (4, [.int (r_thr t1 t2), .int ns, .ref xb, .ref yb, .int md, .int nc, .ref za, .ref ua, .ref wa, .int hz, .ref va]))]) 0 0 (q_in [(o0, .inr (4, [.int th, .int ns, .ref xb, .ref yb, .int md, .int nc, .ref za, .ref ua, .ref wa, .int hz, .ref va]))]) := by
  refine Met.ofW (cc := cX4_throwing) (maxL := 3) (ret := (some .boolean)) (by decide) rfl ?_
  intro p e s m args below meth c s₁ B hml hv
  obtain ⟨rfl, hP, hK, hD0⟩ := hv
  have hx := B.exec
  have hb := B.bytes
  have hr := B.returns
  have hts := atoms_spec (ws := wsX4_throwing) B.pre
  have hown : s.vm.findClass RX4 = some m.cls := findClass_of_methodNamed B.named
  have hlocks := B.notSynchronized
  have hD := q_inD hD0
  generalize hAe : q_in [(o0, .inr (4, [.int th, .int ns, .ref xb, .ref yb, .int md, .int nc, .ref za, .ref ua, .ref wa, .int hz, .ref va]))] = A at hD ⊢
  have hS : va_S A s.heap s.heap [] := va_S.rf
  have hP : va_P (dC, dI) vwCl [(o0, .inr (4, [.int th, .int ns, .ref xb, .ref yb, .int md, .int nc, .ref za, .ref ua, .ref wa, .int hz, .ref va]))] s.heap := hP
  have hl := lv_entry ([.ref o0, .int (bI t1), .int (bI t2)]) (n := 3) (Nat.le_of_ble_eq_true rfl)
  rw [lg_entry_eq]
  generalize (lg_sl ([.ref o0, .int (bI t1), .int (bI t2)]) ++ List.replicate (3 - (lg_sl ([.ref o0, .int (bI t1), .int (bI t2)])).length) Slot.unset).toArray = ls at hl ⊢
  have hl : lv_has ls 3 [(0, .ref o0), (1, .int (bI t1)), (2, .int (bI t2))] := hl
  refine lv_aload_n hx hb dX4_throwing_0 rfl (lv_at hl 0 rfl) ?_
  refine lv_iload_n hx hb dX4_throwing_1 rfl (lv_at hl 1 rfl) ?_
  refine q_ifb_eq (tgt := 9) hx hb dX4_throwing_2 (by decide) (fun c2 => ?_) (fun c2 => ?_)
  · subst c2
    refine lv_iload_n hx hb dX4_throwing_9 rfl (lv_at hl 2 rfl) ?_
    refine q_ifb_eq (tgt := 17) hx hb dX4_throwing_10 (by decide) (fun c10 => ?_) (fun c10 => ?_)
    · subst c10
      refine lv_iconst (v := 0) hx hb dX4_throwing_17 (by decide) ?_
      refine va_put (D := (dC, dI)) (ci := 4) (v := .int 0) (ty := .int) (C := RX4) (T := TX4) (N := 11) hx hb hts (by decide +kernel) tyX4 tyX4_ok nmX4 hown hK hP hD hS 0 rfl rfl 0 (by decide) (hts (.fieldLink RX4 28 "CircleCellsModel" "thrown" "I") (by decide +kernel)) (fun _ h9 => h9) rfl (by decide +kernel) rfl rfl (Nat.le_of_ble_eq_true rfl) dX4_throwing_18 (fun H locs hP hD hS => ?_)
      have hP : va_P (dC, dI) vwCl [(o0, .inr (4, [.int 0, .int ns, .ref xb, .ref yb, .int md, .int nc, .ref za, .ref ua, .ref wa, .int hz, .ref va]))] H := hP
      have hD : va_D A [(o0, .inr (4, [.int 0, .int ns, .ref xb, .ref yb, .int md, .int nc, .ref za, .ref ua, .ref wa, .int hz, .ref va]))] := hD
      refine lv_aload_n hx hb dX4_throwing_21 rfl (lv_at hl 0 rfl) ?_
      refine va_get (D := (dC, dI)) (ci := 4) (v := .int 0) (C := RX4) (T := TX4) (N := 11) hx hb hts (by decide +kernel) hown hK hP 0 rfl rfl 0 (by decide) (hts (.fieldLink RX4 28 "CircleCellsModel" "thrown" "I") (by decide +kernel)) (fun _ h9 => h9) rfl dX4_throwing_22 ?_
      refine lv_if_le (tgt := 32) hx hb dX4_throwing_25 (by decide) (fun c25 => ?_) (fun c25 => ?_)
      · refine lv_iconst (v := bI false) hx hb dX4_throwing_32 (by decide) ?_
        exact W.zret (v := bI false) hx hb hr (bI_nar _) (q_retm hP hS) hS.2.2 dX4_throwing_33
      · exact absurd c25 (by decide)
    · subst c10
      refine lv_iconst (v := 2) hx hb dX4_throwing_13 (by decide) ?_
      refine lv_goto (tgt := 18) hx hb dX4_throwing_14 (by decide) ?_
      refine va_put (D := (dC, dI)) (ci := 4) (v := .int 2) (ty := .int) (C := RX4) (T := TX4) (N := 11) hx hb hts (by decide +kernel) tyX4 tyX4_ok nmX4 hown hK hP hD hS 0 rfl rfl 0 (by decide) (hts (.fieldLink RX4 28 "CircleCellsModel" "thrown" "I") (by decide +kernel)) (fun _ h9 => h9) rfl (by decide +kernel) rfl rfl (Nat.le_of_ble_eq_true rfl) dX4_throwing_18 (fun H locs hP hD hS => ?_)
      have hP : va_P (dC, dI) vwCl [(o0, .inr (4, [.int 2, .int ns, .ref xb, .ref yb, .int md, .int nc, .ref za, .ref ua, .ref wa, .int hz, .ref va]))] H := hP
      have hD : va_D A [(o0, .inr (4, [.int 2, .int ns, .ref xb, .ref yb, .int md, .int nc, .ref za, .ref ua, .ref wa, .int hz, .ref va]))] := hD
      refine lv_aload_n hx hb dX4_throwing_21 rfl (lv_at hl 0 rfl) ?_
      refine va_get (D := (dC, dI)) (ci := 4) (v := .int 2) (C := RX4) (T := TX4) (N := 11) hx hb hts (by decide +kernel) hown hK hP 0 rfl rfl 0 (by decide) (hts (.fieldLink RX4 28 "CircleCellsModel" "thrown" "I") (by decide +kernel)) (fun _ h9 => h9) rfl dX4_throwing_22 ?_
      refine lv_if_le (tgt := 32) hx hb dX4_throwing_25 (by decide) (fun c25 => ?_) (fun c25 => ?_)
      · exact absurd c25 (by decide)
      · refine lv_iconst (v := bI true) hx hb dX4_throwing_28 (by decide) ?_
        refine lv_goto (tgt := 33) hx hb dX4_throwing_29 (by decide) ?_
        exact W.zret (v := bI true) hx hb hr (bI_nar _) (q_retm hP hS) hS.2.2 dX4_throwing_33
  · subst c2
    refine lv_iconst (v := 1) hx hb dX4_throwing_5 (by decide) ?_
    refine lv_goto (tgt := 18) hx hb dX4_throwing_6 (by decide) ?_
    refine va_put (D := (dC, dI)) (ci := 4) (v := .int 1) (ty := .int) (C := RX4) (T := TX4) (N := 11) hx hb hts (by decide +kernel) tyX4 tyX4_ok nmX4 hown hK hP hD hS 0 rfl rfl 0 (by decide) (hts (.fieldLink RX4 28 "CircleCellsModel" "thrown" "I") (by decide +kernel)) (fun _ h9 => h9) rfl (by decide +kernel) rfl rfl (Nat.le_of_ble_eq_true rfl) dX4_throwing_18 (fun H locs hP hD hS => ?_)
    have hP : va_P (dC, dI) vwCl [(o0, .inr (4, [.int 1, .int ns, .ref xb, .ref yb, .int md, .int nc, .ref za, .ref ua, .ref wa, .int hz, .ref va]))] H := hP
    have hD : va_D A [(o0, .inr (4, [.int 1, .int ns, .ref xb, .ref yb, .int md, .int nc, .ref za, .ref ua, .ref wa, .int hz, .ref va]))] := hD
    refine lv_aload_n hx hb dX4_throwing_21 rfl (lv_at hl 0 rfl) ?_
    refine va_get (D := (dC, dI)) (ci := 4) (v := .int 1) (C := RX4) (T := TX4) (N := 11) hx hb hts (by decide +kernel) hown hK hP 0 rfl rfl 0 (by decide) (hts (.fieldLink RX4 28 "CircleCellsModel" "thrown" "I") (by decide +kernel)) (fun _ h9 => h9) rfl dX4_throwing_22 ?_
    refine lv_if_le (tgt := 32) hx hb dX4_throwing_25 (by decide) (fun c25 => ?_) (fun c25 => ?_)
    · exact absurd c25 (by decide)
    · refine lv_iconst (v := bI true) hx hb dX4_throwing_28 (by decide) ?_
      refine lv_goto (tgt := 33) hx hb dX4_throwing_29 (by decide) ?_
      exact W.zret (v := bI true) hx hb hr (bI_nar _) (q_retm hP hS) hS.2.2 dX4_throwing_33
set_option maxHeartbeats 4000000 in
set_option maxRecDepth 100000 in
theorem c_X4_site (l : Launch) (dC : Nat → ClassId) (dI : Nat → Nat → Nat) (o0 xb yb za ua wa va : Nat) (cI : ClassId) (th md nc hz : Int32) (x y : Nat → Int32) (n : Nat) (px py : Int32) (ln : n ≤ 20) (R : Int32 × Int32 × Nat × (Nat → Int32) × (Nat → Int32) × Int32) (hR : r_siteR x y n px py md = R) : Met l yX4_site wsX4_site ({ frames := 1, cells := 0, slots := 0, locals := 25 }) (q_Pm (dC, dI) [.ref o0, .int px, .int py] [(o0, .inr (4, [.int th, .int (nI n), .ref xb, .ref yb, .int md, .int nc, .ref za, .ref ua, .ref wa, .int hz, .ref va])), (xb, .inl (cI, 20, .inl x)), (yb, .inl (cI, 20, .inl y))] [(cI, .int)]) (q_Qm (dC, dI) (q_in [(o0, .inr (4, [.int th, .int (nI n), .ref xb, .ref yb, .int md, .int nc, .ref za, .ref ua, .ref wa, .int hz, .ref va])), (xb, .inl (cI, 20, .inl x)), (yb, .inl (cI, 20, .inl y))]) (some (.int R.1)) [(o0, .inr (4, [.int R.2.1, .int (nI R.2.2.1), .ref xb, .ref yb, .int R.2.2.2.2.2, .int nc, .ref za, .ref ua, .ref wa, .int hz, .ref va])), (xb, .inl (cI, 20, .inl R.2.2.2.1)), (yb, .inl (cI, 20, .inl R.2.2.2.2.1))]) 0 0 (q_in [(o0, .inr (4, [.int th, .int (nI n), .ref xb, .ref yb, .int md, .int nc, .ref za, .ref ua, .ref wa, .int hz, .ref va])), (xb, .inl (cI, 20, .inl x)), (yb, .inl (cI, 20, .inl y))]) := by
  refine Met.ofW (cc := cX4_site) (maxL := 4) (ret := (some .int)) (by decide) rfl ?_
  intro p e s m args below meth c s₁ B hml hv
  obtain ⟨rfl, hP, hK, hD0⟩ := hv
  have hx := B.exec
  have hb := B.bytes
  have hr := B.returns
  have hts := atoms_spec (ws := wsX4_site) B.pre
  have hown : s.vm.findClass RX4 = some m.cls := findClass_of_methodNamed B.named
  have hlocks := B.notSynchronized
  have hD := q_inD hD0
  generalize hAe : q_in [(o0, .inr (4, [.int th, .int (nI n), .ref xb, .ref yb, .int md, .int nc, .ref za, .ref ua, .ref wa, .int hz, .ref va])), (xb, .inl (cI, 20, .inl x)), (yb, .inl (cI, 20, .inl y))] = A at hD ⊢
  have hS : va_S A s.heap s.heap [] := va_S.rf
  have hP : va_P (dC, dI) vwCl [(o0, .inr (4, [.int th, .int (nI n), .ref xb, .ref yb, .int md, .int nc, .ref za, .ref ua, .ref wa, .int hz, .ref va])), (xb, .inl (cI, 20, .inl x)), (yb, .inl (cI, 20, .inl y))] s.heap := hP
  have hl := lv_entry ([.ref o0, .int px, .int py]) (n := 4) (Nat.le_of_ble_eq_true rfl)
  rw [lg_entry_eq]
  generalize (lg_sl ([.ref o0, .int px, .int py]) ++ List.replicate (4 - (lg_sl ([.ref o0, .int px, .int py])).length) Slot.unset).toArray = ls at hl ⊢
  have hl : lv_has ls 4 [(0, .ref o0), (1, .int px), (2, .int py)] := hl
  refine lv_iload_n hx hb dX4_site_0 rfl (lv_at hl 1 rfl) ?_
  refine lv_iload_n hx hb dX4_site_1 rfl (lv_at hl 2 rfl) ?_
  refine q_cS (As := [.int px, .int py]) (rest := []) ⟨hx, hb, hml, hown, hts⟩ (c_X4_isFar l dC dI px py) (va_cwS 2 hts gX4_site_X4_isFar rfl rfl rfl (by decide +kernel) ⟨Nat.le_of_ble_eq_true rfl, Nat.le_of_ble_eq_true rfl⟩) (q_pS hK hP [] [] rfl rfl rfl) rfl hl.1 rfl (Nat.le_of_ble_eq_true rfl) ⟨Nat.zero_le _, Nat.zero_le _⟩ dX4_site_2 ?_
  refine q_ifb_ne (tgt := 18) hx hb dX4_site_5 (by decide) (fun c5 => ?_) (fun c5 => ?_)
  · rw [r_siteR, if_pos c5] at hR
    subst hR
    refine lv_iconst (v := bI true) hx hb dX4_site_18 (by decide) ?_
    refine lv_goto (tgt := 23) hx hb dX4_site_19 (by decide) ?_
    refine lv_istore_n (lv' := [(3, .int (bI true)), (0, .ref o0), (1, .int px), (2, .int py)]) hx hb dX4_site_23 rfl hl (by decide) rfl (fun ls hl => ?_)
    refine lv_aload_n hx hb dX4_site_24 rfl (lv_at hl 1 rfl) ?_
    refine lv_iload_n hx hb dX4_site_25 rfl (lv_at hl 0 rfl) ?_
    refine lv_iload_n hx hb dX4_site_26 rfl (lv_at hl 0 rfl) ?_
    refine q_ifb_ne (tgt := 43) hx hb dX4_site_27 (by decide) (fun c27 => ?_) (fun c27 => ?_)
    · refine lv_iconst (v := bI false) hx hb dX4_site_43 (by decide) ?_
      refine q_mV (wc' := [(o0, .inr (4, [.int (r_thr true false), .int (nI n), .ref xb, .ref yb, .int md, .int nc, .ref za, .ref ua, .ref wa, .int hz, .ref va]))]) (wsN := [(o0, .inr (4, [.int (r_thr true false), .int (nI n), .ref xb, .ref yb, .int md, .int nc, .ref za, .ref ua, .ref wa, .int hz, .ref va])), (xb, .inl (cI, 20, .inl x)), (yb, .inl (cI, 20, .inl y))]) (As := [.int (bI true), .int (bI false)]) (rest := []) ⟨hx, hb, hml, hown, hts⟩ (c_X4_throwing l dC dI o0 xb yb za ua wa va (by omega) th (nI n) md nc hz true false) (cwV 2 hts gX4_site_X4_throwing rfl rfl rfl (by decide +kernel) ⟨Nat.le_of_ble_eq_true rfl, Nat.le_of_ble_eq_true rfl⟩) hK hP hD hS [0] [] 4 0 rfl rfl rfl rfl rfl rfl rfl rfl rfl hl.1 rfl (Nat.le_of_ble_eq_true rfl) ⟨Nat.zero_le _, Nat.zero_le _⟩ dX4_site_44 rfl (fun H locs hP hD hS => ?_)
      refine W.eq (g2 := F0 m 47 ls [.int (bI (true || false))]) rfl ?_
      refine q_ifb_eq (tgt := 52) hx hb dX4_site_47 (by decide) (fun c47 => ?_) (fun c47 => ?_)
      · exact absurd c47 (by decide)
      · refine lv_iconst (v := 0) hx hb dX4_site_50 (by decide) ?_
        exact W.iret (v := 0) hx hb hr (q_retm hP hS) hS.2.2 dX4_site_51
    · exact absurd c27 (by decide)
  · rw [r_siteR, if_neg (by rw [c5]; decide)] at hR
    refine lv_aload_n hx hb dX4_site_8 rfl (lv_at hl 0 rfl) ?_
    refine lv_iload_n hx hb dX4_site_9 rfl (lv_at hl 1 rfl) ?_
    refine lv_iload_n hx hb dX4_site_10 rfl (lv_at hl 2 rfl) ?_
    refine lv_iconst (v := (-1)) hx hb dX4_site_11 (by decide) ?_
    refine q_cV (As := [.int px, .int py, .int (-1)]) (rest := []) ⟨hx, hb, hml, hown, hts⟩ (c_X4_isTaken l dC dI o0 xb yb za ua wa va cI th md nc hz x y n px py (-1) (by omega)) (cwV 3 hts gX4_site_X4_isTaken rfl rfl rfl (by decide +kernel) ⟨Nat.le_of_ble_eq_true rfl, Nat.le_of_ble_eq_true rfl⟩) (q_pV hK hP [0, 1, 2] [0] 4 0 rfl rfl rfl rfl rfl rfl) rfl hl.1 rfl (Nat.le_of_ble_eq_true rfl) ⟨Nat.zero_le _, Nat.zero_le _⟩ dX4_site_12 ?_
    refine q_ifb_eq (tgt := 22) hx hb dX4_site_15 (by decide) (fun c15 => ?_) (fun c15 => ?_)
    · rw [if_neg (by rw [c15]; decide)] at hR
      refine lv_iconst (v := bI false) hx hb dX4_site_22 (by decide) ?_
      refine lv_istore_n (lv' := [(3, .int (bI false)), (0, .ref o0), (1, .int px), (2, .int py)]) hx hb dX4_site_23 rfl hl (by decide) rfl (fun ls hl => ?_)
      refine lv_aload_n hx hb dX4_site_24 rfl (lv_at hl 1 rfl) ?_
      refine lv_iload_n hx hb dX4_site_25 rfl (lv_at hl 0 rfl) ?_
      refine lv_iload_n hx hb dX4_site_26 rfl (lv_at hl 0 rfl) ?_
      refine q_ifb_ne (tgt := 43) hx hb dX4_site_27 (by decide) (fun c27 => ?_) (fun c27 => ?_)
      · exact absurd c27 (by decide)
      · refine lv_aload_n hx hb dX4_site_30 rfl (lv_at hl 1 rfl) ?_
        refine va_get (D := (dC, dI)) (ci := 4) (v := .int (nI n)) (C := RX4) (T := TX4) (N := 11) hx hb hts (by decide +kernel) hown hK hP 0 rfl rfl 1 (by decide) (hts (.fieldLink RX4 32 "CircleCellsModel" "sites" "I") (by decide +kernel)) (fun _ h9 => h9) rfl dX4_site_31 ?_
        refine lv_bipush (v := nI 20) hx hb dX4_site_34 (by decide) ?_
        refine q_icmp_ne (tgt := 43) (by omega) (by omega) hx hb dX4_site_36 (by decide) (fun c36 => ?_) (fun c36 => ?_)
        · rw [if_neg c36] at hR
          subst hR
          refine lv_iconst (v := bI false) hx hb dX4_site_43 (by decide) ?_
          refine q_mV (wc' := [(o0, .inr (4, [.int (r_thr false false), .int (nI n), .ref xb, .ref yb, .int md, .int nc, .ref za, .ref ua, .ref wa, .int hz, .ref va]))]) (wsN := [(o0, .inr (4, [.int (r_thr false false), .int (nI n), .ref xb, .ref yb, .int md, .int nc, .ref za, .ref ua, .ref wa, .int hz, .ref va])), (xb, .inl (cI, 20, .inl x)), (yb, .inl (cI, 20, .inl y))]) (As := [.int (bI false), .int (bI false)]) (rest := []) ⟨hx, hb, hml, hown, hts⟩ (c_X4_throwing l dC dI o0 xb yb za ua wa va (by omega) th (nI n) md nc hz false false) (cwV 2 hts gX4_site_X4_throwing rfl rfl rfl (by decide +kernel) ⟨Nat.le_of_ble_eq_true rfl, Nat.le_of_ble_eq_true rfl⟩) hK hP hD hS [0] [] 4 0 rfl rfl rfl rfl rfl rfl rfl rfl rfl hl.1 rfl (Nat.le_of_ble_eq_true rfl) ⟨Nat.zero_le _, Nat.zero_le _⟩ dX4_site_44 rfl (fun H locs hP hD hS => ?_)
          refine W.eq (g2 := F0 m 47 ls [.int (bI (false || false))]) rfl ?_
          refine q_ifb_eq (tgt := 52) hx hb dX4_site_47 (by decide) (fun c47 => ?_) (fun c47 => ?_)
          · refine lv_aload_n hx hb dX4_site_52 rfl (lv_at hl 1 rfl) ?_
            refine va_get (D := (dC, dI)) (ci := 4) (v := .ref xb) (C := RX4) (T := TX4) (N := 11) hx hb hts (by decide +kernel) hown hK hP 0 rfl rfl 2 (by decide) (hts (.fieldLink RX4 7 "CircleCellsModel" "x" "[I") (by decide +kernel)) (fun _ h9 => h9) rfl dX4_site_53 ?_
            refine lv_aload_n hx hb dX4_site_56 rfl (lv_at hl 1 rfl) ?_
            refine va_get (D := (dC, dI)) (ci := 4) (v := .int (nI n)) (C := RX4) (T := TX4) (N := 11) hx hb hts (by decide +kernel) hown hK hP 0 rfl rfl 1 (by decide) (hts (.fieldLink RX4 32 "CircleCellsModel" "sites" "I") (by decide +kernel)) (fun _ h9 => h9) rfl dX4_site_57 ?_
            refine lv_iload_n hx hb dX4_site_60 rfl (lv_at hl 2 rfl) ?_
            refine q_iast (ws' := [(o0, .inr (4, [.int (r_thr false false), .int (nI n), .ref xb, .ref yb, .int md, .int nc, .ref za, .ref ua, .ref wa, .int hz, .ref va])), (xb, .inl (cI, 20, .inl (upd x n px))), (yb, .inl (cI, 20, .inl y))]) hx hb hK hP hD hS 1 0 rfl rfl (n) rfl (by omega) (by decide) dX4_site_61 rfl (fun H locs hP hD hS => ?_)
            refine lv_aload_n hx hb dX4_site_62 rfl (lv_at hl 1 rfl) ?_
            refine va_get (D := (dC, dI)) (ci := 4) (v := .ref yb) (C := RX4) (T := TX4) (N := 11) hx hb hts (by decide +kernel) hown hK hP 0 rfl rfl 3 (by decide) (hts (.fieldLink RX4 13 "CircleCellsModel" "y" "[I") (by decide +kernel)) (fun _ h9 => h9) rfl dX4_site_63 ?_
            refine lv_aload_n hx hb dX4_site_66 rfl (lv_at hl 1 rfl) ?_
            refine va_get (D := (dC, dI)) (ci := 4) (v := .int (nI n)) (C := RX4) (T := TX4) (N := 11) hx hb hts (by decide +kernel) hown hK hP 0 rfl rfl 1 (by decide) (hts (.fieldLink RX4 32 "CircleCellsModel" "sites" "I") (by decide +kernel)) (fun _ h9 => h9) rfl dX4_site_67 ?_
            refine lv_iload_n hx hb dX4_site_70 rfl (lv_at hl 3 rfl) ?_
            refine q_iast (ws' := [(o0, .inr (4, [.int (r_thr false false), .int (nI n), .ref xb, .ref yb, .int md, .int nc, .ref za, .ref ua, .ref wa, .int hz, .ref va])), (xb, .inl (cI, 20, .inl (upd x n px))), (yb, .inl (cI, 20, .inl (upd y n py)))]) hx hb hK hP hD hS 2 0 rfl rfl (n) rfl (by omega) (by decide) dX4_site_71 rfl (fun H locs hP hD hS => ?_)
            refine lv_aload_n hx hb dX4_site_72 rfl (lv_at hl 1 rfl) ?_
            refine lv_dup hx hb dX4_site_73 rfl ?_
            refine va_get (D := (dC, dI)) (ci := 4) (v := .int (nI n)) (C := RX4) (T := TX4) (N := 11) hx hb hts (by decide +kernel) hown hK hP 0 rfl rfl 1 (by decide) (hts (.fieldLink RX4 32 "CircleCellsModel" "sites" "I") (by decide +kernel)) (fun _ h9 => h9) rfl dX4_site_74 ?_
            refine lv_iconst (v := nI 1) hx hb dX4_site_77 (by decide) ?_
            refine q_iadd hx hb dX4_site_78 ?_
            refine va_put (D := (dC, dI)) (ci := 4) (v := .int (nI (n + 1))) (ty := .int) (C := RX4) (T := TX4) (N := 11) hx hb hts (by decide +kernel) tyX4 tyX4_ok nmX4 hown hK hP hD hS 0 rfl rfl 1 (by decide) (hts (.fieldLink RX4 32 "CircleCellsModel" "sites" "I") (by decide +kernel)) (fun _ h9 => h9) rfl (by decide +kernel) rfl rfl (Nat.le_of_ble_eq_true rfl) dX4_site_79 (fun H locs hP hD hS => ?_)
            have hP : va_P (dC, dI) vwCl [(o0, .inr (4, [.int (r_thr false false), .int (nI (n + 1)), .ref xb, .ref yb, .int md, .int nc, .ref za, .ref ua, .ref wa, .int hz, .ref va])), (xb, .inl (cI, 20, .inl (upd x n px))), (yb, .inl (cI, 20, .inl (upd y n py)))] H := hP
            have hD : va_D A [(o0, .inr (4, [.int (r_thr false false), .int (nI (n + 1)), .ref xb, .ref yb, .int md, .int nc, .ref za, .ref ua, .ref wa, .int hz, .ref va])), (xb, .inl (cI, 20, .inl (upd x n px))), (yb, .inl (cI, 20, .inl (upd y n py)))] := hD
            refine lv_aload_n hx hb dX4_site_82 rfl (lv_at hl 1 rfl) ?_
            refine lv_iconst (v := 0) hx hb dX4_site_83 (by decide) ?_
            refine va_put (D := (dC, dI)) (ci := 4) (v := .int 0) (ty := .boolean) (C := RX4) (T := TX4) (N := 11) hx hb hts (by decide +kernel) tyX4 tyX4_ok nmX4 hown hK hP hD hS 0 rfl rfl 4 (by decide) (hts (.fieldLink RX4 47 "CircleCellsModel" "made" "Z") (by decide +kernel)) (fun _ h9 => h9) rfl (by decide +kernel) rfl rfl (Nat.le_of_ble_eq_true rfl) dX4_site_84 (fun H locs hP hD hS => ?_)
            have hP : va_P (dC, dI) vwCl [(o0, .inr (4, [.int (r_thr false false), .int (nI (n + 1)), .ref xb, .ref yb, .int 0, .int nc, .ref za, .ref ua, .ref wa, .int hz, .ref va])), (xb, .inl (cI, 20, .inl (upd x n px))), (yb, .inl (cI, 20, .inl (upd y n py)))] H := hP
            have hD : va_D A [(o0, .inr (4, [.int (r_thr false false), .int (nI (n + 1)), .ref xb, .ref yb, .int 0, .int nc, .ref za, .ref ua, .ref wa, .int hz, .ref va])), (xb, .inl (cI, 20, .inl (upd x n px))), (yb, .inl (cI, 20, .inl (upd y n py)))] := hD
            refine lv_aload_n hx hb dX4_site_87 rfl (lv_at hl 1 rfl) ?_
            refine va_get (D := (dC, dI)) (ci := 4) (v := .int (nI (n + 1))) (C := RX4) (T := TX4) (N := 11) hx hb hts (by decide +kernel) hown hK hP 0 rfl rfl 1 (by decide) (hts (.fieldLink RX4 32 "CircleCellsModel" "sites" "I") (by decide +kernel)) (fun _ h9 => h9) rfl dX4_site_88 ?_
            refine lv_iconst (v := nI 1) hx hb dX4_site_91 (by decide) ?_
            refine q_isub (by omega) hx hb dX4_site_92 ?_
            exact W.iret (v := nI ((n + 1) - 1)) hx hb hr (q_retm hP hS) hS.2.2 dX4_site_93
          · exact absurd c47 (by decide)
        · rw [if_pos c36] at hR
          subst hR
          refine lv_iconst (v := bI true) hx hb dX4_site_39 (by decide) ?_
          refine lv_goto (tgt := 44) hx hb dX4_site_40 (by decide) ?_
          refine q_mV (wc' := [(o0, .inr (4, [.int (r_thr false true), .int (nI n), .ref xb, .ref yb, .int md, .int nc, .ref za, .ref ua, .ref wa, .int hz, .ref va]))]) (wsN := [(o0, .inr (4, [.int (r_thr false true), .int (nI n), .ref xb, .ref yb, .int md, .int nc, .ref za, .ref ua, .ref wa, .int hz, .ref va])), (xb, .inl (cI, 20, .inl x)), (yb, .inl (cI, 20, .inl y))]) (As := [.int (bI false), .int (bI true)]) (rest := []) ⟨hx, hb, hml, hown, hts⟩ (c_X4_throwing l dC dI o0 xb yb za ua wa va (by omega) th (nI n) md nc hz false true) (cwV 2 hts gX4_site_X4_throwing rfl rfl rfl (by decide +kernel) ⟨Nat.le_of_ble_eq_true rfl, Nat.le_of_ble_eq_true rfl⟩) hK hP hD hS [0] [] 4 0 rfl rfl rfl rfl rfl rfl rfl rfl rfl hl.1 rfl (Nat.le_of_ble_eq_true rfl) ⟨Nat.zero_le _, Nat.zero_le _⟩ dX4_site_44 rfl (fun H locs hP hD hS => ?_)
          refine W.eq (g2 := F0 m 47 ls [.int (bI (false || true))]) rfl ?_
          refine q_ifb_eq (tgt := 52) hx hb dX4_site_47 (by decide) (fun c47 => ?_) (fun c47 => ?_)
          · exact absurd c47 (by decide)
          · refine lv_iconst (v := 0) hx hb dX4_site_50 (by decide) ?_
            exact W.iret (v := 0) hx hb hr (q_retm hP hS) hS.2.2 dX4_site_51
    · rw [if_pos c15] at hR
      subst hR
      refine lv_iconst (v := bI true) hx hb dX4_site_18 (by decide) ?_
      refine lv_goto (tgt := 23) hx hb dX4_site_19 (by decide) ?_
      refine lv_istore_n (lv' := [(3, .int (bI true)), (0, .ref o0), (1, .int px), (2, .int py)]) hx hb dX4_site_23 rfl hl (by decide) rfl (fun ls hl => ?_)
      refine lv_aload_n hx hb dX4_site_24 rfl (lv_at hl 1 rfl) ?_
      refine lv_iload_n hx hb dX4_site_25 rfl (lv_at hl 0 rfl) ?_
      refine lv_iload_n hx hb dX4_site_26 rfl (lv_at hl 0 rfl) ?_
      refine q_ifb_ne (tgt := 43) hx hb dX4_site_27 (by decide) (fun c27 => ?_) (fun c27 => ?_)
      · refine lv_iconst (v := bI false) hx hb dX4_site_43 (by decide) ?_
        refine q_mV (wc' := [(o0, .inr (4, [.int (r_thr true false), .int (nI n), .ref xb, .ref yb, .int md, .int nc, .ref za, .ref ua, .ref wa, .int hz, .ref va]))]) (wsN := [(o0, .inr (4, [.int (r_thr true false), .int (nI n), .ref xb, .ref yb, .int md, .int nc, .ref za, .ref ua, .ref wa, .int hz, .ref va])), (xb, .inl (cI, 20, .inl x)), (yb, .inl (cI, 20, .inl y))]) (As := [.int (bI true), .int (bI false)]) (rest := []) ⟨hx, hb, hml, hown, hts⟩ (c_X4_throwing l dC dI o0 xb yb za ua wa va (by omega) th (nI n) md nc hz true false) (cwV 2 hts gX4_site_X4_throwing rfl rfl rfl (by decide +kernel) ⟨Nat.le_of_ble_eq_true rfl, Nat.le_of_ble_eq_true rfl⟩) hK hP hD hS [0] [] 4 0 rfl rfl rfl rfl rfl rfl rfl rfl rfl hl.1 rfl (Nat.le_of_ble_eq_true rfl) ⟨Nat.zero_le _, Nat.zero_le _⟩ dX4_site_44 rfl (fun H locs hP hD hS => ?_)
        refine W.eq (g2 := F0 m 47 ls [.int (bI (true || false))]) rfl ?_
        refine q_ifb_eq (tgt := 52) hx hb dX4_site_47 (by decide) (fun c47 => ?_) (fun c47 => ?_)
        · exact absurd c47 (by decide)
        · refine lv_iconst (v := 0) hx hb dX4_site_50 (by decide) ?_
          exact W.iret (v := 0) hx hb hr (q_retm hP hS) hS.2.2 dX4_site_51
      · exact absurd c27 (by decide)
set_option maxHeartbeats 4000000 in
set_option maxRecDepth 100000 in
theorem c_X4_remove (l : Launch) (dC : Nat → ClassId) (dI : Nat → Nat → Nat) (o0 xb yb za ua wa va : Nat) (cI : ClassId) (th md nc hz : Int32) (x y : Nat → Int32) (n : Nat) (w : Int32) (ln : n ≤ 20) (R : Int32 × Nat × (Nat → Int32) × (Nat → Int32) × Int32) (hR : r_remR x y n w md = R) : Met l yX4_remove wsX4_remove ({ frames := 1, cells := 0, slots := 0, locals := 25 }) (q_Pm (dC, dI) [.ref o0, .int w] [(o0, .inr (4, [.int th, .int (nI n), .ref xb, .ref yb, .int md, .int nc, .ref za, .ref ua, .ref wa, .int hz, .ref va])), (xb, .inl (cI, 20, .inl x)), (yb, .inl (cI, 20, .inl y))] [(cI, .int)]) (q_Qm (dC, dI) (q_in [(o0, .inr (4, [.int th, .int (nI n), .ref xb, .ref yb, .int md, .int nc, .ref za, .ref ua, .ref wa, .int hz, .ref va])), (xb, .inl (cI, 20, .inl x)), (yb, .inl (cI, 20, .inl y))]) none [(o0, .inr (4, [.int R.1, .int (nI R.2.1), .ref xb, .ref yb, .int R.2.2.2.2, .int nc, .ref za, .ref ua, .ref wa, .int hz, .ref va])), (xb, .inl (cI, 20, .inl R.2.2.1)), (yb, .inl (cI, 20, .inl R.2.2.2.1))]) 0 0 (q_in [(o0, .inr (4, [.int th, .int (nI n), .ref xb, .ref yb, .int md, .int nc, .ref za, .ref ua, .ref wa, .int hz, .ref va])), (xb, .inl (cI, 20, .inl x)), (yb, .inl (cI, 20, .inl y))]) := by
  refine Met.ofW (cc := cX4_remove) (maxL := 3) (ret := none) (by decide) rfl ?_
  intro p e s m args below meth c s₁ B hml hv
  obtain ⟨rfl, hP, hK, hD0⟩ := hv
  have hx := B.exec
  have hb := B.bytes
  have hr := B.returns
  have hts := atoms_spec (ws := wsX4_remove) B.pre
  have hown : s.vm.findClass RX4 = some m.cls := findClass_of_methodNamed B.named
  have hlocks := B.notSynchronized
  have hD := q_inD hD0
  generalize hAe : q_in [(o0, .inr (4, [.int th, .int (nI n), .ref xb, .ref yb, .int md, .int nc, .ref za, .ref ua, .ref wa, .int hz, .ref va])), (xb, .inl (cI, 20, .inl x)), (yb, .inl (cI, 20, .inl y))] = A at hD ⊢
  have hS : va_S A s.heap s.heap [] := va_S.rf
  have hP : va_P (dC, dI) vwCl [(o0, .inr (4, [.int th, .int (nI n), .ref xb, .ref yb, .int md, .int nc, .ref za, .ref ua, .ref wa, .int hz, .ref va])), (xb, .inl (cI, 20, .inl x)), (yb, .inl (cI, 20, .inl y))] s.heap := hP
  have hl := lv_entry ([.ref o0, .int w]) (n := 3) (Nat.le_of_ble_eq_true rfl)
  rw [lg_entry_eq]
  generalize (lg_sl ([.ref o0, .int w]) ++ List.replicate (3 - (lg_sl ([.ref o0, .int w])).length) Slot.unset).toArray = ls at hl ⊢
  have hl : lv_has ls 3 [(0, .ref o0), (1, .int w)] := hl
  refine lv_aload_n hx hb dX4_remove_0 rfl (lv_at hl 0 rfl) ?_
  refine lv_iload_n hx hb dX4_remove_1 rfl (lv_at hl 1 rfl) ?_
  refine lv_aload_n hx hb dX4_remove_2 rfl (lv_at hl 0 rfl) ?_
  refine va_get (D := (dC, dI)) (ci := 4) (v := .int (nI n)) (C := RX4) (T := TX4) (N := 11) hx hb hts (by decide +kernel) hown hK hP 0 rfl rfl 1 (by decide) (hts (.fieldLink RX4 32 "CircleCellsModel" "sites" "I") (by decide +kernel)) (fun _ h9 => h9) rfl dX4_remove_3 ?_
  refine q_cS (As := [.int w, .int (nI n)]) (rest := [.ref o0]) ⟨hx, hb, hml, hown, hts⟩ (c_X4_out l dC dI w (nI n)) (va_cwS 2 hts gX4_remove_X4_out rfl rfl rfl (by decide +kernel) ⟨Nat.le_of_ble_eq_true rfl, Nat.le_of_ble_eq_true rfl⟩) (q_pS hK hP [] [] rfl rfl rfl) rfl hl.1 rfl (Nat.le_of_ble_eq_true rfl) ⟨Nat.zero_le _, Nat.zero_le _⟩ dX4_remove_6 ?_
  refine lv_iconst (v := bI false) hx hb dX4_remove_9 (by decide) ?_
  refine q_mV (wc' := [(o0, .inr (4, [.int (r_thr (r_out w (nI n)) false), .int (nI n), .ref xb, .ref yb, .int md, .int nc, .ref za, .ref ua, .ref wa, .int hz, .ref va]))]) (wsN := [(o0, .inr (4, [.int (r_thr (r_out w (nI n)) false), .int (nI n), .ref xb, .ref yb, .int md, .int nc, .ref za, .ref ua, .ref wa, .int hz, .ref va])), (xb, .inl (cI, 20, .inl x)), (yb, .inl (cI, 20, .inl y))]) (As := [.int (bI (r_out w (nI n))), .int (bI false)]) (rest := []) ⟨hx, hb, hml, hown, hts⟩ (c_X4_throwing l dC dI o0 xb yb za ua wa va (by omega) th (nI n) md nc hz (r_out w (nI n)) false) (cwV 2 hts gX4_remove_X4_throwing rfl rfl rfl (by decide +kernel) ⟨Nat.le_of_ble_eq_true rfl, Nat.le_of_ble_eq_true rfl⟩) hK hP hD hS [0] [] 4 0 rfl rfl rfl rfl rfl rfl rfl rfl rfl hl.1 rfl (Nat.le_of_ble_eq_true rfl) ⟨Nat.zero_le _, Nat.zero_le _⟩ dX4_remove_10 rfl (fun H locs hP hD hS => ?_)
  refine W.eq (g2 := F0 m 13 ls [.int (bI ((r_out w (nI n)) || false))]) rfl ?_
  refine q_ifb_eq (tgt := 17) hx hb dX4_remove_13 (by decide) (fun c13 => ?_) (fun c13 => ?_)
  · have c13 : r_out w (nI n) = false := by rw [Bool.or_false] at c13; exact c13
    rw [r_remR, if_neg (by rw [c13]; decide)] at hR
    rw [c13] at hP hD
    obtain ⟨k, hk, rfl⟩ := r_out_f (by omega) c13
    rw [nI_clamp (by omega)] at hR
    have hR : (0, n - 1, (r_rem n x y k).1, (r_rem n x y k).2, 0) = R := hR
    refine lv_iload_n hx hb dX4_remove_17 rfl (lv_at hl 1 rfl) ?_
    refine lv_istore_n (lv' := [(2, .int (nI k)), (0, .ref o0), (1, .int (nI k))]) hx hb dX4_remove_18 rfl hl (by decide) rfl (fun ls hl => ?_)
    have loop : ∀ (f : Nat) (x : Nat → Int32) (y : Nat → Int32) (t : Nat) (R : Int32 × Nat × (Nat → Int32) × (Nat → Int32) × Int32) (H : Heap) (locs : List Loc) (ls : Array Slot), (t < n) → (n + 1 ≤ t + f) → ((0 : Int32), n - 1, (r_rem n x y t).1, (r_rem n x y t).2, (0 : Int32)) = R → va_P (dC, dI) vwCl [(o0, .inr (4, [.int 0, .int (nI n), .ref xb, .ref yb, .int md, .int nc, .ref za, .ref ua, .ref wa, .int hz, .ref va])), (xb, .inl (cI, 20, .inl x)), (yb, .inl (cI, 20, .inl y))] H → va_D A [(o0, .inr (4, [.int 0, .int (nI n), .ref xb, .ref yb, .int md, .int nc, .ref za, .ref ua, .ref wa, .int hz, .ref va])), (xb, .inl (cI, 20, .inl x)), (yb, .inl (cI, 20, .inl y))] → va_S A s.heap H locs → lv_has ls 3 [(0, .ref o0), (1, .int (nI k)), (2, .int (nI t))] → W p l e (headSpec wsX4_remove ({ frames := 1, cells := 0, slots := 0, locals := 25 })).room s m ([.ref o0, .int (nI k)] : List Value).toArray below meth c H locs 0 0 (MQ below (q_Qm (dC, dI) A none [(o0, .inr (4, [.int R.1, .int (nI R.2.1), .ref xb, .ref yb, .int R.2.2.2.2, .int nc, .ref za, .ref ua, .ref wa, .int hz, .ref va])), (xb, .inl (cI, 20, .inl R.2.2.1)), (yb, .inl (cI, 20, .inl R.2.2.2.1))]) ([.ref o0, .int (nI k)] : List Value).toArray s 0 0 A) (F0 m 19 ls []) := by
      intro f
      induction f with
      | zero =>
        intro x y t R H locs ls h1 h2
        omega
      | succ f ih_loop =>
        intro x y t R H locs ls h1 h2 hF hP hD hS hl
        refine lv_iload_n hx hb dX4_remove_19 rfl (lv_at hl 2 rfl) ?_
        refine lv_iconst (v := nI 1) hx hb dX4_remove_20 (by decide) ?_
        refine q_iadd hx hb dX4_remove_21 ?_
        refine lv_aload_n hx hb dX4_remove_22 rfl (lv_at hl 0 rfl) ?_
        refine va_get (D := (dC, dI)) (ci := 4) (v := .int (nI n)) (C := RX4) (T := TX4) (N := 11) hx hb hts (by decide +kernel) hown hK hP 0 rfl rfl 1 (by decide) (hts (.fieldLink RX4 32 "CircleCellsModel" "sites" "I") (by decide +kernel)) (fun _ h9 => h9) rfl dX4_remove_23 ?_
        refine q_icmp_ge (tgt := 63) (by omega) (by omega) hx hb dX4_remove_26 (by decide) (fun c26 => ?_) (fun c26 => ?_)
        · rw [r_rem, if_neg (by omega)] at hF
          subst hF
          refine lv_aload_n hx hb dX4_remove_63 rfl (lv_at hl 0 rfl) ?_
          refine lv_dup hx hb dX4_remove_64 rfl ?_
          refine va_get (D := (dC, dI)) (ci := 4) (v := .int (nI n)) (C := RX4) (T := TX4) (N := 11) hx hb hts (by decide +kernel) hown hK hP 0 rfl rfl 1 (by decide) (hts (.fieldLink RX4 32 "CircleCellsModel" "sites" "I") (by decide +kernel)) (fun _ h9 => h9) rfl dX4_remove_65 ?_
          refine lv_iconst (v := nI 1) hx hb dX4_remove_68 (by decide) ?_
          refine q_isub (by omega) hx hb dX4_remove_69 ?_
          refine va_put (D := (dC, dI)) (ci := 4) (v := .int (nI (n - 1))) (ty := .int) (C := RX4) (T := TX4) (N := 11) hx hb hts (by decide +kernel) tyX4 tyX4_ok nmX4 hown hK hP hD hS 0 rfl rfl 1 (by decide) (hts (.fieldLink RX4 32 "CircleCellsModel" "sites" "I") (by decide +kernel)) (fun _ h9 => h9) rfl (by decide +kernel) rfl rfl (Nat.le_of_ble_eq_true rfl) dX4_remove_70 (fun H locs hP hD hS => ?_)
          have hP : va_P (dC, dI) vwCl [(o0, .inr (4, [.int 0, .int (nI (n - 1)), .ref xb, .ref yb, .int md, .int nc, .ref za, .ref ua, .ref wa, .int hz, .ref va])), (xb, .inl (cI, 20, .inl x)), (yb, .inl (cI, 20, .inl y))] H := hP
          have hD : va_D A [(o0, .inr (4, [.int 0, .int (nI (n - 1)), .ref xb, .ref yb, .int md, .int nc, .ref za, .ref ua, .ref wa, .int hz, .ref va])), (xb, .inl (cI, 20, .inl x)), (yb, .inl (cI, 20, .inl y))] := hD
          refine lv_aload_n hx hb dX4_remove_73 rfl (lv_at hl 0 rfl) ?_
          refine lv_iconst (v := 0) hx hb dX4_remove_74 (by decide) ?_
          refine va_put (D := (dC, dI)) (ci := 4) (v := .int 0) (ty := .boolean) (C := RX4) (T := TX4) (N := 11) hx hb hts (by decide +kernel) tyX4 tyX4_ok nmX4 hown hK hP hD hS 0 rfl rfl 4 (by decide) (hts (.fieldLink RX4 47 "CircleCellsModel" "made" "Z") (by decide +kernel)) (fun _ h9 => h9) rfl (by decide +kernel) rfl rfl (Nat.le_of_ble_eq_true rfl) dX4_remove_75 (fun H locs hP hD hS => ?_)
          have hP : va_P (dC, dI) vwCl [(o0, .inr (4, [.int 0, .int (nI (n - 1)), .ref xb, .ref yb, .int 0, .int nc, .ref za, .ref ua, .ref wa, .int hz, .ref va])), (xb, .inl (cI, 20, .inl x)), (yb, .inl (cI, 20, .inl y))] H := hP
          have hD : va_D A [(o0, .inr (4, [.int 0, .int (nI (n - 1)), .ref xb, .ref yb, .int 0, .int nc, .ref za, .ref ua, .ref wa, .int hz, .ref va])), (xb, .inl (cI, 20, .inl x)), (yb, .inl (cI, 20, .inl y))] := hD
          exact W.vret hx hb hr (q_retm hP hS) hS.2.2 dX4_remove_78
        · rw [r_rem, if_pos c26] at hF
          refine lv_aload_n hx hb dX4_remove_29 rfl (lv_at hl 0 rfl) ?_
          refine va_get (D := (dC, dI)) (ci := 4) (v := .ref xb) (C := RX4) (T := TX4) (N := 11) hx hb hts (by decide +kernel) hown hK hP 0 rfl rfl 2 (by decide) (hts (.fieldLink RX4 7 "CircleCellsModel" "x" "[I") (by decide +kernel)) (fun _ h9 => h9) rfl dX4_remove_30 ?_
          refine lv_iload_n hx hb dX4_remove_33 rfl (lv_at hl 2 rfl) ?_
          refine lv_aload_n hx hb dX4_remove_34 rfl (lv_at hl 0 rfl) ?_
          refine va_get (D := (dC, dI)) (ci := 4) (v := .ref xb) (C := RX4) (T := TX4) (N := 11) hx hb hts (by decide +kernel) hown hK hP 0 rfl rfl 2 (by decide) (hts (.fieldLink RX4 7 "CircleCellsModel" "x" "[I") (by decide +kernel)) (fun _ h9 => h9) rfl dX4_remove_35 ?_
          refine lv_iload_n hx hb dX4_remove_38 rfl (lv_at hl 2 rfl) ?_
          refine lv_iconst (v := nI 1) hx hb dX4_remove_39 (by decide) ?_
          refine q_iadd hx hb dX4_remove_40 ?_
          refine q_iald hx hb hK hP 1 0 rfl rfl (t + 1) rfl (by omega) (by decide) dX4_remove_41 ?_
          refine q_iast (ws' := [(o0, .inr (4, [.int 0, .int (nI n), .ref xb, .ref yb, .int md, .int nc, .ref za, .ref ua, .ref wa, .int hz, .ref va])), (xb, .inl (cI, 20, .inl (upd x t (x (t + 1))))), (yb, .inl (cI, 20, .inl y))]) hx hb hK hP hD hS 1 0 rfl rfl (t) rfl (by omega) (by decide) dX4_remove_42 rfl (fun H locs hP hD hS => ?_)
          refine lv_aload_n hx hb dX4_remove_43 rfl (lv_at hl 0 rfl) ?_
          refine va_get (D := (dC, dI)) (ci := 4) (v := .ref yb) (C := RX4) (T := TX4) (N := 11) hx hb hts (by decide +kernel) hown hK hP 0 rfl rfl 3 (by decide) (hts (.fieldLink RX4 13 "CircleCellsModel" "y" "[I") (by decide +kernel)) (fun _ h9 => h9) rfl dX4_remove_44 ?_
          refine lv_iload_n hx hb dX4_remove_47 rfl (lv_at hl 2 rfl) ?_
          refine lv_aload_n hx hb dX4_remove_48 rfl (lv_at hl 0 rfl) ?_
          refine va_get (D := (dC, dI)) (ci := 4) (v := .ref yb) (C := RX4) (T := TX4) (N := 11) hx hb hts (by decide +kernel) hown hK hP 0 rfl rfl 3 (by decide) (hts (.fieldLink RX4 13 "CircleCellsModel" "y" "[I") (by decide +kernel)) (fun _ h9 => h9) rfl dX4_remove_49 ?_
          refine lv_iload_n hx hb dX4_remove_52 rfl (lv_at hl 2 rfl) ?_
          refine lv_iconst (v := nI 1) hx hb dX4_remove_53 (by decide) ?_
          refine q_iadd hx hb dX4_remove_54 ?_
          refine q_iald hx hb hK hP 2 0 rfl rfl (t + 1) rfl (by omega) (by decide) dX4_remove_55 ?_
          refine q_iast (ws' := [(o0, .inr (4, [.int 0, .int (nI n), .ref xb, .ref yb, .int md, .int nc, .ref za, .ref ua, .ref wa, .int hz, .ref va])), (xb, .inl (cI, 20, .inl (upd x t (x (t + 1))))), (yb, .inl (cI, 20, .inl (upd y t (y (t + 1)))))]) hx hb hK hP hD hS 2 0 rfl rfl (t) rfl (by omega) (by decide) dX4_remove_56 rfl (fun H locs hP hD hS => ?_)
          refine lv_iinc (v := nI (t + 1)) (lv' := [(2, .int (nI (t + 1))), (0, .ref o0), (1, .int (nI k))]) hx hb dX4_remove_57 hl (k := 2) rfl (by rw [show Int32.ofInt 1 = 1 from rfl]; exact nI_1 _) (by decide) rfl (fun ls hl => ?_)
          refine lv_goto (tgt := 19) hx hb dX4_remove_60 (by decide) ?_
          exact ih_loop (upd x t (x (t + 1))) (upd y t (y (t + 1))) (t + 1) R H locs ls (by omega) (by omega) hF hP hD hS (lv_sub hl [1, 2, 0] rfl)
    exact loop (n + 1) x y k R _ _ ls (by omega) (by omega) hR hP hD hS (lv_sub hl [1, 2, 0] rfl)
  · have c13 : r_out w (nI n) = true := by rw [Bool.or_false] at c13; exact c13
    rw [r_remR, if_pos c13] at hR
    subst hR
    rw [c13] at hP
    exact W.vret hx hb hr (q_retm hP hS) hS.2.2 dX4_remove_16
set_option maxHeartbeats 4000000 in
set_option maxRecDepth 100000 in
theorem c_X4_move (l : Launch) (dC : Nat → ClassId) (dI : Nat → Nat → Nat) (o0 xb yb za ua wa va : Nat) (cI : ClassId) (th md nc hz : Int32) (x y : Nat → Int32) (n : Nat) (w px py : Int32) (ln : n ≤ 20) (R : Int32 × (Nat → Int32) × (Nat → Int32) × Int32) (hR : r_movR x y n w px py md = R) : Met l yX4_move wsX4_move ({ frames := 1, cells := 0, slots := 0, locals := 25 }) (q_Pm (dC, dI) [.ref o0, .int w, .int px, .int py] [(o0, .inr (4, [.int th, .int (nI n), .ref xb, .ref yb, .int md, .int nc, .ref za, .ref ua, .ref wa, .int hz, .ref va])), (xb, .inl (cI, 20, .inl x)), (yb, .inl (cI, 20, .inl y))] [(cI, .int)]) (q_Qm (dC, dI) (q_in [(o0, .inr (4, [.int th, .int (nI n), .ref xb, .ref yb, .int md, .int nc, .ref za, .ref ua, .ref wa, .int hz, .ref va])), (xb, .inl (cI, 20, .inl x)), (yb, .inl (cI, 20, .inl y))]) none [(o0, .inr (4, [.int R.1, .int (nI n), .ref xb, .ref yb, .int R.2.2.2, .int nc, .ref za, .ref ua, .ref wa, .int hz, .ref va])), (xb, .inl (cI, 20, .inl R.2.1)), (yb, .inl (cI, 20, .inl R.2.2.1))]) 0 0 (q_in [(o0, .inr (4, [.int th, .int (nI n), .ref xb, .ref yb, .int md, .int nc, .ref za, .ref ua, .ref wa, .int hz, .ref va])), (xb, .inl (cI, 20, .inl x)), (yb, .inl (cI, 20, .inl y))]) := by
  refine Met.ofW (cc := cX4_move) (maxL := 4) (ret := none) (by decide) rfl ?_
  intro p e s m args below meth c s₁ B hml hv
  obtain ⟨rfl, hP, hK, hD0⟩ := hv
  have hx := B.exec
  have hb := B.bytes
  have hr := B.returns
  have hts := atoms_spec (ws := wsX4_move) B.pre
  have hown : s.vm.findClass RX4 = some m.cls := findClass_of_methodNamed B.named
  have hlocks := B.notSynchronized
  have hD := q_inD hD0
  generalize hAe : q_in [(o0, .inr (4, [.int th, .int (nI n), .ref xb, .ref yb, .int md, .int nc, .ref za, .ref ua, .ref wa, .int hz, .ref va])), (xb, .inl (cI, 20, .inl x)), (yb, .inl (cI, 20, .inl y))] = A at hD ⊢
  have hS : va_S A s.heap s.heap [] := va_S.rf
  have hP : va_P (dC, dI) vwCl [(o0, .inr (4, [.int th, .int (nI n), .ref xb, .ref yb, .int md, .int nc, .ref za, .ref ua, .ref wa, .int hz, .ref va])), (xb, .inl (cI, 20, .inl x)), (yb, .inl (cI, 20, .inl y))] s.heap := hP
  have hl := lv_entry ([.ref o0, .int w, .int px, .int py]) (n := 4) (Nat.le_of_ble_eq_true rfl)
  rw [lg_entry_eq]
  generalize (lg_sl ([.ref o0, .int w, .int px, .int py]) ++ List.replicate (4 - (lg_sl ([.ref o0, .int w, .int px, .int py])).length) Slot.unset).toArray = ls at hl ⊢
  have hl : lv_has ls 4 [(0, .ref o0), (1, .int w), (2, .int px), (3, .int py)] := hl
  refine lv_aload_n hx hb dX4_move_0 rfl (lv_at hl 0 rfl) ?_
  refine lv_iload_n hx hb dX4_move_1 rfl (lv_at hl 1 rfl) ?_
  refine lv_aload_n hx hb dX4_move_2 rfl (lv_at hl 0 rfl) ?_
  refine va_get (D := (dC, dI)) (ci := 4) (v := .int (nI n)) (C := RX4) (T := TX4) (N := 11) hx hb hts (by decide +kernel) hown hK hP 0 rfl rfl 1 (by decide) (hts (.fieldLink RX4 32 "CircleCellsModel" "sites" "I") (by decide +kernel)) (fun _ h9 => h9) rfl dX4_move_3 ?_
  refine q_cS (As := [.int w, .int (nI n)]) (rest := [.ref o0]) ⟨hx, hb, hml, hown, hts⟩ (c_X4_out l dC dI w (nI n)) (va_cwS 2 hts gX4_move_X4_out rfl rfl rfl (by decide +kernel) ⟨Nat.le_of_ble_eq_true rfl, Nat.le_of_ble_eq_true rfl⟩) (q_pS hK hP [] [] rfl rfl rfl) rfl hl.1 rfl (Nat.le_of_ble_eq_true rfl) ⟨Nat.zero_le _, Nat.zero_le _⟩ dX4_move_6 ?_
  refine q_ifb_ne (tgt := 30) hx hb dX4_move_9 (by decide) (fun c9 => ?_) (fun c9 => ?_)
  · rw [r_movR, if_pos c9] at hR
    subst hR
    refine lv_iconst (v := bI true) hx hb dX4_move_30 (by decide) ?_
    refine lv_goto (tgt := 35) hx hb dX4_move_31 (by decide) ?_
    refine lv_iconst (v := bI false) hx hb dX4_move_35 (by decide) ?_
    refine q_mV (wc' := [(o0, .inr (4, [.int (r_thr true false), .int (nI n), .ref xb, .ref yb, .int md, .int nc, .ref za, .ref ua, .ref wa, .int hz, .ref va]))]) (wsN := [(o0, .inr (4, [.int (r_thr true false), .int (nI n), .ref xb, .ref yb, .int md, .int nc, .ref za, .ref ua, .ref wa, .int hz, .ref va])), (xb, .inl (cI, 20, .inl x)), (yb, .inl (cI, 20, .inl y))]) (As := [.int (bI true), .int (bI false)]) (rest := []) ⟨hx, hb, hml, hown, hts⟩ (c_X4_throwing l dC dI o0 xb yb za ua wa va (by omega) th (nI n) md nc hz true false) (cwV 2 hts gX4_move_X4_throwing rfl rfl rfl (by decide +kernel) ⟨Nat.le_of_ble_eq_true rfl, Nat.le_of_ble_eq_true rfl⟩) hK hP hD hS [0] [] 4 0 rfl rfl rfl rfl rfl rfl rfl rfl rfl hl.1 rfl (Nat.le_of_ble_eq_true rfl) ⟨Nat.zero_le _, Nat.zero_le _⟩ dX4_move_36 rfl (fun H locs hP hD hS => ?_)
    refine W.eq (g2 := F0 m 39 ls [.int (bI (true || false))]) rfl ?_
    refine q_ifb_eq (tgt := 43) hx hb dX4_move_39 (by decide) (fun c39 => ?_) (fun c39 => ?_)
    · exact absurd c39 (by decide)
    · exact W.vret hx hb hr (q_retm hP hS) hS.2.2 dX4_move_42
  · rw [r_movR, if_neg (by rw [c9]; decide)] at hR
    refine lv_iload_n hx hb dX4_move_12 rfl (lv_at hl 2 rfl) ?_
    refine lv_iload_n hx hb dX4_move_13 rfl (lv_at hl 3 rfl) ?_
    refine q_cS (As := [.int px, .int py]) (rest := [.ref o0]) ⟨hx, hb, hml, hown, hts⟩ (c_X4_isFar l dC dI px py) (va_cwS 2 hts gX4_move_X4_isFar rfl rfl rfl (by decide +kernel) ⟨Nat.le_of_ble_eq_true rfl, Nat.le_of_ble_eq_true rfl⟩) (q_pS hK hP [] [] rfl rfl rfl) rfl hl.1 rfl (Nat.le_of_ble_eq_true rfl) ⟨Nat.zero_le _, Nat.zero_le _⟩ dX4_move_14 ?_
    refine q_ifb_ne (tgt := 30) hx hb dX4_move_17 (by decide) (fun c17 => ?_) (fun c17 => ?_)
    · rw [if_pos c17] at hR
      subst hR
      refine lv_iconst (v := bI true) hx hb dX4_move_30 (by decide) ?_
      refine lv_goto (tgt := 35) hx hb dX4_move_31 (by decide) ?_
      refine lv_iconst (v := bI false) hx hb dX4_move_35 (by decide) ?_
      refine q_mV (wc' := [(o0, .inr (4, [.int (r_thr true false), .int (nI n), .ref xb, .ref yb, .int md, .int nc, .ref za, .ref ua, .ref wa, .int hz, .ref va]))]) (wsN := [(o0, .inr (4, [.int (r_thr true false), .int (nI n), .ref xb, .ref yb, .int md, .int nc, .ref za, .ref ua, .ref wa, .int hz, .ref va])), (xb, .inl (cI, 20, .inl x)), (yb, .inl (cI, 20, .inl y))]) (As := [.int (bI true), .int (bI false)]) (rest := []) ⟨hx, hb, hml, hown, hts⟩ (c_X4_throwing l dC dI o0 xb yb za ua wa va (by omega) th (nI n) md nc hz true false) (cwV 2 hts gX4_move_X4_throwing rfl rfl rfl (by decide +kernel) ⟨Nat.le_of_ble_eq_true rfl, Nat.le_of_ble_eq_true rfl⟩) hK hP hD hS [0] [] 4 0 rfl rfl rfl rfl rfl rfl rfl rfl rfl hl.1 rfl (Nat.le_of_ble_eq_true rfl) ⟨Nat.zero_le _, Nat.zero_le _⟩ dX4_move_36 rfl (fun H locs hP hD hS => ?_)
      refine W.eq (g2 := F0 m 39 ls [.int (bI (true || false))]) rfl ?_
      refine q_ifb_eq (tgt := 43) hx hb dX4_move_39 (by decide) (fun c39 => ?_) (fun c39 => ?_)
      · exact absurd c39 (by decide)
      · exact W.vret hx hb hr (q_retm hP hS) hS.2.2 dX4_move_42
    · rw [if_neg (by rw [c17]; decide)] at hR
      refine lv_aload_n hx hb dX4_move_20 rfl (lv_at hl 0 rfl) ?_
      refine lv_iload_n hx hb dX4_move_21 rfl (lv_at hl 2 rfl) ?_
      refine lv_iload_n hx hb dX4_move_22 rfl (lv_at hl 3 rfl) ?_
      refine lv_iload_n hx hb dX4_move_23 rfl (lv_at hl 1 rfl) ?_
      refine q_cV (As := [.int px, .int py, .int w]) (rest := [.ref o0]) ⟨hx, hb, hml, hown, hts⟩ (c_X4_isTaken l dC dI o0 xb yb za ua wa va cI th md nc hz x y n px py w (by omega)) (cwV 3 hts gX4_move_X4_isTaken rfl rfl rfl (by decide +kernel) ⟨Nat.le_of_ble_eq_true rfl, Nat.le_of_ble_eq_true rfl⟩) (q_pV hK hP [0, 1, 2] [0] 4 0 rfl rfl rfl rfl rfl rfl) rfl hl.1 rfl (Nat.le_of_ble_eq_true rfl) ⟨Nat.zero_le _, Nat.zero_le _⟩ dX4_move_24 ?_
      refine q_ifb_eq (tgt := 34) hx hb dX4_move_27 (by decide) (fun c27 => ?_) (fun c27 => ?_)
      · rw [if_neg (by rw [c27]; decide)] at hR
        refine lv_iconst (v := bI false) hx hb dX4_move_34 (by decide) ?_
        refine lv_iconst (v := bI false) hx hb dX4_move_35 (by decide) ?_
        refine q_mV (wc' := [(o0, .inr (4, [.int (r_thr false false), .int (nI n), .ref xb, .ref yb, .int md, .int nc, .ref za, .ref ua, .ref wa, .int hz, .ref va]))]) (wsN := [(o0, .inr (4, [.int (r_thr false false), .int (nI n), .ref xb, .ref yb, .int md, .int nc, .ref za, .ref ua, .ref wa, .int hz, .ref va])), (xb, .inl (cI, 20, .inl x)), (yb, .inl (cI, 20, .inl y))]) (As := [.int (bI false), .int (bI false)]) (rest := []) ⟨hx, hb, hml, hown, hts⟩ (c_X4_throwing l dC dI o0 xb yb za ua wa va (by omega) th (nI n) md nc hz false false) (cwV 2 hts gX4_move_X4_throwing rfl rfl rfl (by decide +kernel) ⟨Nat.le_of_ble_eq_true rfl, Nat.le_of_ble_eq_true rfl⟩) hK hP hD hS [0] [] 4 0 rfl rfl rfl rfl rfl rfl rfl rfl rfl hl.1 rfl (Nat.le_of_ble_eq_true rfl) ⟨Nat.zero_le _, Nat.zero_le _⟩ dX4_move_36 rfl (fun H locs hP hD hS => ?_)
        refine W.eq (g2 := F0 m 39 ls [.int (bI (false || false))]) rfl ?_
        refine q_ifb_eq (tgt := 43) hx hb dX4_move_39 (by decide) (fun c39 => ?_) (fun c39 => ?_)
        · obtain ⟨k, hk, rfl⟩ := r_out_f (by omega) c9
          rw [nI_clamp (by omega)] at hR
          subst hR
          refine lv_aload_n hx hb dX4_move_43 rfl (lv_at hl 0 rfl) ?_
          refine va_get (D := (dC, dI)) (ci := 4) (v := .ref xb) (C := RX4) (T := TX4) (N := 11) hx hb hts (by decide +kernel) hown hK hP 0 rfl rfl 2 (by decide) (hts (.fieldLink RX4 7 "CircleCellsModel" "x" "[I") (by decide +kernel)) (fun _ h9 => h9) rfl dX4_move_44 ?_
          refine lv_iload_n hx hb dX4_move_47 rfl (lv_at hl 1 rfl) ?_
          refine lv_iload_n hx hb dX4_move_48 rfl (lv_at hl 2 rfl) ?_
          refine q_iast (ws' := [(o0, .inr (4, [.int (r_thr false false), .int (nI n), .ref xb, .ref yb, .int md, .int nc, .ref za, .ref ua, .ref wa, .int hz, .ref va])), (xb, .inl (cI, 20, .inl (upd x k px))), (yb, .inl (cI, 20, .inl y))]) hx hb hK hP hD hS 1 0 rfl rfl (k) rfl (by omega) (by decide) dX4_move_49 rfl (fun H locs hP hD hS => ?_)
          refine lv_aload_n hx hb dX4_move_50 rfl (lv_at hl 0 rfl) ?_
          refine va_get (D := (dC, dI)) (ci := 4) (v := .ref yb) (C := RX4) (T := TX4) (N := 11) hx hb hts (by decide +kernel) hown hK hP 0 rfl rfl 3 (by decide) (hts (.fieldLink RX4 13 "CircleCellsModel" "y" "[I") (by decide +kernel)) (fun _ h9 => h9) rfl dX4_move_51 ?_
          refine lv_iload_n hx hb dX4_move_54 rfl (lv_at hl 1 rfl) ?_
          refine lv_iload_n hx hb dX4_move_55 rfl (lv_at hl 3 rfl) ?_
          refine q_iast (ws' := [(o0, .inr (4, [.int (r_thr false false), .int (nI n), .ref xb, .ref yb, .int md, .int nc, .ref za, .ref ua, .ref wa, .int hz, .ref va])), (xb, .inl (cI, 20, .inl (upd x k px))), (yb, .inl (cI, 20, .inl (upd y k py)))]) hx hb hK hP hD hS 2 0 rfl rfl (k) rfl (by omega) (by decide) dX4_move_56 rfl (fun H locs hP hD hS => ?_)
          refine lv_aload_n hx hb dX4_move_57 rfl (lv_at hl 0 rfl) ?_
          refine lv_iconst (v := 0) hx hb dX4_move_58 (by decide) ?_
          refine va_put (D := (dC, dI)) (ci := 4) (v := .int 0) (ty := .boolean) (C := RX4) (T := TX4) (N := 11) hx hb hts (by decide +kernel) tyX4 tyX4_ok nmX4 hown hK hP hD hS 0 rfl rfl 4 (by decide) (hts (.fieldLink RX4 47 "CircleCellsModel" "made" "Z") (by decide +kernel)) (fun _ h9 => h9) rfl (by decide +kernel) rfl rfl (Nat.le_of_ble_eq_true rfl) dX4_move_59 (fun H locs hP hD hS => ?_)
          have hP : va_P (dC, dI) vwCl [(o0, .inr (4, [.int (r_thr false false), .int (nI n), .ref xb, .ref yb, .int 0, .int nc, .ref za, .ref ua, .ref wa, .int hz, .ref va])), (xb, .inl (cI, 20, .inl (upd x k px))), (yb, .inl (cI, 20, .inl (upd y k py)))] H := hP
          have hD : va_D A [(o0, .inr (4, [.int (r_thr false false), .int (nI n), .ref xb, .ref yb, .int 0, .int nc, .ref za, .ref ua, .ref wa, .int hz, .ref va])), (xb, .inl (cI, 20, .inl (upd x k px))), (yb, .inl (cI, 20, .inl (upd y k py)))] := hD
          exact W.vret hx hb hr (q_retm hP hS) hS.2.2 dX4_move_62
        · exact absurd c39 (by decide)
      · rw [if_pos c27] at hR
        subst hR
        refine lv_iconst (v := bI true) hx hb dX4_move_30 (by decide) ?_
        refine lv_goto (tgt := 35) hx hb dX4_move_31 (by decide) ?_
        refine lv_iconst (v := bI false) hx hb dX4_move_35 (by decide) ?_
        refine q_mV (wc' := [(o0, .inr (4, [.int (r_thr true false), .int (nI n), .ref xb, .ref yb, .int md, .int nc, .ref za, .ref ua, .ref wa, .int hz, .ref va]))]) (wsN := [(o0, .inr (4, [.int (r_thr true false), .int (nI n), .ref xb, .ref yb, .int md, .int nc, .ref za, .ref ua, .ref wa, .int hz, .ref va])), (xb, .inl (cI, 20, .inl x)), (yb, .inl (cI, 20, .inl y))]) (As := [.int (bI true), .int (bI false)]) (rest := []) ⟨hx, hb, hml, hown, hts⟩ (c_X4_throwing l dC dI o0 xb yb za ua wa va (by omega) th (nI n) md nc hz true false) (cwV 2 hts gX4_move_X4_throwing rfl rfl rfl (by decide +kernel) ⟨Nat.le_of_ble_eq_true rfl, Nat.le_of_ble_eq_true rfl⟩) hK hP hD hS [0] [] 4 0 rfl rfl rfl rfl rfl rfl rfl rfl rfl hl.1 rfl (Nat.le_of_ble_eq_true rfl) ⟨Nat.zero_le _, Nat.zero_le _⟩ dX4_move_36 rfl (fun H locs hP hD hS => ?_)
        refine W.eq (g2 := F0 m 39 ls [.int (bI (true || false))]) rfl ?_
        refine q_ifb_eq (tgt := 43) hx hb dX4_move_39 (by decide) (fun c39 => ?_) (fun c39 => ?_)
        · exact absurd c39 (by decide)
        · exact W.vret hx hb hr (q_retm hP hS) hS.2.2 dX4_move_42
set_option maxHeartbeats 4000000 in
set_option maxRecDepth 100000 in
theorem c_X4_clear (l : Launch) (dC : Nat → ClassId) (dI : Nat → Nat → Nat) (o0 xb yb za ua wa va : Nat) (cI : ClassId) (th ns md nc hz : Int32) : Met l yX4_clear wsX4_clear ({ frames := 0, cells := 0, slots := 0, locals := 0 }) (q_Pm (dC, dI) [.ref o0] [(o0, .inr (4, [.int th, .int ns, .ref xb, .ref yb, .int md, .int nc, .ref za, .ref ua, .ref wa, .int hz, .ref va]))] []) (q_Qm (dC, dI) (q_in [(o0, .inr (4, [.int th, .int ns, .ref xb, .ref yb, .int md, .int nc, .ref za, .ref ua, .ref wa, .int hz, .ref va]))]) none [(o0, .inr (4, [.int 0, .int (nI 0), .ref xb, .ref yb, .int 0, .int nc, .ref za, .ref ua, .ref wa, .int hz, .ref va]))]) 0 0 (q_in [(o0, .inr (4, [.int th, .int ns, .ref xb, .ref yb, .int md, .int nc, .ref za, .ref ua, .ref wa, .int hz, .ref va]))]) := by
  refine Met.ofW (cc := cX4_clear) (maxL := 1) (ret := none) (by decide) rfl ?_
  intro p e s m args below meth c s₁ B hml hv
  obtain ⟨rfl, hP, hK, hD0⟩ := hv
  have hx := B.exec
  have hb := B.bytes
  have hr := B.returns
  have hts := atoms_spec (ws := wsX4_clear) B.pre
  have hown : s.vm.findClass RX4 = some m.cls := findClass_of_methodNamed B.named
  have hlocks := B.notSynchronized
  have hD := q_inD hD0
  generalize hAe : q_in [(o0, .inr (4, [.int th, .int ns, .ref xb, .ref yb, .int md, .int nc, .ref za, .ref ua, .ref wa, .int hz, .ref va]))] = A at hD ⊢
  have hS : va_S A s.heap s.heap [] := va_S.rf
  have hP : va_P (dC, dI) vwCl [(o0, .inr (4, [.int th, .int ns, .ref xb, .ref yb, .int md, .int nc, .ref za, .ref ua, .ref wa, .int hz, .ref va]))] s.heap := hP
  have hl := lv_entry ([.ref o0]) (n := 1) (Nat.le_of_ble_eq_true rfl)
  rw [lg_entry_eq]
  generalize (lg_sl ([.ref o0]) ++ List.replicate (1 - (lg_sl ([.ref o0])).length) Slot.unset).toArray = ls at hl ⊢
  have hl : lv_has ls 1 [(0, .ref o0)] := hl
  refine lv_aload_n hx hb dX4_clear_0 rfl (lv_at hl 0 rfl) ?_
  refine lv_iconst (v := 0) hx hb dX4_clear_1 (by decide) ?_
  refine va_put (D := (dC, dI)) (ci := 4) (v := .int 0) (ty := .int) (C := RX4) (T := TX4) (N := 11) hx hb hts (by decide +kernel) tyX4 tyX4_ok nmX4 hown hK hP hD hS 0 rfl rfl 0 (by decide) (hts (.fieldLink RX4 28 "CircleCellsModel" "thrown" "I") (by decide +kernel)) (fun _ h9 => h9) rfl (by decide +kernel) rfl rfl (Nat.le_of_ble_eq_true rfl) dX4_clear_2 (fun H locs hP hD hS => ?_)
  have hP : va_P (dC, dI) vwCl [(o0, .inr (4, [.int 0, .int ns, .ref xb, .ref yb, .int md, .int nc, .ref za, .ref ua, .ref wa, .int hz, .ref va]))] H := hP
  have hD : va_D A [(o0, .inr (4, [.int 0, .int ns, .ref xb, .ref yb, .int md, .int nc, .ref za, .ref ua, .ref wa, .int hz, .ref va]))] := hD
  refine lv_aload_n hx hb dX4_clear_5 rfl (lv_at hl 0 rfl) ?_
  refine lv_iconst (v := nI 0) hx hb dX4_clear_6 (by decide) ?_
  refine va_put (D := (dC, dI)) (ci := 4) (v := .int (nI 0)) (ty := .int) (C := RX4) (T := TX4) (N := 11) hx hb hts (by decide +kernel) tyX4 tyX4_ok nmX4 hown hK hP hD hS 0 rfl rfl 1 (by decide) (hts (.fieldLink RX4 32 "CircleCellsModel" "sites" "I") (by decide +kernel)) (fun _ h9 => h9) rfl (by decide +kernel) rfl rfl (Nat.le_of_ble_eq_true rfl) dX4_clear_7 (fun H locs hP hD hS => ?_)
  have hP : va_P (dC, dI) vwCl [(o0, .inr (4, [.int 0, .int (nI 0), .ref xb, .ref yb, .int md, .int nc, .ref za, .ref ua, .ref wa, .int hz, .ref va]))] H := hP
  have hD : va_D A [(o0, .inr (4, [.int 0, .int (nI 0), .ref xb, .ref yb, .int md, .int nc, .ref za, .ref ua, .ref wa, .int hz, .ref va]))] := hD
  refine lv_aload_n hx hb dX4_clear_10 rfl (lv_at hl 0 rfl) ?_
  refine lv_iconst (v := 0) hx hb dX4_clear_11 (by decide) ?_
  refine va_put (D := (dC, dI)) (ci := 4) (v := .int 0) (ty := .boolean) (C := RX4) (T := TX4) (N := 11) hx hb hts (by decide +kernel) tyX4 tyX4_ok nmX4 hown hK hP hD hS 0 rfl rfl 4 (by decide) (hts (.fieldLink RX4 47 "CircleCellsModel" "made" "Z") (by decide +kernel)) (fun _ h9 => h9) rfl (by decide +kernel) rfl rfl (Nat.le_of_ble_eq_true rfl) dX4_clear_12 (fun H locs hP hD hS => ?_)
  have hP : va_P (dC, dI) vwCl [(o0, .inr (4, [.int 0, .int (nI 0), .ref xb, .ref yb, .int 0, .int nc, .ref za, .ref ua, .ref wa, .int hz, .ref va]))] H := hP
  have hD : va_D A [(o0, .inr (4, [.int 0, .int (nI 0), .ref xb, .ref yb, .int 0, .int nc, .ref za, .ref ua, .ref wa, .int hz, .ref va]))] := hD
  exact W.vret hx hb hr (q_retm hP hS) hS.2.2 dX4_clear_15
set_option maxHeartbeats 4000000 in
set_option maxRecDepth 100000 in
theorem c_X4_where (l : Launch) (dC : Nat → ClassId) (dI : Nat → Nat → Nat) (o0 xb yb za ua wa va : Nat) (cI : ClassId) (th md nc hz : Int32) (x y : Nat → Int32) (n : Nat) (w t : Int32) (ln : n ≤ 20) (R : Int32 × Int32) (hR : r_wheR x y n w t = R) : Met l yX4_where wsX4_where ({ frames := 1, cells := 0, slots := 0, locals := 25 }) (q_Pm (dC, dI) [.ref o0, .int w, .int t] [(o0, .inr (4, [.int th, .int (nI n), .ref xb, .ref yb, .int md, .int nc, .ref za, .ref ua, .ref wa, .int hz, .ref va])), (xb, .inl (cI, 20, .inl x)), (yb, .inl (cI, 20, .inl y))] [(cI, .int)]) (q_Qm (dC, dI) (q_in [(o0, .inr (4, [.int th, .int (nI n), .ref xb, .ref yb, .int md, .int nc, .ref za, .ref ua, .ref wa, .int hz, .ref va])), (xb, .inl (cI, 20, .inl x)), (yb, .inl (cI, 20, .inl y))]) (some (.int R.1)) [(o0, .inr (4, [.int R.2, .int (nI n), .ref xb, .ref yb, .int md, .int nc, .ref za, .ref ua, .ref wa, .int hz, .ref va])), (xb, .inl (cI, 20, .inl x)), (yb, .inl (cI, 20, .inl y))]) 0 0 (q_in [(o0, .inr (4, [.int th, .int (nI n), .ref xb, .ref yb, .int md, .int nc, .ref za, .ref ua, .ref wa, .int hz, .ref va])), (xb, .inl (cI, 20, .inl x)), (yb, .inl (cI, 20, .inl y))]) := by
  refine Met.ofW (cc := cX4_where) (maxL := 3) (ret := (some .int)) (by decide) rfl ?_
  intro p e s m args below meth c s₁ B hml hv
  obtain ⟨rfl, hP, hK, hD0⟩ := hv
  have hx := B.exec
  have hb := B.bytes
  have hr := B.returns
  have hts := atoms_spec (ws := wsX4_where) B.pre
  have hown : s.vm.findClass RX4 = some m.cls := findClass_of_methodNamed B.named
  have hlocks := B.notSynchronized
  have hD := q_inD hD0
  generalize hAe : q_in [(o0, .inr (4, [.int th, .int (nI n), .ref xb, .ref yb, .int md, .int nc, .ref za, .ref ua, .ref wa, .int hz, .ref va])), (xb, .inl (cI, 20, .inl x)), (yb, .inl (cI, 20, .inl y))] = A at hD ⊢
  have hS : va_S A s.heap s.heap [] := va_S.rf
  have hP : va_P (dC, dI) vwCl [(o0, .inr (4, [.int th, .int (nI n), .ref xb, .ref yb, .int md, .int nc, .ref za, .ref ua, .ref wa, .int hz, .ref va])), (xb, .inl (cI, 20, .inl x)), (yb, .inl (cI, 20, .inl y))] s.heap := hP
  have hl := lv_entry ([.ref o0, .int w, .int t]) (n := 3) (Nat.le_of_ble_eq_true rfl)
  rw [lg_entry_eq]
  generalize (lg_sl ([.ref o0, .int w, .int t]) ++ List.replicate (3 - (lg_sl ([.ref o0, .int w, .int t])).length) Slot.unset).toArray = ls at hl ⊢
  have hl : lv_has ls 3 [(0, .ref o0), (1, .int w), (2, .int t)] := hl
  refine lv_aload_n hx hb dX4_where_0 rfl (lv_at hl 0 rfl) ?_
  refine lv_iload_n hx hb dX4_where_1 rfl (lv_at hl 1 rfl) ?_
  refine lv_aload_n hx hb dX4_where_2 rfl (lv_at hl 0 rfl) ?_
  refine va_get (D := (dC, dI)) (ci := 4) (v := .int (nI n)) (C := RX4) (T := TX4) (N := 11) hx hb hts (by decide +kernel) hown hK hP 0 rfl rfl 1 (by decide) (hts (.fieldLink RX4 32 "CircleCellsModel" "sites" "I") (by decide +kernel)) (fun _ h9 => h9) rfl dX4_where_3 ?_
  refine q_cS (As := [.int w, .int (nI n)]) (rest := [.ref o0]) ⟨hx, hb, hml, hown, hts⟩ (c_X4_out l dC dI w (nI n)) (va_cwS 2 hts gX4_where_X4_out rfl rfl rfl (by decide +kernel) ⟨Nat.le_of_ble_eq_true rfl, Nat.le_of_ble_eq_true rfl⟩) (q_pS hK hP [] [] rfl rfl rfl) rfl hl.1 rfl (Nat.le_of_ble_eq_true rfl) ⟨Nat.zero_le _, Nat.zero_le _⟩ dX4_where_6 ?_
  refine q_ifb_ne (tgt := 20) hx hb dX4_where_9 (by decide) (fun c9 => ?_) (fun c9 => ?_)
  · rw [r_wheR, if_pos c9] at hR
    subst hR
    refine lv_iconst (v := bI true) hx hb dX4_where_20 (by decide) ?_
    refine lv_goto (tgt := 25) hx hb dX4_where_21 (by decide) ?_
    refine lv_iconst (v := bI false) hx hb dX4_where_25 (by decide) ?_
    refine q_mV (wc' := [(o0, .inr (4, [.int (r_thr true false), .int (nI n), .ref xb, .ref yb, .int md, .int nc, .ref za, .ref ua, .ref wa, .int hz, .ref va]))]) (wsN := [(o0, .inr (4, [.int (r_thr true false), .int (nI n), .ref xb, .ref yb, .int md, .int nc, .ref za, .ref ua, .ref wa, .int hz, .ref va])), (xb, .inl (cI, 20, .inl x)), (yb, .inl (cI, 20, .inl y))]) (As := [.int (bI true), .int (bI false)]) (rest := []) ⟨hx, hb, hml, hown, hts⟩ (c_X4_throwing l dC dI o0 xb yb za ua wa va (by omega) th (nI n) md nc hz true false) (cwV 2 hts gX4_where_X4_throwing rfl rfl rfl (by decide +kernel) ⟨Nat.le_of_ble_eq_true rfl, Nat.le_of_ble_eq_true rfl⟩) hK hP hD hS [0] [] 4 0 rfl rfl rfl rfl rfl rfl rfl rfl rfl hl.1 rfl (Nat.le_of_ble_eq_true rfl) ⟨Nat.zero_le _, Nat.zero_le _⟩ dX4_where_26 rfl (fun H locs hP hD hS => ?_)
    refine W.eq (g2 := F0 m 29 ls [.int (bI (true || false))]) rfl ?_
    refine q_ifb_eq (tgt := 34) hx hb dX4_where_29 (by decide) (fun c29 => ?_) (fun c29 => ?_)
    · exact absurd c29 (by decide)
    · refine lv_iconst (v := 0) hx hb dX4_where_32 (by decide) ?_
      exact W.iret (v := 0) hx hb hr (q_retm hP hS) hS.2.2 dX4_where_33
  · rw [r_wheR, if_neg (by rw [c9]; decide)] at hR
    refine lv_iload_n hx hb dX4_where_12 rfl (lv_at hl 2 rfl) ?_
    refine lv_iconst (v := 2) hx hb dX4_where_13 (by decide) ?_
    refine q_cS (As := [.int t, .int 2]) (rest := [.ref o0]) ⟨hx, hb, hml, hown, hts⟩ (c_X4_out l dC dI t 2) (va_cwS 2 hts gX4_where_X4_out rfl rfl rfl (by decide +kernel) ⟨Nat.le_of_ble_eq_true rfl, Nat.le_of_ble_eq_true rfl⟩) (q_pS hK hP [] [] rfl rfl rfl) rfl hl.1 rfl (Nat.le_of_ble_eq_true rfl) ⟨Nat.zero_le _, Nat.zero_le _⟩ dX4_where_14 ?_
    refine q_ifb_eq (tgt := 24) hx hb dX4_where_17 (by decide) (fun c17 => ?_) (fun c17 => ?_)
    · rw [if_neg (by rw [c17]; decide)] at hR
      refine lv_iconst (v := bI false) hx hb dX4_where_24 (by decide) ?_
      refine lv_iconst (v := bI false) hx hb dX4_where_25 (by decide) ?_
      refine q_mV (wc' := [(o0, .inr (4, [.int (r_thr false false), .int (nI n), .ref xb, .ref yb, .int md, .int nc, .ref za, .ref ua, .ref wa, .int hz, .ref va]))]) (wsN := [(o0, .inr (4, [.int (r_thr false false), .int (nI n), .ref xb, .ref yb, .int md, .int nc, .ref za, .ref ua, .ref wa, .int hz, .ref va])), (xb, .inl (cI, 20, .inl x)), (yb, .inl (cI, 20, .inl y))]) (As := [.int (bI false), .int (bI false)]) (rest := []) ⟨hx, hb, hml, hown, hts⟩ (c_X4_throwing l dC dI o0 xb yb za ua wa va (by omega) th (nI n) md nc hz false false) (cwV 2 hts gX4_where_X4_throwing rfl rfl rfl (by decide +kernel) ⟨Nat.le_of_ble_eq_true rfl, Nat.le_of_ble_eq_true rfl⟩) hK hP hD hS [0] [] 4 0 rfl rfl rfl rfl rfl rfl rfl rfl rfl hl.1 rfl (Nat.le_of_ble_eq_true rfl) ⟨Nat.zero_le _, Nat.zero_le _⟩ dX4_where_26 rfl (fun H locs hP hD hS => ?_)
      refine W.eq (g2 := F0 m 29 ls [.int (bI (false || false))]) rfl ?_
      refine q_ifb_eq (tgt := 34) hx hb dX4_where_29 (by decide) (fun c29 => ?_) (fun c29 => ?_)
      · obtain ⟨k, hk, rfl⟩ := r_out_f (by omega) c9
        rw [nI_clamp (by omega)] at hR
        refine lv_iload_n hx hb dX4_where_34 rfl (lv_at hl 2 rfl) ?_
        refine lv_if_ne (tgt := 47) hx hb dX4_where_35 (by decide) (fun c35 => ?_) (fun c35 => ?_)
        · rw [if_neg c35] at hR
          subst hR
          refine lv_aload_n hx hb dX4_where_47 rfl (lv_at hl 0 rfl) ?_
          refine va_get (D := (dC, dI)) (ci := 4) (v := .ref yb) (C := RX4) (T := TX4) (N := 11) hx hb hts (by decide +kernel) hown hK hP 0 rfl rfl 3 (by decide) (hts (.fieldLink RX4 13 "CircleCellsModel" "y" "[I") (by decide +kernel)) (fun _ h9 => h9) rfl dX4_where_48 ?_
          refine lv_iload_n hx hb dX4_where_51 rfl (lv_at hl 1 rfl) ?_
          refine q_iald hx hb hK hP 2 0 rfl rfl (k) rfl (by omega) (by decide) dX4_where_52 ?_
          exact W.iret (v := y k) hx hb hr (q_retm hP hS) hS.2.2 dX4_where_53
        · rw [if_pos c35] at hR
          subst hR
          refine lv_aload_n hx hb dX4_where_38 rfl (lv_at hl 0 rfl) ?_
          refine va_get (D := (dC, dI)) (ci := 4) (v := .ref xb) (C := RX4) (T := TX4) (N := 11) hx hb hts (by decide +kernel) hown hK hP 0 rfl rfl 2 (by decide) (hts (.fieldLink RX4 7 "CircleCellsModel" "x" "[I") (by decide +kernel)) (fun _ h9 => h9) rfl dX4_where_39 ?_
          refine lv_iload_n hx hb dX4_where_42 rfl (lv_at hl 1 rfl) ?_
          refine q_iald hx hb hK hP 1 0 rfl rfl (k) rfl (by omega) (by decide) dX4_where_43 ?_
          refine lv_goto (tgt := 53) hx hb dX4_where_44 (by decide) ?_
          exact W.iret (v := x k) hx hb hr (q_retm hP hS) hS.2.2 dX4_where_53
      · exact absurd c29 (by decide)
    · rw [if_pos c17] at hR
      subst hR
      refine lv_iconst (v := bI true) hx hb dX4_where_20 (by decide) ?_
      refine lv_goto (tgt := 25) hx hb dX4_where_21 (by decide) ?_
      refine lv_iconst (v := bI false) hx hb dX4_where_25 (by decide) ?_
      refine q_mV (wc' := [(o0, .inr (4, [.int (r_thr true false), .int (nI n), .ref xb, .ref yb, .int md, .int nc, .ref za, .ref ua, .ref wa, .int hz, .ref va]))]) (wsN := [(o0, .inr (4, [.int (r_thr true false), .int (nI n), .ref xb, .ref yb, .int md, .int nc, .ref za, .ref ua, .ref wa, .int hz, .ref va])), (xb, .inl (cI, 20, .inl x)), (yb, .inl (cI, 20, .inl y))]) (As := [.int (bI true), .int (bI false)]) (rest := []) ⟨hx, hb, hml, hown, hts⟩ (c_X4_throwing l dC dI o0 xb yb za ua wa va (by omega) th (nI n) md nc hz true false) (cwV 2 hts gX4_where_X4_throwing rfl rfl rfl (by decide +kernel) ⟨Nat.le_of_ble_eq_true rfl, Nat.le_of_ble_eq_true rfl⟩) hK hP hD hS [0] [] 4 0 rfl rfl rfl rfl rfl rfl rfl rfl rfl hl.1 rfl (Nat.le_of_ble_eq_true rfl) ⟨Nat.zero_le _, Nat.zero_le _⟩ dX4_where_26 rfl (fun H locs hP hD hS => ?_)
      refine W.eq (g2 := F0 m 29 ls [.int (bI (true || false))]) rfl ?_
      refine q_ifb_eq (tgt := 34) hx hb dX4_where_29 (by decide) (fun c29 => ?_) (fun c29 => ?_)
      · exact absurd c29 (by decide)
      · refine lv_iconst (v := 0) hx hb dX4_where_32 (by decide) ?_
        exact W.iret (v := 0) hx hb hr (q_retm hP hS) hS.2.2 dX4_where_33
