/-! The reference: add, surround, make -/
set_option maxHeartbeats 4000000 in
set_option maxRecDepth 100000 in
theorem c_X4_add (l : Launch) (dC : Nat → ClassId) (dI : Nat → Nat → Nat) (o0 xb yb za ua wa va : Nat) (cI : ClassId) (th md hz mk : Int32) (x y : Nat → Int32) (sz rd : Nat → Nat) (n q fi N : Nat) (ln : n ≤ 20) (lf : fi < n) (lq : q < 60) (hN0 : 0 < N) (hN : N ≤ 20) (hz1 : r_it x y n mk fi N = fi) (hne : ∀ j, 0 < j → j < N → ¬ r_it x y n mk fi j = fi) (R : Nat) (hR : N = R) : Met l yX4_add wsX4_add ({ frames := 2, cells := 0, slots := 0, locals := 49 }) (q_Pm (dC, dI) [.ref o0, .int mk, .int (nI fi)] [(o0, .inr (4, [.int th, .int (nI n), .ref xb, .ref yb, .int md, .int (nI q), .ref za, .ref ua, .ref wa, .int hz, .ref va])), (xb, .inl (cI, 20, .inl x)), (yb, .inl (cI, 20, .inl y)), (za, .inl (cI, 60, .inl (fun j9 => nI (sz j9)))), (ua, .inl (cI, 1200, .inl (fun j9 => nI (rd j9))))] [(cI, .int)]) (q_Qm (dC, dI) (q_in [(o0, .inr (4, [.int th, .int (nI n), .ref xb, .ref yb, .int md, .int (nI q), .ref za, .ref ua, .ref wa, .int hz, .ref va])), (xb, .inl (cI, 20, .inl x)), (yb, .inl (cI, 20, .inl y)), (za, .inl (cI, 60, .inl (fun j9 => nI (sz j9)))), (ua, .inl (cI, 1200, .inl (fun j9 => nI (rd j9))))]) none [(o0, .inr (4, [.int th, .int (nI n), .ref xb, .ref yb, .int md, .int (nI (q + 1)), .ref za, .ref ua, .ref wa, .int hz, .ref va])), (xb, .inl (cI, 20, .inl x)), (yb, .inl (cI, 20, .inl y)), (za, .inl (cI, 60, .inl (fun j9 => nI ((updN sz q N) j9)))), (ua, .inl (cI, 1200, .inl (fun j9 => nI ((r_row x y n mk fi rd q N) j9))))]) 0 0 (q_in [(o0, .inr (4, [.int th, .int (nI n), .ref xb, .ref yb, .int md, .int (nI q), .ref za, .ref ua, .ref wa, .int hz, .ref va])), (xb, .inl (cI, 20, .inl x)), (yb, .inl (cI, 20, .inl y)), (za, .inl (cI, 60, .inl (fun j9 => nI (sz j9)))), (ua, .inl (cI, 1200, .inl (fun j9 => nI (rd j9))))]) := by
  refine Met.ofW (cc := cX4_add) (maxL := 5) (ret := none) (by decide) rfl ?_
  intro p e s m args below meth c s₁ B hml hv
  obtain ⟨rfl, hP, hK, hD0⟩ := hv
  have hx := B.exec
  have hb := B.bytes
  have hr := B.returns
  have hts := atoms_spec (ws := wsX4_add) B.pre
  have hown : s.vm.findClass RX4 = some m.cls := findClass_of_methodNamed B.named
  have hlocks := B.notSynchronized
  have hD := q_inD hD0
  generalize hAe : q_in [(o0, .inr (4, [.int th, .int (nI n), .ref xb, .ref yb, .int md, .int (nI q), .ref za, .ref ua, .ref wa, .int hz, .ref va])), (xb, .inl (cI, 20, .inl x)), (yb, .inl (cI, 20, .inl y)), (za, .inl (cI, 60, .inl (fun j9 => nI (sz j9)))), (ua, .inl (cI, 1200, .inl (fun j9 => nI (rd j9))))] = A at hD ⊢
  have hS : va_S A s.heap s.heap [] := va_S.rf
  have hP : va_P (dC, dI) vwCl [(o0, .inr (4, [.int th, .int (nI n), .ref xb, .ref yb, .int md, .int (nI q), .ref za, .ref ua, .ref wa, .int hz, .ref va])), (xb, .inl (cI, 20, .inl x)), (yb, .inl (cI, 20, .inl y)), (za, .inl (cI, 60, .inl (fun j9 => nI (sz j9)))), (ua, .inl (cI, 1200, .inl (fun j9 => nI (rd j9))))] s.heap := hP
  have hl := lv_entry ([.ref o0, .int mk, .int (nI fi)]) (n := 5) (Nat.le_of_ble_eq_true rfl)
  rw [lg_entry_eq]
  generalize (lg_sl ([.ref o0, .int mk, .int (nI fi)]) ++ List.replicate (5 - (lg_sl ([.ref o0, .int mk, .int (nI fi)])).length) Slot.unset).toArray = ls at hl ⊢
  have hl : lv_has ls 5 [(0, .ref o0), (1, .int mk), (2, .int (nI fi))] := hl
  refine lv_iconst (v := nI 0) hx hb dX4_add_0 (by decide) ?_
  refine lv_istore_n (lv' := [(3, .int (nI 0)), (0, .ref o0), (1, .int mk), (2, .int (nI fi))]) hx hb dX4_add_1 rfl hl (by decide) rfl (fun ls hl => ?_)
  rw [← r_row_0 x y n mk fi rd q] at hP hD
  refine lv_iload_n hx hb dX4_add_2 rfl (lv_at hl 3 rfl) ?_
  refine lv_istore (lv' := [(4, .int (nI fi)), (3, .int (nI 0)), (0, .ref o0), (1, .int mk), (2, .int (nI fi))]) hx hb dX4_add_3 hl (by decide) rfl (fun ls hl => ?_)
  have loop : ∀ (f : Nat) (u : Nat) (R : Nat) (H : Heap) (locs : List Loc) (ls : Array Slot), (u ≤ N) → (N + 1 ≤ u + f) → N = R → va_P (dC, dI) vwCl [(o0, .inr (4, [.int th, .int (nI n), .ref xb, .ref yb, .int md, .int (nI q), .ref za, .ref ua, .ref wa, .int hz, .ref va])), (xb, .inl (cI, 20, .inl x)), (yb, .inl (cI, 20, .inl y)), (za, .inl (cI, 60, .inl (fun j9 => nI (sz j9)))), (ua, .inl (cI, 1200, .inl (fun j9 => nI ((r_row x y n mk fi rd q u) j9))))] H → va_D A [(o0, .inr (4, [.int th, .int (nI n), .ref xb, .ref yb, .int md, .int (nI q), .ref za, .ref ua, .ref wa, .int hz, .ref va])), (xb, .inl (cI, 20, .inl x)), (yb, .inl (cI, 20, .inl y)), (za, .inl (cI, 60, .inl (fun j9 => nI (sz j9)))), (ua, .inl (cI, 1200, .inl (fun j9 => nI ((r_row x y n mk fi rd q u) j9))))] → va_S A s.heap H locs → lv_has ls 5 [(0, .ref o0), (1, .int mk), (2, .int (nI fi)), (3, .int (nI u)), (4, .int (nI (r_it x y n mk fi u)))] → W p l e (headSpec wsX4_add ({ frames := 2, cells := 0, slots := 0, locals := 49 })).room s m ([.ref o0, .int mk, .int (nI fi)] : List Value).toArray below meth c H locs 0 0 (MQ below (q_Qm (dC, dI) A none [(o0, .inr (4, [.int th, .int (nI n), .ref xb, .ref yb, .int md, .int (nI (q + 1)), .ref za, .ref ua, .ref wa, .int hz, .ref va])), (xb, .inl (cI, 20, .inl x)), (yb, .inl (cI, 20, .inl y)), (za, .inl (cI, 60, .inl (fun j9 => nI ((updN sz q N) j9)))), (ua, .inl (cI, 1200, .inl (fun j9 => nI ((r_row x y n mk fi rd q N) j9))))]) ([.ref o0, .int mk, .int (nI fi)] : List Value).toArray s 0 0 A) (F0 m 5 ls []) := by
    intro f
    induction f with
    | zero =>
      intro u R H locs ls h1 h2
      omega
    | succ f ih_loop =>
      intro u R H locs ls h1 h2 hF hP hD hS hl
      refine lv_iload_n hx hb dX4_add_5 rfl (lv_at hl 3 rfl) ?_
      refine q_ifn_eq (tgt := 15) (by omega) hx hb dX4_add_6 (by decide) (fun c6 => ?_) (fun c6 => ?_)
      · have hu : u < N := by omega
        refine lv_aload_n hx hb dX4_add_15 rfl (lv_at hl 0 rfl) ?_
        refine va_get (D := (dC, dI)) (ci := 4) (v := .ref ua) (C := RX4) (T := TX4) (N := 11) hx hb hts (by decide +kernel) hown hK hP 0 rfl rfl 7 (by decide) (hts (.fieldLink RX4 19 "CircleCellsModel" "round" "[I") (by decide +kernel)) (fun _ h9 => h9) rfl dX4_add_16 ?_
        refine lv_bipush (v := nI 20) hx hb dX4_add_19 (by decide) ?_
        refine lv_aload_n hx hb dX4_add_21 rfl (lv_at hl 0 rfl) ?_
        refine va_get (D := (dC, dI)) (ci := 4) (v := .int (nI q)) (C := RX4) (T := TX4) (N := 11) hx hb hts (by decide +kernel) hown hK hP 0 rfl rfl 5 (by decide) (hts (.fieldLink RX4 65 "CircleCellsModel" "cells" "I") (by decide +kernel)) (fun _ h9 => h9) rfl dX4_add_22 ?_
        refine q_imul hx hb dX4_add_25 ?_
        refine lv_iload_n hx hb dX4_add_26 rfl (lv_at hl 3 rfl) ?_
        refine q_iadd hx hb dX4_add_27 ?_
        refine lv_iload hx hb dX4_add_28 (lv_at hl 4 rfl) ?_
        refine q_iast (ws' := [(o0, .inr (4, [.int th, .int (nI n), .ref xb, .ref yb, .int md, .int (nI q), .ref za, .ref ua, .ref wa, .int hz, .ref va])), (xb, .inl (cI, 20, .inl x)), (yb, .inl (cI, 20, .inl y)), (za, .inl (cI, 60, .inl (fun j9 => nI (sz j9)))), (ua, .inl (cI, 1200, .inl (fun j9 => nI ((updN (r_row x y n mk fi rd q u) ((20 * q) + u) (r_it x y n mk fi u)) j9))))]) hx hb hK hP hD hS 4 0 rfl rfl ((20 * q) + u) rfl (by omega) (by decide) dX4_add_30 (by rw [upd_nI]; rfl) (fun H locs hP hD hS => ?_)
        rw [r_row_s] at hP hD
        refine lv_iinc (v := nI (u + 1)) (lv' := [(3, .int (nI (u + 1))), (0, .ref o0), (1, .int mk), (2, .int (nI fi)), (4, .int (nI (r_it x y n mk fi u)))]) hx hb dX4_add_31 hl (k := 3) rfl (by rw [show Int32.ofInt 1 = 1 from rfl]; exact nI_1 _) (by decide) rfl (fun ls hl => ?_)
        refine lv_aload_n hx hb dX4_add_34 rfl (lv_at hl 1 rfl) ?_
        refine lv_iload_n hx hb dX4_add_35 rfl (lv_at hl 2 rfl) ?_
        refine lv_iload hx hb dX4_add_36 (lv_at hl 4 rfl) ?_
        refine q_cV (As := [.int mk, .int (nI (r_it x y n mk fi u))]) (rest := []) ⟨hx, hb, hml, hown, hts⟩ (c_X4_behind l dC dI o0 xb yb za ua wa va cI th md (nI q) hz x y mk n (r_it x y n mk fi u) (by omega) (r_it_lt lf u)) (cwV 2 hts gX4_add_X4_behind rfl rfl rfl (by decide +kernel) ⟨Nat.le_of_ble_eq_true rfl, Nat.le_of_ble_eq_true rfl⟩) (q_pV hK hP [0, 1, 2] [0] 4 0 rfl rfl rfl rfl rfl rfl) rfl hl.1 rfl (Nat.le_of_ble_eq_true rfl) ⟨Nat.zero_le _, Nat.zero_le _⟩ dX4_add_38 ?_
        refine lv_istore (lv' := [(4, .int (nI (r_behind x y n mk (r_it x y n mk fi u) 0))), (3, .int (nI (u + 1))), (0, .ref o0), (1, .int mk), (2, .int (nI fi))]) hx hb dX4_add_41 hl (by decide) rfl (fun ls hl => ?_)
        refine lv_goto (tgt := 5) hx hb dX4_add_43 (by decide) ?_
        exact ih_loop (u + 1) R H locs ls (by omega) (by omega) hF hP hD hS (lv_sub hl [2, 3, 4, 1, 0] rfl)
      · refine lv_iload hx hb dX4_add_9 (lv_at hl 4 rfl) ?_
        refine lv_iload_n hx hb dX4_add_11 rfl (lv_at hl 2 rfl) ?_
        refine q_icmp_eq (tgt := 46) (by have := r_it_lt (x := x) (y := y) (mk := mk) lf u; omega) (by omega) hx hb dX4_add_12 (by decide) (fun c12 => ?_) (fun c12 => ?_)
        · have hu : u = N := Classical.byContradiction (fun h => hne u (by omega) (by omega) c12)
          subst hu
          refine lv_aload_n hx hb dX4_add_46 rfl (lv_at hl 0 rfl) ?_
          refine va_get (D := (dC, dI)) (ci := 4) (v := .ref za) (C := RX4) (T := TX4) (N := 11) hx hb hts (by decide +kernel) hown hK hP 0 rfl rfl 6 (by decide) (hts (.fieldLink RX4 16 "CircleCellsModel" "size" "[I") (by decide +kernel)) (fun _ h9 => h9) rfl dX4_add_47 ?_
          refine lv_aload_n hx hb dX4_add_50 rfl (lv_at hl 0 rfl) ?_
          refine va_get (D := (dC, dI)) (ci := 4) (v := .int (nI q)) (C := RX4) (T := TX4) (N := 11) hx hb hts (by decide +kernel) hown hK hP 0 rfl rfl 5 (by decide) (hts (.fieldLink RX4 65 "CircleCellsModel" "cells" "I") (by decide +kernel)) (fun _ h9 => h9) rfl dX4_add_51 ?_
          refine lv_iload_n hx hb dX4_add_54 rfl (lv_at hl 3 rfl) ?_
          refine q_iast (ws' := [(o0, .inr (4, [.int th, .int (nI n), .ref xb, .ref yb, .int md, .int (nI q), .ref za, .ref ua, .ref wa, .int hz, .ref va])), (xb, .inl (cI, 20, .inl x)), (yb, .inl (cI, 20, .inl y)), (za, .inl (cI, 60, .inl (fun j9 => nI ((updN sz q u) j9)))), (ua, .inl (cI, 1200, .inl (fun j9 => nI ((r_row x y n mk fi rd q u) j9))))]) hx hb hK hP hD hS 3 0 rfl rfl (q) rfl (by omega) (by decide) dX4_add_55 (by rw [upd_nI]; rfl) (fun H locs hP hD hS => ?_)
          refine lv_aload_n hx hb dX4_add_56 rfl (lv_at hl 0 rfl) ?_
          refine lv_dup hx hb dX4_add_57 rfl ?_
          refine va_get (D := (dC, dI)) (ci := 4) (v := .int (nI q)) (C := RX4) (T := TX4) (N := 11) hx hb hts (by decide +kernel) hown hK hP 0 rfl rfl 5 (by decide) (hts (.fieldLink RX4 65 "CircleCellsModel" "cells" "I") (by decide +kernel)) (fun _ h9 => h9) rfl dX4_add_58 ?_
          refine lv_iconst (v := nI 1) hx hb dX4_add_61 (by decide) ?_
          refine q_iadd hx hb dX4_add_62 ?_
          refine va_put (D := (dC, dI)) (ci := 4) (v := .int (nI (q + 1))) (ty := .int) (C := RX4) (T := TX4) (N := 11) hx hb hts (by decide +kernel) tyX4 tyX4_ok nmX4 hown hK hP hD hS 0 rfl rfl 5 (by decide) (hts (.fieldLink RX4 65 "CircleCellsModel" "cells" "I") (by decide +kernel)) (fun _ h9 => h9) rfl (by decide +kernel) rfl rfl (Nat.le_of_ble_eq_true rfl) dX4_add_63 (fun H locs hP hD hS => ?_)
          have hP : va_P (dC, dI) vwCl [(o0, .inr (4, [.int th, .int (nI n), .ref xb, .ref yb, .int md, .int (nI (q + 1)), .ref za, .ref ua, .ref wa, .int hz, .ref va])), (xb, .inl (cI, 20, .inl x)), (yb, .inl (cI, 20, .inl y)), (za, .inl (cI, 60, .inl (fun j9 => nI ((updN sz q u) j9)))), (ua, .inl (cI, 1200, .inl (fun j9 => nI ((r_row x y n mk fi rd q u) j9))))] H := hP
          have hD : va_D A [(o0, .inr (4, [.int th, .int (nI n), .ref xb, .ref yb, .int md, .int (nI (q + 1)), .ref za, .ref ua, .ref wa, .int hz, .ref va])), (xb, .inl (cI, 20, .inl x)), (yb, .inl (cI, 20, .inl y)), (za, .inl (cI, 60, .inl (fun j9 => nI ((updN sz q u) j9)))), (ua, .inl (cI, 1200, .inl (fun j9 => nI ((r_row x y n mk fi rd q u) j9))))] := hD
          exact W.vret hx hb hr (q_retm hP hS) hS.2.2 dX4_add_66
        · have hu : u < N := by
            rcases Nat.lt_or_ge u N with h | h
            · exact h
            · exact absurd (by rw [show u = N by omega]; exact hz1) c12
          refine lv_aload_n hx hb dX4_add_15 rfl (lv_at hl 0 rfl) ?_
          refine va_get (D := (dC, dI)) (ci := 4) (v := .ref ua) (C := RX4) (T := TX4) (N := 11) hx hb hts (by decide +kernel) hown hK hP 0 rfl rfl 7 (by decide) (hts (.fieldLink RX4 19 "CircleCellsModel" "round" "[I") (by decide +kernel)) (fun _ h9 => h9) rfl dX4_add_16 ?_
          refine lv_bipush (v := nI 20) hx hb dX4_add_19 (by decide) ?_
          refine lv_aload_n hx hb dX4_add_21 rfl (lv_at hl 0 rfl) ?_
          refine va_get (D := (dC, dI)) (ci := 4) (v := .int (nI q)) (C := RX4) (T := TX4) (N := 11) hx hb hts (by decide +kernel) hown hK hP 0 rfl rfl 5 (by decide) (hts (.fieldLink RX4 65 "CircleCellsModel" "cells" "I") (by decide +kernel)) (fun _ h9 => h9) rfl dX4_add_22 ?_
          refine q_imul hx hb dX4_add_25 ?_
          refine lv_iload_n hx hb dX4_add_26 rfl (lv_at hl 3 rfl) ?_
          refine q_iadd hx hb dX4_add_27 ?_
          refine lv_iload hx hb dX4_add_28 (lv_at hl 4 rfl) ?_
          refine q_iast (ws' := [(o0, .inr (4, [.int th, .int (nI n), .ref xb, .ref yb, .int md, .int (nI q), .ref za, .ref ua, .ref wa, .int hz, .ref va])), (xb, .inl (cI, 20, .inl x)), (yb, .inl (cI, 20, .inl y)), (za, .inl (cI, 60, .inl (fun j9 => nI (sz j9)))), (ua, .inl (cI, 1200, .inl (fun j9 => nI ((updN (r_row x y n mk fi rd q u) ((20 * q) + u) (r_it x y n mk fi u)) j9))))]) hx hb hK hP hD hS 4 0 rfl rfl ((20 * q) + u) rfl (by omega) (by decide) dX4_add_30 (by rw [upd_nI]; rfl) (fun H locs hP hD hS => ?_)
          rw [r_row_s] at hP hD
          refine lv_iinc (v := nI (u + 1)) (lv' := [(3, .int (nI (u + 1))), (0, .ref o0), (1, .int mk), (2, .int (nI fi)), (4, .int (nI (r_it x y n mk fi u)))]) hx hb dX4_add_31 hl (k := 3) rfl (by rw [show Int32.ofInt 1 = 1 from rfl]; exact nI_1 _) (by decide) rfl (fun ls hl => ?_)
          refine lv_aload_n hx hb dX4_add_34 rfl (lv_at hl 1 rfl) ?_
          refine lv_iload_n hx hb dX4_add_35 rfl (lv_at hl 2 rfl) ?_
          refine lv_iload hx hb dX4_add_36 (lv_at hl 4 rfl) ?_
          refine q_cV (As := [.int mk, .int (nI (r_it x y n mk fi u))]) (rest := []) ⟨hx, hb, hml, hown, hts⟩ (c_X4_behind l dC dI o0 xb yb za ua wa va cI th md (nI q) hz x y mk n (r_it x y n mk fi u) (by omega) (r_it_lt lf u)) (cwV 2 hts gX4_add_X4_behind rfl rfl rfl (by decide +kernel) ⟨Nat.le_of_ble_eq_true rfl, Nat.le_of_ble_eq_true rfl⟩) (q_pV hK hP [0, 1, 2] [0] 4 0 rfl rfl rfl rfl rfl rfl) rfl hl.1 rfl (Nat.le_of_ble_eq_true rfl) ⟨Nat.zero_le _, Nat.zero_le _⟩ dX4_add_38 ?_
          refine lv_istore (lv' := [(4, .int (nI (r_behind x y n mk (r_it x y n mk fi u) 0))), (3, .int (nI (u + 1))), (0, .ref o0), (1, .int mk), (2, .int (nI fi))]) hx hb dX4_add_41 hl (by decide) rfl (fun ls hl => ?_)
          refine lv_goto (tgt := 5) hx hb dX4_add_43 (by decide) ?_
          exact ih_loop (u + 1) R H locs ls (by omega) (by omega) hF hP hD hS (lv_sub hl [2, 3, 4, 1, 0] rfl)
  exact loop (N + 1) 0 R _ _ ls (by omega) (by omega) hR hP hD hS (lv_sub hl [2, 3, 4, 1, 0] rfl)
set_option maxHeartbeats 4000000 in
set_option maxRecDepth 100000 in
theorem c_X4_surround (l : Launch) (dC : Nat → ClassId) (dI : Nat → Nat → Nat) (o0 xb yb za ua wa va : Nat) (cI : ClassId) (th md : Int32) (sz rd od hu : Nat → Nat) (n q N : Nat) (ln : n ≤ 20) (lq : q ≤ 60) (lo : ∀ j, od j < 60) (lz : ∀ j, sz j ≤ 20) (lr : ∀ j, rd j < 20) (hH : ¬ q = 0 → r_hok od sz rd q n N) (R : (Nat → Nat) × Nat) (hR : r_surR od sz rd q n hu N = R) : Met l yX4_surround wsX4_surround ({ frames := 3, cells := 0, slots := 0, locals := 70 }) (q_Pm (dC, dI) [.ref o0] [(o0, .inr (4, [.int th, .int (nI n), .ref xb, .ref yb, .int md, .int (nI q), .ref za, .ref ua, .ref wa, .int (nI 0), .ref va])), (za, .inl (cI, 60, .inl (fun j9 => nI (sz j9)))), (ua, .inl (cI, 1200, .inl (fun j9 => nI (rd j9)))), (wa, .inl (cI, 60, .inl (fun j9 => nI (od j9)))), (va, .inl (cI, 20, .inl (fun j9 => nI (hu j9))))] [(cI, .int)]) (q_Qm (dC, dI) (q_in [(o0, .inr (4, [.int th, .int (nI n), .ref xb, .ref yb, .int md, .int (nI q), .ref za, .ref ua, .ref wa, .int (nI 0), .ref va])), (za, .inl (cI, 60, .inl (fun j9 => nI (sz j9)))), (ua, .inl (cI, 1200, .inl (fun j9 => nI (rd j9)))), (wa, .inl (cI, 60, .inl (fun j9 => nI (od j9)))), (va, .inl (cI, 20, .inl (fun j9 => nI (hu j9))))]) none [(o0, .inr (4, [.int th, .int (nI n), .ref xb, .ref yb, .int md, .int (nI q), .ref za, .ref ua, .ref wa, .int (nI R.2), .ref va])), (za, .inl (cI, 60, .inl (fun j9 => nI (sz j9)))), (ua, .inl (cI, 1200, .inl (fun j9 => nI (rd j9)))), (wa, .inl (cI, 60, .inl (fun j9 => nI (od j9)))), (va, .inl (cI, 20, .inl (fun j9 => nI (R.1 j9))))]) 0 0 (q_in [(o0, .inr (4, [.int th, .int (nI n), .ref xb, .ref yb, .int md, .int (nI q), .ref za, .ref ua, .ref wa, .int (nI 0), .ref va])), (za, .inl (cI, 60, .inl (fun j9 => nI (sz j9)))), (ua, .inl (cI, 1200, .inl (fun j9 => nI (rd j9)))), (wa, .inl (cI, 60, .inl (fun j9 => nI (od j9)))), (va, .inl (cI, 20, .inl (fun j9 => nI (hu j9))))]) := by
  refine Met.ofW (cc := cX4_surround) (maxL := 3) (ret := none) (by decide) rfl ?_
  intro p e s m args below meth c s₁ B hml hv
  obtain ⟨rfl, hP, hK, hD0⟩ := hv
  have hx := B.exec
  have hb := B.bytes
  have hr := B.returns
  have hts := atoms_spec (ws := wsX4_surround) B.pre
  have hown : s.vm.findClass RX4 = some m.cls := findClass_of_methodNamed B.named
  have hlocks := B.notSynchronized
  have hD := q_inD hD0
  generalize hAe : q_in [(o0, .inr (4, [.int th, .int (nI n), .ref xb, .ref yb, .int md, .int (nI q), .ref za, .ref ua, .ref wa, .int (nI 0), .ref va])), (za, .inl (cI, 60, .inl (fun j9 => nI (sz j9)))), (ua, .inl (cI, 1200, .inl (fun j9 => nI (rd j9)))), (wa, .inl (cI, 60, .inl (fun j9 => nI (od j9)))), (va, .inl (cI, 20, .inl (fun j9 => nI (hu j9))))] = A at hD ⊢
  have hS : va_S A s.heap s.heap [] := va_S.rf
  have hP : va_P (dC, dI) vwCl [(o0, .inr (4, [.int th, .int (nI n), .ref xb, .ref yb, .int md, .int (nI q), .ref za, .ref ua, .ref wa, .int (nI 0), .ref va])), (za, .inl (cI, 60, .inl (fun j9 => nI (sz j9)))), (ua, .inl (cI, 1200, .inl (fun j9 => nI (rd j9)))), (wa, .inl (cI, 60, .inl (fun j9 => nI (od j9)))), (va, .inl (cI, 20, .inl (fun j9 => nI (hu j9))))] s.heap := hP
  have hl := lv_entry ([.ref o0]) (n := 3) (Nat.le_of_ble_eq_true rfl)
  rw [lg_entry_eq]
  generalize (lg_sl ([.ref o0]) ++ List.replicate (3 - (lg_sl ([.ref o0])).length) Slot.unset).toArray = ls at hl ⊢
  have hl : lv_has ls 3 [(0, .ref o0)] := hl
  refine lv_iconst (v := nI 0) hx hb dX4_surround_0 (by decide) ?_
  refine lv_istore_n (lv' := [(1, .int (nI 0)), (0, .ref o0)]) hx hb dX4_surround_1 rfl hl (by decide) rfl (fun ls hl => ?_)
  have loopA : ∀ (f : Nat) (b : Nat) (R : (Nat → Nat) × Nat) (H : Heap) (locs : List Loc) (ls : Array Slot), (b ≤ n) → (n + 1 ≤ b + f) → (r_beg od sz rd q n b = r_beg od sz rd q n 0) → r_surR od sz rd q n hu N = R → va_P (dC, dI) vwCl [(o0, .inr (4, [.int th, .int (nI n), .ref xb, .ref yb, .int md, .int (nI q), .ref za, .ref ua, .ref wa, .int (nI 0), .ref va])), (za, .inl (cI, 60, .inl (fun j9 => nI (sz j9)))), (ua, .inl (cI, 1200, .inl (fun j9 => nI (rd j9)))), (wa, .inl (cI, 60, .inl (fun j9 => nI (od j9)))), (va, .inl (cI, 20, .inl (fun j9 => nI (hu j9))))] H → va_D A [(o0, .inr (4, [.int th, .int (nI n), .ref xb, .ref yb, .int md, .int (nI q), .ref za, .ref ua, .ref wa, .int (nI 0), .ref va])), (za, .inl (cI, 60, .inl (fun j9 => nI (sz j9)))), (ua, .inl (cI, 1200, .inl (fun j9 => nI (rd j9)))), (wa, .inl (cI, 60, .inl (fun j9 => nI (od j9)))), (va, .inl (cI, 20, .inl (fun j9 => nI (hu j9))))] → va_S A s.heap H locs → lv_has ls 3 [(0, .ref o0), (1, .int (nI b))] → W p l e (headSpec wsX4_surround ({ frames := 3, cells := 0, slots := 0, locals := 70 })).room s m ([.ref o0] : List Value).toArray below meth c H locs 0 0 (MQ below (q_Qm (dC, dI) A none [(o0, .inr (4, [.int th, .int (nI n), .ref xb, .ref yb, .int md, .int (nI q), .ref za, .ref ua, .ref wa, .int (nI R.2), .ref va])), (za, .inl (cI, 60, .inl (fun j9 => nI (sz j9)))), (ua, .inl (cI, 1200, .inl (fun j9 => nI (rd j9)))), (wa, .inl (cI, 60, .inl (fun j9 => nI (od j9)))), (va, .inl (cI, 20, .inl (fun j9 => nI (R.1 j9))))]) ([.ref o0] : List Value).toArray s 0 0 A) (F0 m 2 ls []) := by
    intro f
    induction f with
    | zero =>
      intro b R H locs ls h1 h2 hbg
      omega
    | succ f ih_loopA =>
      intro b R H locs ls h1 h2 hbg hF hP hD hS hl
      refine lv_iload_n hx hb dX4_surround_2 rfl (lv_at hl 1 rfl) ?_
      refine lv_aload_n hx hb dX4_surround_3 rfl (lv_at hl 0 rfl) ?_
      refine va_get (D := (dC, dI)) (ci := 4) (v := .int (nI n)) (C := RX4) (T := TX4) (N := 11) hx hb hts (by decide +kernel) hown hK hP 0 rfl rfl 1 (by decide) (hts (.fieldLink RX4 32 "CircleCellsModel" "sites" "I") (by decide +kernel)) (fun _ h9 => h9) rfl dX4_surround_4 ?_
      refine q_icmp_ge (tgt := 24) (by omega) (by omega) hx hb dX4_surround_7 (by decide) (fun c7 => ?_) (fun c7 => ?_)
      · rw [r_beg, if_neg (by omega)] at hbg
        have eb : b = r_beg od sz rd q n 0 := hbg
        refine lv_aload_n hx hb dX4_surround_24 rfl (lv_at hl 0 rfl) ?_
        refine va_get (D := (dC, dI)) (ci := 4) (v := .int (nI q)) (C := RX4) (T := TX4) (N := 11) hx hb hts (by decide +kernel) hown hK hP 0 rfl rfl 5 (by decide) (hts (.fieldLink RX4 65 "CircleCellsModel" "cells" "I") (by decide +kernel)) (fun _ h9 => h9) rfl dX4_surround_25 ?_
        refine q_ifn_ne (tgt := 32) (by omega) hx hb dX4_surround_28 (by decide) (fun c28 => ?_) (fun c28 => ?_)
        · rw [r_surR, if_neg c28] at hF
          obtain ⟨g1, g2, g3, g4, g5, g6⟩ := hH c28
          rw [← eb] at g1 g4 g5 g6 hF
          rw [← r_hrow_0 od sz rd q b hu] at hP hD
          refine lv_iload_n hx hb dX4_surround_32 rfl (lv_at hl 1 rfl) ?_
          have r_hlt : ∀ u, u ≤ N → r_hit od sz rd q b u < 20 := fun u hu => by
            rcases Nat.lt_or_ge u N with h | h
            · exact (g4 u h).1
            · rw [show u = N by omega, g5]; omega
          refine lv_istore_n (lv' := [(2, .int (nI b)), (0, .ref o0), (1, .int (nI b))]) hx hb dX4_surround_33 rfl hl (by decide) rfl (fun ls hl => ?_)
          have loopB : ∀ (f : Nat) (u : Nat) (R : (Nat → Nat) × Nat) (H : Heap) (locs : List Loc) (ls : Array Slot), (u ≤ N) → (N + 1 ≤ u + f) → (r_hrow od sz rd q b hu N, N) = R → va_P (dC, dI) vwCl [(o0, .inr (4, [.int th, .int (nI n), .ref xb, .ref yb, .int md, .int (nI q), .ref za, .ref ua, .ref wa, .int (nI u), .ref va])), (za, .inl (cI, 60, .inl (fun j9 => nI (sz j9)))), (ua, .inl (cI, 1200, .inl (fun j9 => nI (rd j9)))), (wa, .inl (cI, 60, .inl (fun j9 => nI (od j9)))), (va, .inl (cI, 20, .inl (fun j9 => nI ((r_hrow od sz rd q b hu u) j9))))] H → va_D A [(o0, .inr (4, [.int th, .int (nI n), .ref xb, .ref yb, .int md, .int (nI q), .ref za, .ref ua, .ref wa, .int (nI u), .ref va])), (za, .inl (cI, 60, .inl (fun j9 => nI (sz j9)))), (ua, .inl (cI, 1200, .inl (fun j9 => nI (rd j9)))), (wa, .inl (cI, 60, .inl (fun j9 => nI (od j9)))), (va, .inl (cI, 20, .inl (fun j9 => nI ((r_hrow od sz rd q b hu u) j9))))] → va_S A s.heap H locs → lv_has ls 3 [(0, .ref o0), (1, .int (nI b)), (2, .int (nI (r_hit od sz rd q b u)))] → W p l e (headSpec wsX4_surround ({ frames := 3, cells := 0, slots := 0, locals := 70 })).room s m ([.ref o0] : List Value).toArray below meth c H locs 0 0 (MQ below (q_Qm (dC, dI) A none [(o0, .inr (4, [.int th, .int (nI n), .ref xb, .ref yb, .int md, .int (nI q), .ref za, .ref ua, .ref wa, .int (nI R.2), .ref va])), (za, .inl (cI, 60, .inl (fun j9 => nI (sz j9)))), (ua, .inl (cI, 1200, .inl (fun j9 => nI (rd j9)))), (wa, .inl (cI, 60, .inl (fun j9 => nI (od j9)))), (va, .inl (cI, 20, .inl (fun j9 => nI (R.1 j9))))]) ([.ref o0] : List Value).toArray s 0 0 A) (F0 m 34 ls []) := by
            intro f
            induction f with
            | zero =>
              intro u R H locs ls h3 h4
              omega
            | succ f ih_loopB =>
              intro u R H locs ls h3 h4 hF hP hD hS hl
              refine lv_aload_n hx hb dX4_surround_34 rfl (lv_at hl 0 rfl) ?_
              refine va_get (D := (dC, dI)) (ci := 4) (v := .int (nI u)) (C := RX4) (T := TX4) (N := 11) hx hb hts (by decide +kernel) hown hK hP 0 rfl rfl 9 (by decide) (hts (.fieldLink RX4 72 "CircleCellsModel" "hullSize" "I") (by decide +kernel)) (fun _ h9 => h9) rfl dX4_surround_35 ?_
              refine q_ifn_eq (tgt := 46) (by omega) hx hb dX4_surround_38 (by decide) (fun c38 => ?_) (fun c38 => ?_)
              · have hu9 : u < N := by omega
                refine lv_aload_n hx hb dX4_surround_46 rfl (lv_at hl 0 rfl) ?_
                refine va_get (D := (dC, dI)) (ci := 4) (v := .ref va) (C := RX4) (T := TX4) (N := 11) hx hb hts (by decide +kernel) hown hK hP 0 rfl rfl 10 (by decide) (hts (.fieldLink RX4 25 "CircleCellsModel" "hull" "[I") (by decide +kernel)) (fun _ h9 => h9) rfl dX4_surround_47 ?_
                refine lv_aload_n hx hb dX4_surround_50 rfl (lv_at hl 0 rfl) ?_
                refine va_get (D := (dC, dI)) (ci := 4) (v := .int (nI u)) (C := RX4) (T := TX4) (N := 11) hx hb hts (by decide +kernel) hown hK hP 0 rfl rfl 9 (by decide) (hts (.fieldLink RX4 72 "CircleCellsModel" "hullSize" "I") (by decide +kernel)) (fun _ h9 => h9) rfl dX4_surround_51 ?_
                refine lv_iload_n hx hb dX4_surround_54 rfl (lv_at hl 2 rfl) ?_
                refine q_iast (ws' := [(o0, .inr (4, [.int th, .int (nI n), .ref xb, .ref yb, .int md, .int (nI q), .ref za, .ref ua, .ref wa, .int (nI u), .ref va])), (za, .inl (cI, 60, .inl (fun j9 => nI (sz j9)))), (ua, .inl (cI, 1200, .inl (fun j9 => nI (rd j9)))), (wa, .inl (cI, 60, .inl (fun j9 => nI (od j9)))), (va, .inl (cI, 20, .inl (fun j9 => nI ((updN (r_hrow od sz rd q b hu u) u (r_hit od sz rd q b u)) j9))))]) hx hb hK hP hD hS 4 0 rfl rfl (u) rfl (by omega) (by decide) dX4_surround_55 (by rw [upd_nI]; rfl) (fun H locs hP hD hS => ?_)
                refine lv_aload_n hx hb dX4_surround_56 rfl (lv_at hl 0 rfl) ?_
                refine lv_dup hx hb dX4_surround_57 rfl ?_
                refine va_get (D := (dC, dI)) (ci := 4) (v := .int (nI u)) (C := RX4) (T := TX4) (N := 11) hx hb hts (by decide +kernel) hown hK hP 0 rfl rfl 9 (by decide) (hts (.fieldLink RX4 72 "CircleCellsModel" "hullSize" "I") (by decide +kernel)) (fun _ h9 => h9) rfl dX4_surround_58 ?_
                refine lv_iconst (v := nI 1) hx hb dX4_surround_61 (by decide) ?_
                refine q_iadd hx hb dX4_surround_62 ?_
                refine va_put (D := (dC, dI)) (ci := 4) (v := .int (nI (u + 1))) (ty := .int) (C := RX4) (T := TX4) (N := 11) hx hb hts (by decide +kernel) tyX4 tyX4_ok nmX4 hown hK hP hD hS 0 rfl rfl 9 (by decide) (hts (.fieldLink RX4 72 "CircleCellsModel" "hullSize" "I") (by decide +kernel)) (fun _ h9 => h9) rfl (by decide +kernel) rfl rfl (Nat.le_of_ble_eq_true rfl) dX4_surround_63 (fun H locs hP hD hS => ?_)
                have hP : va_P (dC, dI) vwCl [(o0, .inr (4, [.int th, .int (nI n), .ref xb, .ref yb, .int md, .int (nI q), .ref za, .ref ua, .ref wa, .int (nI (u + 1)), .ref va])), (za, .inl (cI, 60, .inl (fun j9 => nI (sz j9)))), (ua, .inl (cI, 1200, .inl (fun j9 => nI (rd j9)))), (wa, .inl (cI, 60, .inl (fun j9 => nI (od j9)))), (va, .inl (cI, 20, .inl (fun j9 => nI ((updN (r_hrow od sz rd q b hu u) u (r_hit od sz rd q b u)) j9))))] H := hP
                have hD : va_D A [(o0, .inr (4, [.int th, .int (nI n), .ref xb, .ref yb, .int md, .int (nI q), .ref za, .ref ua, .ref wa, .int (nI (u + 1)), .ref va])), (za, .inl (cI, 60, .inl (fun j9 => nI (sz j9)))), (ua, .inl (cI, 1200, .inl (fun j9 => nI (rd j9)))), (wa, .inl (cI, 60, .inl (fun j9 => nI (od j9)))), (va, .inl (cI, 20, .inl (fun j9 => nI ((updN (r_hrow od sz rd q b hu u) u (r_hit od sz rd q b u)) j9))))] := hD
                refine lv_aload_n hx hb dX4_surround_66 rfl (lv_at hl 0 rfl) ?_
                refine lv_iload_n hx hb dX4_surround_67 rfl (lv_at hl 2 rfl) ?_
                refine q_cV (As := [.int (nI (r_hit od sz rd q b u))]) (rest := []) ⟨hx, hb, hml, hown, hts⟩ (c_X4_onHull l dC dI o0 xb yb za ua wa va cI th (nI n) md (nI (u + 1)) od sz rd q (r_hit od sz rd q b u) (by omega) (g4 u hu9).1 (fun j _ => lo j) lz lr) (cwV 1 hts gX4_surround_X4_onHull rfl rfl rfl (by decide +kernel) ⟨Nat.le_of_ble_eq_true rfl, Nat.le_of_ble_eq_true rfl⟩) (q_pV hK hP [0, 1, 2, 3] [0] 4 0 rfl rfl rfl rfl rfl rfl) rfl hl.1 rfl (Nat.le_of_ble_eq_true rfl) ⟨Nat.zero_le _, Nat.zero_le _⟩ dX4_surround_68 ?_
                rw [r_hrow_s] at hP hD
                rw [(g4 u hu9).2]
                refine lv_istore_n (lv' := [(2, .int (nI (r_hit od sz rd q b (u + 1)))), (0, .ref o0), (1, .int (nI b))]) hx hb dX4_surround_71 rfl hl (by decide) rfl (fun ls hl => ?_)
                refine lv_goto (tgt := 34) hx hb dX4_surround_72 (by decide) ?_
                exact ih_loopB (u + 1) R H locs ls (by omega) (by omega) hF hP hD hS (lv_sub hl [1, 2, 0] rfl)
              · refine lv_iload_n hx hb dX4_surround_41 rfl (lv_at hl 2 rfl) ?_
                refine lv_iload_n hx hb dX4_surround_42 rfl (lv_at hl 1 rfl) ?_
                refine q_icmp_eq (tgt := 75) (by have := r_hlt u (by omega); omega) (by omega) hx hb dX4_surround_43 (by decide) (fun c43 => ?_) (fun c43 => ?_)
                · have hu9 : u = N := Classical.byContradiction (fun h => g6 u (by omega) (by omega) c43)
                  subst hu9
                  subst hF
                  exact W.vret hx hb hr (q_retm hP hS) hS.2.2 dX4_surround_75
                · have hu9 : u < N := by
                    rcases Nat.lt_or_ge u N with h | h
                    · exact h
                    · exact absurd (by rw [show u = N by omega]; exact g5) c43
                  refine lv_aload_n hx hb dX4_surround_46 rfl (lv_at hl 0 rfl) ?_
                  refine va_get (D := (dC, dI)) (ci := 4) (v := .ref va) (C := RX4) (T := TX4) (N := 11) hx hb hts (by decide +kernel) hown hK hP 0 rfl rfl 10 (by decide) (hts (.fieldLink RX4 25 "CircleCellsModel" "hull" "[I") (by decide +kernel)) (fun _ h9 => h9) rfl dX4_surround_47 ?_
                  refine lv_aload_n hx hb dX4_surround_50 rfl (lv_at hl 0 rfl) ?_
                  refine va_get (D := (dC, dI)) (ci := 4) (v := .int (nI u)) (C := RX4) (T := TX4) (N := 11) hx hb hts (by decide +kernel) hown hK hP 0 rfl rfl 9 (by decide) (hts (.fieldLink RX4 72 "CircleCellsModel" "hullSize" "I") (by decide +kernel)) (fun _ h9 => h9) rfl dX4_surround_51 ?_
                  refine lv_iload_n hx hb dX4_surround_54 rfl (lv_at hl 2 rfl) ?_
                  refine q_iast (ws' := [(o0, .inr (4, [.int th, .int (nI n), .ref xb, .ref yb, .int md, .int (nI q), .ref za, .ref ua, .ref wa, .int (nI u), .ref va])), (za, .inl (cI, 60, .inl (fun j9 => nI (sz j9)))), (ua, .inl (cI, 1200, .inl (fun j9 => nI (rd j9)))), (wa, .inl (cI, 60, .inl (fun j9 => nI (od j9)))), (va, .inl (cI, 20, .inl (fun j9 => nI ((updN (r_hrow od sz rd q b hu u) u (r_hit od sz rd q b u)) j9))))]) hx hb hK hP hD hS 4 0 rfl rfl (u) rfl (by omega) (by decide) dX4_surround_55 (by rw [upd_nI]; rfl) (fun H locs hP hD hS => ?_)
                  refine lv_aload_n hx hb dX4_surround_56 rfl (lv_at hl 0 rfl) ?_
                  refine lv_dup hx hb dX4_surround_57 rfl ?_
                  refine va_get (D := (dC, dI)) (ci := 4) (v := .int (nI u)) (C := RX4) (T := TX4) (N := 11) hx hb hts (by decide +kernel) hown hK hP 0 rfl rfl 9 (by decide) (hts (.fieldLink RX4 72 "CircleCellsModel" "hullSize" "I") (by decide +kernel)) (fun _ h9 => h9) rfl dX4_surround_58 ?_
                  refine lv_iconst (v := nI 1) hx hb dX4_surround_61 (by decide) ?_
                  refine q_iadd hx hb dX4_surround_62 ?_
                  refine va_put (D := (dC, dI)) (ci := 4) (v := .int (nI (u + 1))) (ty := .int) (C := RX4) (T := TX4) (N := 11) hx hb hts (by decide +kernel) tyX4 tyX4_ok nmX4 hown hK hP hD hS 0 rfl rfl 9 (by decide) (hts (.fieldLink RX4 72 "CircleCellsModel" "hullSize" "I") (by decide +kernel)) (fun _ h9 => h9) rfl (by decide +kernel) rfl rfl (Nat.le_of_ble_eq_true rfl) dX4_surround_63 (fun H locs hP hD hS => ?_)
                  have hP : va_P (dC, dI) vwCl [(o0, .inr (4, [.int th, .int (nI n), .ref xb, .ref yb, .int md, .int (nI q), .ref za, .ref ua, .ref wa, .int (nI (u + 1)), .ref va])), (za, .inl (cI, 60, .inl (fun j9 => nI (sz j9)))), (ua, .inl (cI, 1200, .inl (fun j9 => nI (rd j9)))), (wa, .inl (cI, 60, .inl (fun j9 => nI (od j9)))), (va, .inl (cI, 20, .inl (fun j9 => nI ((updN (r_hrow od sz rd q b hu u) u (r_hit od sz rd q b u)) j9))))] H := hP
                  have hD : va_D A [(o0, .inr (4, [.int th, .int (nI n), .ref xb, .ref yb, .int md, .int (nI q), .ref za, .ref ua, .ref wa, .int (nI (u + 1)), .ref va])), (za, .inl (cI, 60, .inl (fun j9 => nI (sz j9)))), (ua, .inl (cI, 1200, .inl (fun j9 => nI (rd j9)))), (wa, .inl (cI, 60, .inl (fun j9 => nI (od j9)))), (va, .inl (cI, 20, .inl (fun j9 => nI ((updN (r_hrow od sz rd q b hu u) u (r_hit od sz rd q b u)) j9))))] := hD
                  refine lv_aload_n hx hb dX4_surround_66 rfl (lv_at hl 0 rfl) ?_
                  refine lv_iload_n hx hb dX4_surround_67 rfl (lv_at hl 2 rfl) ?_
                  refine q_cV (As := [.int (nI (r_hit od sz rd q b u))]) (rest := []) ⟨hx, hb, hml, hown, hts⟩ (c_X4_onHull l dC dI o0 xb yb za ua wa va cI th (nI n) md (nI (u + 1)) od sz rd q (r_hit od sz rd q b u) (by omega) (g4 u hu9).1 (fun j _ => lo j) lz lr) (cwV 1 hts gX4_surround_X4_onHull rfl rfl rfl (by decide +kernel) ⟨Nat.le_of_ble_eq_true rfl, Nat.le_of_ble_eq_true rfl⟩) (q_pV hK hP [0, 1, 2, 3] [0] 4 0 rfl rfl rfl rfl rfl rfl) rfl hl.1 rfl (Nat.le_of_ble_eq_true rfl) ⟨Nat.zero_le _, Nat.zero_le _⟩ dX4_surround_68 ?_
                  rw [r_hrow_s] at hP hD
                  rw [(g4 u hu9).2]
                  refine lv_istore_n (lv' := [(2, .int (nI (r_hit od sz rd q b (u + 1)))), (0, .ref o0), (1, .int (nI b))]) hx hb dX4_surround_71 rfl hl (by decide) rfl (fun ls hl => ?_)
                  refine lv_goto (tgt := 34) hx hb dX4_surround_72 (by decide) ?_
                  exact ih_loopB (u + 1) R H locs ls (by omega) (by omega) hF hP hD hS (lv_sub hl [1, 2, 0] rfl)
          exact loopB (N + 1) 0 R _ _ ls (by omega) (by omega) hF hP hD hS (lv_sub hl [1, 2, 0] rfl)
        · rw [r_surR, if_pos c28] at hF
          subst hF
          exact W.vret hx hb hr (q_retm hP hS) hS.2.2 dX4_surround_31
      · rw [r_beg, if_pos c7] at hbg
        refine lv_aload_n hx hb dX4_surround_10 rfl (lv_at hl 0 rfl) ?_
        refine lv_iload_n hx hb dX4_surround_11 rfl (lv_at hl 1 rfl) ?_
        refine q_cV (As := [.int (nI b)]) (rest := []) ⟨hx, hb, hml, hown, hts⟩ (c_X4_onHull l dC dI o0 xb yb za ua wa va cI th (nI n) md (nI 0) od sz rd q b (by omega) (by omega) (fun j _ => lo j) lz lr) (cwV 1 hts gX4_surround_X4_onHull rfl rfl rfl (by decide +kernel) ⟨Nat.le_of_ble_eq_true rfl, Nat.le_of_ble_eq_true rfl⟩) (q_pV hK hP [0, 1, 2, 3] [0] 4 0 rfl rfl rfl rfl rfl rfl) rfl hl.1 rfl (Nat.le_of_ble_eq_true rfl) ⟨Nat.zero_le _, Nat.zero_le _⟩ dX4_surround_12 ?_
        refine lv_if_ge (tgt := 24) hx hb dX4_surround_15 (by decide) (fun c15 => ?_) (fun c15 => ?_)
        · rw [if_pos c15] at hbg
          have eb : b = r_beg od sz rd q n 0 := hbg
          refine lv_aload_n hx hb dX4_surround_24 rfl (lv_at hl 0 rfl) ?_
          refine va_get (D := (dC, dI)) (ci := 4) (v := .int (nI q)) (C := RX4) (T := TX4) (N := 11) hx hb hts (by decide +kernel) hown hK hP 0 rfl rfl 5 (by decide) (hts (.fieldLink RX4 65 "CircleCellsModel" "cells" "I") (by decide +kernel)) (fun _ h9 => h9) rfl dX4_surround_25 ?_
          refine q_ifn_ne (tgt := 32) (by omega) hx hb dX4_surround_28 (by decide) (fun c28 => ?_) (fun c28 => ?_)
          · rw [r_surR, if_neg c28] at hF
            obtain ⟨g1, g2, g3, g4, g5, g6⟩ := hH c28
            rw [← eb] at g1 g4 g5 g6 hF
            rw [← r_hrow_0 od sz rd q b hu] at hP hD
            refine lv_iload_n hx hb dX4_surround_32 rfl (lv_at hl 1 rfl) ?_
            have r_hlt : ∀ u, u ≤ N → r_hit od sz rd q b u < 20 := fun u hu => by
              rcases Nat.lt_or_ge u N with h | h
              · exact (g4 u h).1
              · rw [show u = N by omega, g5]; omega
            refine lv_istore_n (lv' := [(2, .int (nI b)), (0, .ref o0), (1, .int (nI b))]) hx hb dX4_surround_33 rfl hl (by decide) rfl (fun ls hl => ?_)
            have loopB : ∀ (f : Nat) (u : Nat) (R : (Nat → Nat) × Nat) (H : Heap) (locs : List Loc) (ls : Array Slot), (u ≤ N) → (N + 1 ≤ u + f) → (r_hrow od sz rd q b hu N, N) = R → va_P (dC, dI) vwCl [(o0, .inr (4, [.int th, .int (nI n), .ref xb, .ref yb, .int md, .int (nI q), .ref za, .ref ua, .ref wa, .int (nI u), .ref va])), (za, .inl (cI, 60, .inl (fun j9 => nI (sz j9)))), (ua, .inl (cI, 1200, .inl (fun j9 => nI (rd j9)))), (wa, .inl (cI, 60, .inl (fun j9 => nI (od j9)))), (va, .inl (cI, 20, .inl (fun j9 => nI ((r_hrow od sz rd q b hu u) j9))))] H → va_D A [(o0, .inr (4, [.int th, .int (nI n), .ref xb, .ref yb, .int md, .int (nI q), .ref za, .ref ua, .ref wa, .int (nI u), .ref va])), (za, .inl (cI, 60, .inl (fun j9 => nI (sz j9)))), (ua, .inl (cI, 1200, .inl (fun j9 => nI (rd j9)))), (wa, .inl (cI, 60, .inl (fun j9 => nI (od j9)))), (va, .inl (cI, 20, .inl (fun j9 => nI ((r_hrow od sz rd q b hu u) j9))))] → va_S A s.heap H locs → lv_has ls 3 [(0, .ref o0), (1, .int (nI b)), (2, .int (nI (r_hit od sz rd q b u)))] → W p l e (headSpec wsX4_surround ({ frames := 3, cells := 0, slots := 0, locals := 70 })).room s m ([.ref o0] : List Value).toArray below meth c H locs 0 0 (MQ below (q_Qm (dC, dI) A none [(o0, .inr (4, [.int th, .int (nI n), .ref xb, .ref yb, .int md, .int (nI q), .ref za, .ref ua, .ref wa, .int (nI R.2), .ref va])), (za, .inl (cI, 60, .inl (fun j9 => nI (sz j9)))), (ua, .inl (cI, 1200, .inl (fun j9 => nI (rd j9)))), (wa, .inl (cI, 60, .inl (fun j9 => nI (od j9)))), (va, .inl (cI, 20, .inl (fun j9 => nI (R.1 j9))))]) ([.ref o0] : List Value).toArray s 0 0 A) (F0 m 34 ls []) := by
              intro f
              induction f with
              | zero =>
                intro u R H locs ls h3 h4
                omega
              | succ f ih_loopB =>
                intro u R H locs ls h3 h4 hF hP hD hS hl
                refine lv_aload_n hx hb dX4_surround_34 rfl (lv_at hl 0 rfl) ?_
                refine va_get (D := (dC, dI)) (ci := 4) (v := .int (nI u)) (C := RX4) (T := TX4) (N := 11) hx hb hts (by decide +kernel) hown hK hP 0 rfl rfl 9 (by decide) (hts (.fieldLink RX4 72 "CircleCellsModel" "hullSize" "I") (by decide +kernel)) (fun _ h9 => h9) rfl dX4_surround_35 ?_
                refine q_ifn_eq (tgt := 46) (by omega) hx hb dX4_surround_38 (by decide) (fun c38 => ?_) (fun c38 => ?_)
                · have hu9 : u < N := by omega
                  refine lv_aload_n hx hb dX4_surround_46 rfl (lv_at hl 0 rfl) ?_
                  refine va_get (D := (dC, dI)) (ci := 4) (v := .ref va) (C := RX4) (T := TX4) (N := 11) hx hb hts (by decide +kernel) hown hK hP 0 rfl rfl 10 (by decide) (hts (.fieldLink RX4 25 "CircleCellsModel" "hull" "[I") (by decide +kernel)) (fun _ h9 => h9) rfl dX4_surround_47 ?_
                  refine lv_aload_n hx hb dX4_surround_50 rfl (lv_at hl 0 rfl) ?_
                  refine va_get (D := (dC, dI)) (ci := 4) (v := .int (nI u)) (C := RX4) (T := TX4) (N := 11) hx hb hts (by decide +kernel) hown hK hP 0 rfl rfl 9 (by decide) (hts (.fieldLink RX4 72 "CircleCellsModel" "hullSize" "I") (by decide +kernel)) (fun _ h9 => h9) rfl dX4_surround_51 ?_
                  refine lv_iload_n hx hb dX4_surround_54 rfl (lv_at hl 2 rfl) ?_
                  refine q_iast (ws' := [(o0, .inr (4, [.int th, .int (nI n), .ref xb, .ref yb, .int md, .int (nI q), .ref za, .ref ua, .ref wa, .int (nI u), .ref va])), (za, .inl (cI, 60, .inl (fun j9 => nI (sz j9)))), (ua, .inl (cI, 1200, .inl (fun j9 => nI (rd j9)))), (wa, .inl (cI, 60, .inl (fun j9 => nI (od j9)))), (va, .inl (cI, 20, .inl (fun j9 => nI ((updN (r_hrow od sz rd q b hu u) u (r_hit od sz rd q b u)) j9))))]) hx hb hK hP hD hS 4 0 rfl rfl (u) rfl (by omega) (by decide) dX4_surround_55 (by rw [upd_nI]; rfl) (fun H locs hP hD hS => ?_)
                  refine lv_aload_n hx hb dX4_surround_56 rfl (lv_at hl 0 rfl) ?_
                  refine lv_dup hx hb dX4_surround_57 rfl ?_
                  refine va_get (D := (dC, dI)) (ci := 4) (v := .int (nI u)) (C := RX4) (T := TX4) (N := 11) hx hb hts (by decide +kernel) hown hK hP 0 rfl rfl 9 (by decide) (hts (.fieldLink RX4 72 "CircleCellsModel" "hullSize" "I") (by decide +kernel)) (fun _ h9 => h9) rfl dX4_surround_58 ?_
                  refine lv_iconst (v := nI 1) hx hb dX4_surround_61 (by decide) ?_
                  refine q_iadd hx hb dX4_surround_62 ?_
                  refine va_put (D := (dC, dI)) (ci := 4) (v := .int (nI (u + 1))) (ty := .int) (C := RX4) (T := TX4) (N := 11) hx hb hts (by decide +kernel) tyX4 tyX4_ok nmX4 hown hK hP hD hS 0 rfl rfl 9 (by decide) (hts (.fieldLink RX4 72 "CircleCellsModel" "hullSize" "I") (by decide +kernel)) (fun _ h9 => h9) rfl (by decide +kernel) rfl rfl (Nat.le_of_ble_eq_true rfl) dX4_surround_63 (fun H locs hP hD hS => ?_)
                  have hP : va_P (dC, dI) vwCl [(o0, .inr (4, [.int th, .int (nI n), .ref xb, .ref yb, .int md, .int (nI q), .ref za, .ref ua, .ref wa, .int (nI (u + 1)), .ref va])), (za, .inl (cI, 60, .inl (fun j9 => nI (sz j9)))), (ua, .inl (cI, 1200, .inl (fun j9 => nI (rd j9)))), (wa, .inl (cI, 60, .inl (fun j9 => nI (od j9)))), (va, .inl (cI, 20, .inl (fun j9 => nI ((updN (r_hrow od sz rd q b hu u) u (r_hit od sz rd q b u)) j9))))] H := hP
                  have hD : va_D A [(o0, .inr (4, [.int th, .int (nI n), .ref xb, .ref yb, .int md, .int (nI q), .ref za, .ref ua, .ref wa, .int (nI (u + 1)), .ref va])), (za, .inl (cI, 60, .inl (fun j9 => nI (sz j9)))), (ua, .inl (cI, 1200, .inl (fun j9 => nI (rd j9)))), (wa, .inl (cI, 60, .inl (fun j9 => nI (od j9)))), (va, .inl (cI, 20, .inl (fun j9 => nI ((updN (r_hrow od sz rd q b hu u) u (r_hit od sz rd q b u)) j9))))] := hD
                  refine lv_aload_n hx hb dX4_surround_66 rfl (lv_at hl 0 rfl) ?_
                  refine lv_iload_n hx hb dX4_surround_67 rfl (lv_at hl 2 rfl) ?_
                  refine q_cV (As := [.int (nI (r_hit od sz rd q b u))]) (rest := []) ⟨hx, hb, hml, hown, hts⟩ (c_X4_onHull l dC dI o0 xb yb za ua wa va cI th (nI n) md (nI (u + 1)) od sz rd q (r_hit od sz rd q b u) (by omega) (g4 u hu9).1 (fun j _ => lo j) lz lr) (cwV 1 hts gX4_surround_X4_onHull rfl rfl rfl (by decide +kernel) ⟨Nat.le_of_ble_eq_true rfl, Nat.le_of_ble_eq_true rfl⟩) (q_pV hK hP [0, 1, 2, 3] [0] 4 0 rfl rfl rfl rfl rfl rfl) rfl hl.1 rfl (Nat.le_of_ble_eq_true rfl) ⟨Nat.zero_le _, Nat.zero_le _⟩ dX4_surround_68 ?_
                  rw [r_hrow_s] at hP hD
                  rw [(g4 u hu9).2]
                  refine lv_istore_n (lv' := [(2, .int (nI (r_hit od sz rd q b (u + 1)))), (0, .ref o0), (1, .int (nI b))]) hx hb dX4_surround_71 rfl hl (by decide) rfl (fun ls hl => ?_)
                  refine lv_goto (tgt := 34) hx hb dX4_surround_72 (by decide) ?_
                  exact ih_loopB (u + 1) R H locs ls (by omega) (by omega) hF hP hD hS (lv_sub hl [1, 2, 0] rfl)
                · refine lv_iload_n hx hb dX4_surround_41 rfl (lv_at hl 2 rfl) ?_
                  refine lv_iload_n hx hb dX4_surround_42 rfl (lv_at hl 1 rfl) ?_
                  refine q_icmp_eq (tgt := 75) (by have := r_hlt u (by omega); omega) (by omega) hx hb dX4_surround_43 (by decide) (fun c43 => ?_) (fun c43 => ?_)
                  · have hu9 : u = N := Classical.byContradiction (fun h => g6 u (by omega) (by omega) c43)
                    subst hu9
                    subst hF
                    exact W.vret hx hb hr (q_retm hP hS) hS.2.2 dX4_surround_75
                  · have hu9 : u < N := by
                      rcases Nat.lt_or_ge u N with h | h
                      · exact h
                      · exact absurd (by rw [show u = N by omega]; exact g5) c43
                    refine lv_aload_n hx hb dX4_surround_46 rfl (lv_at hl 0 rfl) ?_
                    refine va_get (D := (dC, dI)) (ci := 4) (v := .ref va) (C := RX4) (T := TX4) (N := 11) hx hb hts (by decide +kernel) hown hK hP 0 rfl rfl 10 (by decide) (hts (.fieldLink RX4 25 "CircleCellsModel" "hull" "[I") (by decide +kernel)) (fun _ h9 => h9) rfl dX4_surround_47 ?_
                    refine lv_aload_n hx hb dX4_surround_50 rfl (lv_at hl 0 rfl) ?_
                    refine va_get (D := (dC, dI)) (ci := 4) (v := .int (nI u)) (C := RX4) (T := TX4) (N := 11) hx hb hts (by decide +kernel) hown hK hP 0 rfl rfl 9 (by decide) (hts (.fieldLink RX4 72 "CircleCellsModel" "hullSize" "I") (by decide +kernel)) (fun _ h9 => h9) rfl dX4_surround_51 ?_
                    refine lv_iload_n hx hb dX4_surround_54 rfl (lv_at hl 2 rfl) ?_
                    refine q_iast (ws' := [(o0, .inr (4, [.int th, .int (nI n), .ref xb, .ref yb, .int md, .int (nI q), .ref za, .ref ua, .ref wa, .int (nI u), .ref va])), (za, .inl (cI, 60, .inl (fun j9 => nI (sz j9)))), (ua, .inl (cI, 1200, .inl (fun j9 => nI (rd j9)))), (wa, .inl (cI, 60, .inl (fun j9 => nI (od j9)))), (va, .inl (cI, 20, .inl (fun j9 => nI ((updN (r_hrow od sz rd q b hu u) u (r_hit od sz rd q b u)) j9))))]) hx hb hK hP hD hS 4 0 rfl rfl (u) rfl (by omega) (by decide) dX4_surround_55 (by rw [upd_nI]; rfl) (fun H locs hP hD hS => ?_)
                    refine lv_aload_n hx hb dX4_surround_56 rfl (lv_at hl 0 rfl) ?_
                    refine lv_dup hx hb dX4_surround_57 rfl ?_
                    refine va_get (D := (dC, dI)) (ci := 4) (v := .int (nI u)) (C := RX4) (T := TX4) (N := 11) hx hb hts (by decide +kernel) hown hK hP 0 rfl rfl 9 (by decide) (hts (.fieldLink RX4 72 "CircleCellsModel" "hullSize" "I") (by decide +kernel)) (fun _ h9 => h9) rfl dX4_surround_58 ?_
                    refine lv_iconst (v := nI 1) hx hb dX4_surround_61 (by decide) ?_
                    refine q_iadd hx hb dX4_surround_62 ?_
                    refine va_put (D := (dC, dI)) (ci := 4) (v := .int (nI (u + 1))) (ty := .int) (C := RX4) (T := TX4) (N := 11) hx hb hts (by decide +kernel) tyX4 tyX4_ok nmX4 hown hK hP hD hS 0 rfl rfl 9 (by decide) (hts (.fieldLink RX4 72 "CircleCellsModel" "hullSize" "I") (by decide +kernel)) (fun _ h9 => h9) rfl (by decide +kernel) rfl rfl (Nat.le_of_ble_eq_true rfl) dX4_surround_63 (fun H locs hP hD hS => ?_)
                    have hP : va_P (dC, dI) vwCl [(o0, .inr (4, [.int th, .int (nI n), .ref xb, .ref yb, .int md, .int (nI q), .ref za, .ref ua, .ref wa, .int (nI (u + 1)), .ref va])), (za, .inl (cI, 60, .inl (fun j9 => nI (sz j9)))), (ua, .inl (cI, 1200, .inl (fun j9 => nI (rd j9)))), (wa, .inl (cI, 60, .inl (fun j9 => nI (od j9)))), (va, .inl (cI, 20, .inl (fun j9 => nI ((updN (r_hrow od sz rd q b hu u) u (r_hit od sz rd q b u)) j9))))] H := hP
                    have hD : va_D A [(o0, .inr (4, [.int th, .int (nI n), .ref xb, .ref yb, .int md, .int (nI q), .ref za, .ref ua, .ref wa, .int (nI (u + 1)), .ref va])), (za, .inl (cI, 60, .inl (fun j9 => nI (sz j9)))), (ua, .inl (cI, 1200, .inl (fun j9 => nI (rd j9)))), (wa, .inl (cI, 60, .inl (fun j9 => nI (od j9)))), (va, .inl (cI, 20, .inl (fun j9 => nI ((updN (r_hrow od sz rd q b hu u) u (r_hit od sz rd q b u)) j9))))] := hD
                    refine lv_aload_n hx hb dX4_surround_66 rfl (lv_at hl 0 rfl) ?_
                    refine lv_iload_n hx hb dX4_surround_67 rfl (lv_at hl 2 rfl) ?_
                    refine q_cV (As := [.int (nI (r_hit od sz rd q b u))]) (rest := []) ⟨hx, hb, hml, hown, hts⟩ (c_X4_onHull l dC dI o0 xb yb za ua wa va cI th (nI n) md (nI (u + 1)) od sz rd q (r_hit od sz rd q b u) (by omega) (g4 u hu9).1 (fun j _ => lo j) lz lr) (cwV 1 hts gX4_surround_X4_onHull rfl rfl rfl (by decide +kernel) ⟨Nat.le_of_ble_eq_true rfl, Nat.le_of_ble_eq_true rfl⟩) (q_pV hK hP [0, 1, 2, 3] [0] 4 0 rfl rfl rfl rfl rfl rfl) rfl hl.1 rfl (Nat.le_of_ble_eq_true rfl) ⟨Nat.zero_le _, Nat.zero_le _⟩ dX4_surround_68 ?_
                    rw [r_hrow_s] at hP hD
                    rw [(g4 u hu9).2]
                    refine lv_istore_n (lv' := [(2, .int (nI (r_hit od sz rd q b (u + 1)))), (0, .ref o0), (1, .int (nI b))]) hx hb dX4_surround_71 rfl hl (by decide) rfl (fun ls hl => ?_)
                    refine lv_goto (tgt := 34) hx hb dX4_surround_72 (by decide) ?_
                    exact ih_loopB (u + 1) R H locs ls (by omega) (by omega) hF hP hD hS (lv_sub hl [1, 2, 0] rfl)
            exact loopB (N + 1) 0 R _ _ ls (by omega) (by omega) hF hP hD hS (lv_sub hl [1, 2, 0] rfl)
          · rw [r_surR, if_pos c28] at hF
            subst hF
            exact W.vret hx hb hr (q_retm hP hS) hS.2.2 dX4_surround_31
        · rw [if_neg c15] at hbg
          refine lv_iinc (v := nI (b + 1)) (lv' := [(1, .int (nI (b + 1))), (0, .ref o0)]) hx hb dX4_surround_18 hl (k := 1) rfl (by rw [show Int32.ofInt 1 = 1 from rfl]; exact nI_1 _) (by decide) rfl (fun ls hl => ?_)
          refine lv_goto (tgt := 2) hx hb dX4_surround_21 (by decide) ?_
          exact ih_loopA (b + 1) R H locs ls (by omega) (by omega) hbg hF hP hD hS (lv_sub hl [1, 0] rfl)
  exact loopA (n + 1) 0 R _ _ ls (by omega) (by omega) rfl hR hP hD hS (lv_sub hl [1, 0] rfl)
set_option maxHeartbeats 4000000 in
set_option maxRecDepth 100000 in
theorem c_X4_make (l : Launch) (dC : Nat → ClassId) (dI : Nat → Nat → Nat) (o0 xb yb za ua wa va : Nat) (cI : ClassId) (th md : Int32) (x y : Nat → Int32) (sz rd od hu : Nat → Nat) (n q hz N : Nat) (ln : n ≤ 20) (lo : ∀ j, od j < 60) (lz : ∀ j, sz j ≤ 20) (lr : ∀ j, rd j < 20) (hG : md = 0 → r_good x y n sz rd od N) (R : Int32 × ((Nat → Nat) × (Nat → Nat) × Nat) × (Nat → Nat) × (Nat → Nat) × Nat) (hR : r_mkR x y n md sz rd q od hu hz N = R) : Met l yX4_make wsX4_make ({ frames := 4, cells := 0, slots := 0, locals := 92 }) (q_Pm (dC, dI) [.ref o0] [(o0, .inr (4, [.int th, .int (nI n), .ref xb, .ref yb, .int md, .int (nI q), .ref za, .ref ua, .ref wa, .int (nI hz), .ref va])), (xb, .inl (cI, 20, .inl x)), (yb, .inl (cI, 20, .inl y)), (za, .inl (cI, 60, .inl (fun j9 => nI (sz j9)))), (ua, .inl (cI, 1200, .inl (fun j9 => nI (rd j9)))), (wa, .inl (cI, 60, .inl (fun j9 => nI (od j9)))), (va, .inl (cI, 20, .inl (fun j9 => nI (hu j9))))] [(cI, .int)]) (q_Qm (dC, dI) (q_in [(o0, .inr (4, [.int th, .int (nI n), .ref xb, .ref yb, .int md, .int (nI q), .ref za, .ref ua, .ref wa, .int (nI hz), .ref va])), (xb, .inl (cI, 20, .inl x)), (yb, .inl (cI, 20, .inl y)), (za, .inl (cI, 60, .inl (fun j9 => nI (sz j9)))), (ua, .inl (cI, 1200, .inl (fun j9 => nI (rd j9)))), (wa, .inl (cI, 60, .inl (fun j9 => nI (od j9)))), (va, .inl (cI, 20, .inl (fun j9 => nI (hu j9))))]) none [(o0, .inr (4, [.int th, .int (nI n), .ref xb, .ref yb, .int R.1, .int (nI R.2.1.2.2), .ref za, .ref ua, .ref wa, .int (nI R.2.2.2.2), .ref va])), (xb, .inl (cI, 20, .inl x)), (yb, .inl (cI, 20, .inl y)), (za, .inl (cI, 60, .inl (fun j9 => nI (R.2.1.1 j9)))), (ua, .inl (cI, 1200, .inl (fun j9 => nI (R.2.1.2.1 j9)))), (wa, .inl (cI, 60, .inl (fun j9 => nI (R.2.2.1 j9)))), (va, .inl (cI, 20, .inl (fun j9 => nI (R.2.2.2.1 j9))))]) 0 0 (q_in [(o0, .inr (4, [.int th, .int (nI n), .ref xb, .ref yb, .int md, .int (nI q), .ref za, .ref ua, .ref wa, .int (nI hz), .ref va])), (xb, .inl (cI, 20, .inl x)), (yb, .inl (cI, 20, .inl y)), (za, .inl (cI, 60, .inl (fun j9 => nI (sz j9)))), (ua, .inl (cI, 1200, .inl (fun j9 => nI (rd j9)))), (wa, .inl (cI, 60, .inl (fun j9 => nI (od j9)))), (va, .inl (cI, 20, .inl (fun j9 => nI (hu j9))))]) := by
  refine Met.ofW (cc := cX4_make) (maxL := 6) (ret := none) (by decide) rfl ?_
  intro p e s m args below meth c s₁ B hml hv
  obtain ⟨rfl, hP, hK, hD0⟩ := hv
  have hx := B.exec
  have hb := B.bytes
  have hr := B.returns
  have hts := atoms_spec (ws := wsX4_make) B.pre
  have hown : s.vm.findClass RX4 = some m.cls := findClass_of_methodNamed B.named
  have hlocks := B.notSynchronized
  have hD := q_inD hD0
  generalize hAe : q_in [(o0, .inr (4, [.int th, .int (nI n), .ref xb, .ref yb, .int md, .int (nI q), .ref za, .ref ua, .ref wa, .int (nI hz), .ref va])), (xb, .inl (cI, 20, .inl x)), (yb, .inl (cI, 20, .inl y)), (za, .inl (cI, 60, .inl (fun j9 => nI (sz j9)))), (ua, .inl (cI, 1200, .inl (fun j9 => nI (rd j9)))), (wa, .inl (cI, 60, .inl (fun j9 => nI (od j9)))), (va, .inl (cI, 20, .inl (fun j9 => nI (hu j9))))] = A at hD ⊢
  have hS : va_S A s.heap s.heap [] := va_S.rf
  have hP : va_P (dC, dI) vwCl [(o0, .inr (4, [.int th, .int (nI n), .ref xb, .ref yb, .int md, .int (nI q), .ref za, .ref ua, .ref wa, .int (nI hz), .ref va])), (xb, .inl (cI, 20, .inl x)), (yb, .inl (cI, 20, .inl y)), (za, .inl (cI, 60, .inl (fun j9 => nI (sz j9)))), (ua, .inl (cI, 1200, .inl (fun j9 => nI (rd j9)))), (wa, .inl (cI, 60, .inl (fun j9 => nI (od j9)))), (va, .inl (cI, 20, .inl (fun j9 => nI (hu j9))))] s.heap := hP
  have hl := lv_entry ([.ref o0]) (n := 6) (Nat.le_of_ble_eq_true rfl)
  rw [lg_entry_eq]
  generalize (lg_sl ([.ref o0]) ++ List.replicate (6 - (lg_sl ([.ref o0])).length) Slot.unset).toArray = ls at hl ⊢
  have hl : lv_has ls 6 [(0, .ref o0)] := hl
  refine lv_aload_n hx hb dX4_make_0 rfl (lv_at hl 0 rfl) ?_
  refine va_get (D := (dC, dI)) (ci := 4) (v := .int md) (C := RX4) (T := TX4) (N := 11) hx hb hts (by decide +kernel) hown hK hP 0 rfl rfl 4 (by decide) (hts (.fieldLink RX4 47 "CircleCellsModel" "made" "Z") (by decide +kernel)) (fun _ h9 => h9) rfl dX4_make_1 ?_
  refine lv_if_eq (tgt := 8) hx hb dX4_make_4 (by decide) (fun c4 => ?_) (fun c4 => ?_)
  · rw [r_mkR, if_pos c4] at hR
    obtain ⟨hG1, hG2, hG3⟩ := hG c4
    refine lv_aload_n hx hb dX4_make_8 rfl (lv_at hl 0 rfl) ?_
    refine lv_iconst (v := 1) hx hb dX4_make_9 (by decide) ?_
    refine va_put (D := (dC, dI)) (ci := 4) (v := .int 1) (ty := .boolean) (C := RX4) (T := TX4) (N := 11) hx hb hts (by decide +kernel) tyX4 tyX4_ok nmX4 hown hK hP hD hS 0 rfl rfl 4 (by decide) (hts (.fieldLink RX4 47 "CircleCellsModel" "made" "Z") (by decide +kernel)) (fun _ h9 => h9) rfl (by decide +kernel) rfl rfl (Nat.le_of_ble_eq_true rfl) dX4_make_10 (fun H locs hP hD hS => ?_)
    have hP : va_P (dC, dI) vwCl [(o0, .inr (4, [.int th, .int (nI n), .ref xb, .ref yb, .int 1, .int (nI q), .ref za, .ref ua, .ref wa, .int (nI hz), .ref va])), (xb, .inl (cI, 20, .inl x)), (yb, .inl (cI, 20, .inl y)), (za, .inl (cI, 60, .inl (fun j9 => nI (sz j9)))), (ua, .inl (cI, 1200, .inl (fun j9 => nI (rd j9)))), (wa, .inl (cI, 60, .inl (fun j9 => nI (od j9)))), (va, .inl (cI, 20, .inl (fun j9 => nI (hu j9))))] H := hP
    have hD : va_D A [(o0, .inr (4, [.int th, .int (nI n), .ref xb, .ref yb, .int 1, .int (nI q), .ref za, .ref ua, .ref wa, .int (nI hz), .ref va])), (xb, .inl (cI, 20, .inl x)), (yb, .inl (cI, 20, .inl y)), (za, .inl (cI, 60, .inl (fun j9 => nI (sz j9)))), (ua, .inl (cI, 1200, .inl (fun j9 => nI (rd j9)))), (wa, .inl (cI, 60, .inl (fun j9 => nI (od j9)))), (va, .inl (cI, 20, .inl (fun j9 => nI (hu j9))))] := hD
    refine lv_aload_n hx hb dX4_make_13 rfl (lv_at hl 0 rfl) ?_
    refine lv_iconst (v := nI 0) hx hb dX4_make_14 (by decide) ?_
    refine va_put (D := (dC, dI)) (ci := 4) (v := .int (nI 0)) (ty := .int) (C := RX4) (T := TX4) (N := 11) hx hb hts (by decide +kernel) tyX4 tyX4_ok nmX4 hown hK hP hD hS 0 rfl rfl 5 (by decide) (hts (.fieldLink RX4 65 "CircleCellsModel" "cells" "I") (by decide +kernel)) (fun _ h9 => h9) rfl (by decide +kernel) rfl rfl (Nat.le_of_ble_eq_true rfl) dX4_make_15 (fun H locs hP hD hS => ?_)
    have hP : va_P (dC, dI) vwCl [(o0, .inr (4, [.int th, .int (nI n), .ref xb, .ref yb, .int 1, .int (nI 0), .ref za, .ref ua, .ref wa, .int (nI hz), .ref va])), (xb, .inl (cI, 20, .inl x)), (yb, .inl (cI, 20, .inl y)), (za, .inl (cI, 60, .inl (fun j9 => nI (sz j9)))), (ua, .inl (cI, 1200, .inl (fun j9 => nI (rd j9)))), (wa, .inl (cI, 60, .inl (fun j9 => nI (od j9)))), (va, .inl (cI, 20, .inl (fun j9 => nI (hu j9))))] H := hP
    have hD : va_D A [(o0, .inr (4, [.int th, .int (nI n), .ref xb, .ref yb, .int 1, .int (nI 0), .ref za, .ref ua, .ref wa, .int (nI hz), .ref va])), (xb, .inl (cI, 20, .inl x)), (yb, .inl (cI, 20, .inl y)), (za, .inl (cI, 60, .inl (fun j9 => nI (sz j9)))), (ua, .inl (cI, 1200, .inl (fun j9 => nI (rd j9)))), (wa, .inl (cI, 60, .inl (fun j9 => nI (od j9)))), (va, .inl (cI, 20, .inl (fun j9 => nI (hu j9))))] := hD
    refine lv_aload_n hx hb dX4_make_18 rfl (lv_at hl 0 rfl) ?_
    refine lv_iconst (v := nI 0) hx hb dX4_make_19 (by decide) ?_
    refine va_put (D := (dC, dI)) (ci := 4) (v := .int (nI 0)) (ty := .int) (C := RX4) (T := TX4) (N := 11) hx hb hts (by decide +kernel) tyX4 tyX4_ok nmX4 hown hK hP hD hS 0 rfl rfl 9 (by decide) (hts (.fieldLink RX4 72 "CircleCellsModel" "hullSize" "I") (by decide +kernel)) (fun _ h9 => h9) rfl (by decide +kernel) rfl rfl (Nat.le_of_ble_eq_true rfl) dX4_make_20 (fun H locs hP hD hS => ?_)
    have hP : va_P (dC, dI) vwCl [(o0, .inr (4, [.int th, .int (nI n), .ref xb, .ref yb, .int 1, .int (nI 0), .ref za, .ref ua, .ref wa, .int (nI 0), .ref va])), (xb, .inl (cI, 20, .inl x)), (yb, .inl (cI, 20, .inl y)), (za, .inl (cI, 60, .inl (fun j9 => nI (sz j9)))), (ua, .inl (cI, 1200, .inl (fun j9 => nI (rd j9)))), (wa, .inl (cI, 60, .inl (fun j9 => nI (od j9)))), (va, .inl (cI, 20, .inl (fun j9 => nI (hu j9))))] H := hP
    have hD : va_D A [(o0, .inr (4, [.int th, .int (nI n), .ref xb, .ref yb, .int 1, .int (nI 0), .ref za, .ref ua, .ref wa, .int (nI 0), .ref va])), (xb, .inl (cI, 20, .inl x)), (yb, .inl (cI, 20, .inl y)), (za, .inl (cI, 60, .inl (fun j9 => nI (sz j9)))), (ua, .inl (cI, 1200, .inl (fun j9 => nI (rd j9)))), (wa, .inl (cI, 60, .inl (fun j9 => nI (od j9)))), (va, .inl (cI, 20, .inl (fun j9 => nI (hu j9))))] := hD
    refine lv_iconst (v := nI 0) hx hb dX4_make_23 (by decide) ?_
    refine lv_istore_n (lv' := [(1, .int (nI 0)), (0, .ref o0)]) hx hb dX4_make_24 rfl hl (by decide) rfl (fun ls hl => ?_)
    have loopA : ∀ (f : Nat) (z : (Nat → Nat) × (Nat → Nat) × Nat) (a : Nat) (R : Int32 × ((Nat → Nat) × (Nat → Nat) × Nat) × (Nat → Nat) × (Nat → Nat) × Nat) (H : Heap) (locs : List Loc) (ls : Array Slot), (a ≤ n) → (n + 1 ≤ a + f) → (r_zok z) → (r_ma x y n z a = r_ma x y n (sz, rd, 0) 0) → r_fin n od hu N (r_ma x y n z a) = R → va_P (dC, dI) vwCl [(o0, .inr (4, [.int th, .int (nI n), .ref xb, .ref yb, .int 1, .int (nI z.2.2), .ref za, .ref ua, .ref wa, .int (nI 0), .ref va])), (xb, .inl (cI, 20, .inl x)), (yb, .inl (cI, 20, .inl y)), (za, .inl (cI, 60, .inl (fun j9 => nI (z.1 j9)))), (ua, .inl (cI, 1200, .inl (fun j9 => nI (z.2.1 j9)))), (wa, .inl (cI, 60, .inl (fun j9 => nI (od j9)))), (va, .inl (cI, 20, .inl (fun j9 => nI (hu j9))))] H → va_D A [(o0, .inr (4, [.int th, .int (nI n), .ref xb, .ref yb, .int 1, .int (nI z.2.2), .ref za, .ref ua, .ref wa, .int (nI 0), .ref va])), (xb, .inl (cI, 20, .inl x)), (yb, .inl (cI, 20, .inl y)), (za, .inl (cI, 60, .inl (fun j9 => nI (z.1 j9)))), (ua, .inl (cI, 1200, .inl (fun j9 => nI (z.2.1 j9)))), (wa, .inl (cI, 60, .inl (fun j9 => nI (od j9)))), (va, .inl (cI, 20, .inl (fun j9 => nI (hu j9))))] → va_S A s.heap H locs → lv_has ls 6 [(0, .ref o0), (1, .int (nI a))] → W p l e (headSpec wsX4_make ({ frames := 4, cells := 0, slots := 0, locals := 92 })).room s m ([.ref o0] : List Value).toArray below meth c H locs 0 0 (MQ below (q_Qm (dC, dI) A none [(o0, .inr (4, [.int th, .int (nI n), .ref xb, .ref yb, .int R.1, .int (nI R.2.1.2.2), .ref za, .ref ua, .ref wa, .int (nI R.2.2.2.2), .ref va])), (xb, .inl (cI, 20, .inl x)), (yb, .inl (cI, 20, .inl y)), (za, .inl (cI, 60, .inl (fun j9 => nI (R.2.1.1 j9)))), (ua, .inl (cI, 1200, .inl (fun j9 => nI (R.2.1.2.1 j9)))), (wa, .inl (cI, 60, .inl (fun j9 => nI (R.2.2.1 j9)))), (va, .inl (cI, 20, .inl (fun j9 => nI (R.2.2.2.1 j9))))]) ([.ref o0] : List Value).toArray s 0 0 A) (F0 m 25 ls []) := by
      intro f
      induction f with
      | zero =>
        intro z a R H locs ls h1 h2 hzk he
        omega
      | succ f ih_loopA =>
        intro z a R H locs ls h1 h2 hzk he hF hP hD hS hl
        refine lv_iload_n hx hb dX4_make_25 rfl (lv_at hl 1 rfl) ?_
        refine lv_aload_n hx hb dX4_make_26 rfl (lv_at hl 0 rfl) ?_
        refine va_get (D := (dC, dI)) (ci := 4) (v := .int (nI n)) (C := RX4) (T := TX4) (N := 11) hx hb hts (by decide +kernel) hown hK hP 0 rfl rfl 1 (by decide) (hts (.fieldLink RX4 32 "CircleCellsModel" "sites" "I") (by decide +kernel)) (fun _ h9 => h9) rfl dX4_make_27 ?_
        refine q_icmp_ge (tgt := 149) (by omega) (by omega) hx hb dX4_make_30 (by decide) (fun c30 => ?_) (fun c30 => ?_)
        · rw [r_ma, if_neg (by omega)] at hF he
          have hq9 : z.2.2 ≤ 59 := by rw [he]; exact hG2
          have hG4 : ¬ z.2.2 = 0 → r_hok (r_ord z.1 z.2.1 z.2.2 od 0) z.1 z.2.1 z.2.2 n N := by rw [he]; exact hG3
          clear hG1 hG2 hG3 he
          refine lv_iconst (v := nI 0) hx hb dX4_make_149 (by decide) ?_
          refine lv_istore_n (lv' := [(1, .int (nI 0)), (0, .ref o0)]) hx hb dX4_make_150 rfl hl (by decide) rfl (fun ls hl => ?_)
          have loopD : ∀ (f : Nat) (od : Nat → Nat) (k : Nat) (R : Int32 × ((Nat → Nat) × (Nat → Nat) × Nat) × (Nat → Nat) × (Nat → Nat) × Nat) (H : Heap) (locs : List Loc) (ls : Array Slot), (k ≤ z.2.2) → (z.2.2 + 1 ≤ k + f) → (∀ j, od j < 60) → (¬ z.2.2 = 0 → r_hok (r_ord z.1 z.2.1 z.2.2 od k) z.1 z.2.1 z.2.2 n N) → ((1 : Int32), z, r_ord z.1 z.2.1 z.2.2 od k, r_surR (r_ord z.1 z.2.1 z.2.2 od k) z.1 z.2.1 z.2.2 n hu N) = R → va_P (dC, dI) vwCl [(o0, .inr (4, [.int th, .int (nI n), .ref xb, .ref yb, .int 1, .int (nI z.2.2), .ref za, .ref ua, .ref wa, .int (nI 0), .ref va])), (xb, .inl (cI, 20, .inl x)), (yb, .inl (cI, 20, .inl y)), (za, .inl (cI, 60, .inl (fun j9 => nI (z.1 j9)))), (ua, .inl (cI, 1200, .inl (fun j9 => nI (z.2.1 j9)))), (wa, .inl (cI, 60, .inl (fun j9 => nI (od j9)))), (va, .inl (cI, 20, .inl (fun j9 => nI (hu j9))))] H → va_D A [(o0, .inr (4, [.int th, .int (nI n), .ref xb, .ref yb, .int 1, .int (nI z.2.2), .ref za, .ref ua, .ref wa, .int (nI 0), .ref va])), (xb, .inl (cI, 20, .inl x)), (yb, .inl (cI, 20, .inl y)), (za, .inl (cI, 60, .inl (fun j9 => nI (z.1 j9)))), (ua, .inl (cI, 1200, .inl (fun j9 => nI (z.2.1 j9)))), (wa, .inl (cI, 60, .inl (fun j9 => nI (od j9)))), (va, .inl (cI, 20, .inl (fun j9 => nI (hu j9))))] → va_S A s.heap H locs → lv_has ls 6 [(0, .ref o0), (1, .int (nI k))] → W p l e (headSpec wsX4_make ({ frames := 4, cells := 0, slots := 0, locals := 92 })).room s m ([.ref o0] : List Value).toArray below meth c H locs 0 0 (MQ below (q_Qm (dC, dI) A none [(o0, .inr (4, [.int th, .int (nI n), .ref xb, .ref yb, .int R.1, .int (nI R.2.1.2.2), .ref za, .ref ua, .ref wa, .int (nI R.2.2.2.2), .ref va])), (xb, .inl (cI, 20, .inl x)), (yb, .inl (cI, 20, .inl y)), (za, .inl (cI, 60, .inl (fun j9 => nI (R.2.1.1 j9)))), (ua, .inl (cI, 1200, .inl (fun j9 => nI (R.2.1.2.1 j9)))), (wa, .inl (cI, 60, .inl (fun j9 => nI (R.2.2.1 j9)))), (va, .inl (cI, 20, .inl (fun j9 => nI (R.2.2.2.1 j9))))]) ([.ref o0] : List Value).toArray s 0 0 A) (F0 m 151 ls []) := by
            intro f
            induction f with
            | zero =>
              intro od k R H locs ls h8 h9 lo hh
              omega
            | succ f ih_loopD =>
              intro od k R H locs ls h8 h9 lo hh hF hP hD hS hl
              refine lv_iload_n hx hb dX4_make_151 rfl (lv_at hl 1 rfl) ?_
              refine lv_aload_n hx hb dX4_make_152 rfl (lv_at hl 0 rfl) ?_
              refine va_get (D := (dC, dI)) (ci := 4) (v := .int (nI z.2.2)) (C := RX4) (T := TX4) (N := 11) hx hb hts (by decide +kernel) hown hK hP 0 rfl rfl 5 (by decide) (hts (.fieldLink RX4 65 "CircleCellsModel" "cells" "I") (by decide +kernel)) (fun _ h9 => h9) rfl dX4_make_153 ?_
              refine q_icmp_ge (tgt := 207) (by omega) (by omega) hx hb dX4_make_156 (by decide) (fun c156 => ?_) (fun c156 => ?_)
              · rw [r_ord, if_neg (by omega)] at hF hh
                refine lv_aload_n hx hb dX4_make_207 rfl (lv_at hl 0 rfl) ?_
                obtain ⟨r8, hr8⟩ : ∃ r : (Nat → Nat) × Nat, r_surR od z.1 z.2.1 z.2.2 n hu N = r := ⟨_, rfl⟩
                refine q_mV (wc' := [(o0, .inr (4, [.int th, .int (nI n), .ref xb, .ref yb, .int 1, .int (nI z.2.2), .ref za, .ref ua, .ref wa, .int (nI r8.2), .ref va])), (za, .inl (cI, 60, .inl (fun j9 => nI (z.1 j9)))), (ua, .inl (cI, 1200, .inl (fun j9 => nI (z.2.1 j9)))), (wa, .inl (cI, 60, .inl (fun j9 => nI (od j9)))), (va, .inl (cI, 20, .inl (fun j9 => nI (r8.1 j9))))]) (wsN := [(o0, .inr (4, [.int th, .int (nI n), .ref xb, .ref yb, .int 1, .int (nI z.2.2), .ref za, .ref ua, .ref wa, .int (nI r8.2), .ref va])), (xb, .inl (cI, 20, .inl x)), (yb, .inl (cI, 20, .inl y)), (za, .inl (cI, 60, .inl (fun j9 => nI (z.1 j9)))), (ua, .inl (cI, 1200, .inl (fun j9 => nI (z.2.1 j9)))), (wa, .inl (cI, 60, .inl (fun j9 => nI (od j9)))), (va, .inl (cI, 20, .inl (fun j9 => nI (r8.1 j9))))]) (As := []) (rest := []) ⟨hx, hb, hml, hown, hts⟩ (c_X4_surround l dC dI o0 xb yb za ua wa va cI th 1 z.1 z.2.1 od hu n z.2.2 N (by omega) (by omega) lo hzk.1 hzk.2 hh r8 hr8) (cwV 0 hts gX4_make_X4_surround rfl rfl rfl (by decide +kernel) ⟨Nat.le_of_ble_eq_true rfl, Nat.le_of_ble_eq_true rfl⟩) hK hP hD hS [0, 3, 4, 5, 6] [0] 4 0 rfl rfl rfl rfl rfl rfl rfl rfl rfl hl.1 rfl (Nat.le_of_ble_eq_true rfl) ⟨Nat.zero_le _, Nat.zero_le _⟩ dX4_make_208 rfl (fun H locs hP hD hS => ?_)
                refine W.eq (g2 := F0 m 211 ls []) rfl ?_
                rw [hr8] at hF
                subst hF
                exact W.vret hx hb hr (q_retm hP hS) hS.2.2 dX4_make_211
              · rw [r_ord, if_pos c156] at hF hh
                refine lv_iconst (v := nI 0) hx hb dX4_make_159 (by decide) ?_
                refine lv_istore_n (lv' := [(2, .int (nI 0)), (0, .ref o0), (1, .int (nI k))]) hx hb dX4_make_160 rfl hl (by decide) rfl (fun ls hl => ?_)
                refine lv_iconst (v := nI 0) hx hb dX4_make_161 (by decide) ?_
                refine lv_istore_n (lv' := [(3, .int (nI 0)), (2, .int (nI 0)), (0, .ref o0), (1, .int (nI k))]) hx hb dX4_make_162 rfl hl (by decide) rfl (fun ls hl => ?_)
                have loopE : ∀ (f : Nat) (t : Nat) (i : Nat) (R : Int32 × ((Nat → Nat) × (Nat → Nat) × Nat) × (Nat → Nat) × (Nat → Nat) × Nat) (H : Heap) (locs : List Loc) (ls : Array Slot), (i ≤ z.2.2) → (z.2.2 + 1 ≤ i + f) → (t ≤ i) → (¬ z.2.2 = 0 → r_hok (r_ord z.1 z.2.1 z.2.2 (updN od (r_less z.1 z.2.1 z.2.2 k t i) k) (k + 1)) z.1 z.2.1 z.2.2 n N) → ((1 : Int32), z, r_ord z.1 z.2.1 z.2.2 (updN od (r_less z.1 z.2.1 z.2.2 k t i) k) (k + 1), r_surR (r_ord z.1 z.2.1 z.2.2 (updN od (r_less z.1 z.2.1 z.2.2 k t i) k) (k + 1)) z.1 z.2.1 z.2.2 n hu N) = R → va_P (dC, dI) vwCl [(o0, .inr (4, [.int th, .int (nI n), .ref xb, .ref yb, .int 1, .int (nI z.2.2), .ref za, .ref ua, .ref wa, .int (nI 0), .ref va])), (xb, .inl (cI, 20, .inl x)), (yb, .inl (cI, 20, .inl y)), (za, .inl (cI, 60, .inl (fun j9 => nI (z.1 j9)))), (ua, .inl (cI, 1200, .inl (fun j9 => nI (z.2.1 j9)))), (wa, .inl (cI, 60, .inl (fun j9 => nI (od j9)))), (va, .inl (cI, 20, .inl (fun j9 => nI (hu j9))))] H → va_D A [(o0, .inr (4, [.int th, .int (nI n), .ref xb, .ref yb, .int 1, .int (nI z.2.2), .ref za, .ref ua, .ref wa, .int (nI 0), .ref va])), (xb, .inl (cI, 20, .inl x)), (yb, .inl (cI, 20, .inl y)), (za, .inl (cI, 60, .inl (fun j9 => nI (z.1 j9)))), (ua, .inl (cI, 1200, .inl (fun j9 => nI (z.2.1 j9)))), (wa, .inl (cI, 60, .inl (fun j9 => nI (od j9)))), (va, .inl (cI, 20, .inl (fun j9 => nI (hu j9))))] → va_S A s.heap H locs → lv_has ls 6 [(0, .ref o0), (1, .int (nI k)), (2, .int (nI t)), (3, .int (nI i))] → W p l e (headSpec wsX4_make ({ frames := 4, cells := 0, slots := 0, locals := 92 })).room s m ([.ref o0] : List Value).toArray below meth c H locs 0 0 (MQ below (q_Qm (dC, dI) A none [(o0, .inr (4, [.int th, .int (nI n), .ref xb, .ref yb, .int R.1, .int (nI R.2.1.2.2), .ref za, .ref ua, .ref wa, .int (nI R.2.2.2.2), .ref va])), (xb, .inl (cI, 20, .inl x)), (yb, .inl (cI, 20, .inl y)), (za, .inl (cI, 60, .inl (fun j9 => nI (R.2.1.1 j9)))), (ua, .inl (cI, 1200, .inl (fun j9 => nI (R.2.1.2.1 j9)))), (wa, .inl (cI, 60, .inl (fun j9 => nI (R.2.2.1 j9)))), (va, .inl (cI, 20, .inl (fun j9 => nI (R.2.2.2.1 j9))))]) ([.ref o0] : List Value).toArray s 0 0 A) (F0 m 163 ls []) := by
                  intro f
                  induction f with
                  | zero =>
                    intro t i R H locs ls h10 h11 h12 hh
                    omega
                  | succ f ih_loopE =>
                    intro t i R H locs ls h10 h11 h12 hh hF hP hD hS hl
                    refine lv_iload_n hx hb dX4_make_163 rfl (lv_at hl 3 rfl) ?_
                    refine lv_aload_n hx hb dX4_make_164 rfl (lv_at hl 0 rfl) ?_
                    refine va_get (D := (dC, dI)) (ci := 4) (v := .int (nI z.2.2)) (C := RX4) (T := TX4) (N := 11) hx hb hts (by decide +kernel) hown hK hP 0 rfl rfl 5 (by decide) (hts (.fieldLink RX4 65 "CircleCellsModel" "cells" "I") (by decide +kernel)) (fun _ h9 => h9) rfl dX4_make_165 ?_
                    refine q_icmp_ge (tgt := 194) (by omega) (by omega) hx hb dX4_make_168 (by decide) (fun c168 => ?_) (fun c168 => ?_)
                    · rw [r_less, if_neg (by omega)] at hF hh
                      refine lv_aload_n hx hb dX4_make_194 rfl (lv_at hl 0 rfl) ?_
                      refine va_get (D := (dC, dI)) (ci := 4) (v := .ref wa) (C := RX4) (T := TX4) (N := 11) hx hb hts (by decide +kernel) hown hK hP 0 rfl rfl 8 (by decide) (hts (.fieldLink RX4 22 "CircleCellsModel" "order" "[I") (by decide +kernel)) (fun _ h9 => h9) rfl dX4_make_195 ?_
                      refine lv_iload_n hx hb dX4_make_198 rfl (lv_at hl 2 rfl) ?_
                      refine lv_iload_n hx hb dX4_make_199 rfl (lv_at hl 1 rfl) ?_
                      refine q_iast (ws' := [(o0, .inr (4, [.int th, .int (nI n), .ref xb, .ref yb, .int 1, .int (nI z.2.2), .ref za, .ref ua, .ref wa, .int (nI 0), .ref va])), (xb, .inl (cI, 20, .inl x)), (yb, .inl (cI, 20, .inl y)), (za, .inl (cI, 60, .inl (fun j9 => nI (z.1 j9)))), (ua, .inl (cI, 1200, .inl (fun j9 => nI (z.2.1 j9)))), (wa, .inl (cI, 60, .inl (fun j9 => nI ((updN od t k) j9)))), (va, .inl (cI, 20, .inl (fun j9 => nI (hu j9))))]) hx hb hK hP hD hS 5 0 rfl rfl (t) rfl (by omega) (by decide) dX4_make_200 (by rw [upd_nI]; rfl) (fun H locs hP hD hS => ?_)
                      refine lv_iinc (v := nI (k + 1)) (lv' := [(1, .int (nI (k + 1))), (0, .ref o0), (2, .int (nI t)), (3, .int (nI i))]) hx hb dX4_make_201 hl (k := 1) rfl (by rw [show Int32.ofInt 1 = 1 from rfl]; exact nI_1 _) (by decide) rfl (fun ls hl => ?_)
                      refine lv_goto (tgt := 151) hx hb dX4_make_204 (by decide) ?_
                      exact ih_loopD (updN od t k) (k + 1) R H locs ls (by omega) (by omega) (updN_lt lo (by omega)) hh hF hP hD hS (lv_sub hl [1, 0] rfl)
                    · rw [r_less, if_pos c168] at hF hh
                      refine lv_aload_n hx hb dX4_make_171 rfl (lv_at hl 0 rfl) ?_
                      refine lv_iload_n hx hb dX4_make_172 rfl (lv_at hl 3 rfl) ?_
                      refine lv_iload_n hx hb dX4_make_173 rfl (lv_at hl 1 rfl) ?_
                      refine q_cV (As := [.int (nI i), .int (nI k)]) (rest := []) ⟨hx, hb, hml, hown, hts⟩ (c_X4_isBefore l dC dI o0 xb yb za ua wa va cI th (nI n) 1 (nI z.2.2) (nI 0) z.1 z.2.1 i k (by omega) (by omega) hzk.1 hzk.2) (cwV 2 hts gX4_make_X4_isBefore rfl rfl rfl (by decide +kernel) ⟨Nat.le_of_ble_eq_true rfl, Nat.le_of_ble_eq_true rfl⟩) (q_pV hK hP [0, 3, 4] [0] 4 0 rfl rfl rfl rfl rfl rfl) rfl hl.1 rfl (Nat.le_of_ble_eq_true rfl) ⟨Nat.zero_le _, Nat.zero_le _⟩ dX4_make_174 ?_
                      refine q_ifb_eq (tgt := 186) hx hb dX4_make_177 (by decide) (fun c177 => ?_) (fun c177 => ?_)
                      · rw [if_pos c177] at hF hh
                        refine lv_iload_n hx hb dX4_make_186 rfl (lv_at hl 2 rfl) ?_
                        refine lv_istore_n (lv' := [(2, .int (nI t)), (0, .ref o0), (1, .int (nI k)), (3, .int (nI i))]) hx hb dX4_make_187 rfl hl (by decide) rfl (fun ls hl => ?_)
                        refine lv_iinc (v := nI (i + 1)) (lv' := [(3, .int (nI (i + 1))), (2, .int (nI t)), (0, .ref o0), (1, .int (nI k))]) hx hb dX4_make_188 hl (k := 3) rfl (by rw [show Int32.ofInt 1 = 1 from rfl]; exact nI_1 _) (by decide) rfl (fun ls hl => ?_)
                        refine lv_goto (tgt := 163) hx hb dX4_make_191 (by decide) ?_
                        exact ih_loopE t (i + 1) R H locs ls (by omega) (by omega) (by omega) hh hF hP hD hS (lv_sub hl [2, 3, 1, 0] rfl)
                      · rw [if_neg (by rw [c177]; decide)] at hF hh
                        refine lv_iload_n hx hb dX4_make_180 rfl (lv_at hl 2 rfl) ?_
                        refine lv_iconst (v := nI 1) hx hb dX4_make_181 (by decide) ?_
                        refine q_iadd hx hb dX4_make_182 ?_
                        refine lv_goto (tgt := 187) hx hb dX4_make_183 (by decide) ?_
                        refine lv_istore_n (lv' := [(2, .int (nI (t + 1))), (0, .ref o0), (1, .int (nI k)), (3, .int (nI i))]) hx hb dX4_make_187 rfl hl (by decide) rfl (fun ls hl => ?_)
                        refine lv_iinc (v := nI (i + 1)) (lv' := [(3, .int (nI (i + 1))), (2, .int (nI (t + 1))), (0, .ref o0), (1, .int (nI k))]) hx hb dX4_make_188 hl (k := 3) rfl (by rw [show Int32.ofInt 1 = 1 from rfl]; exact nI_1 _) (by decide) rfl (fun ls hl => ?_)
                        refine lv_goto (tgt := 163) hx hb dX4_make_191 (by decide) ?_
                        exact ih_loopE (t + 1) (i + 1) R H locs ls (by omega) (by omega) (by omega) hh hF hP hD hS (lv_sub hl [2, 3, 1, 0] rfl)
                exact loopE (z.2.2 + 1) 0 0 R _ _ ls (by omega) (by omega) (by omega) hh hF hP hD hS (lv_sub hl [2, 3, 1, 0] rfl)
          exact loopD (z.2.2 + 1) od 0 R _ _ ls (by omega) (by omega) lo hG4 hF hP hD hS (lv_sub hl [1, 0] rfl)
        · rw [r_ma, if_pos c30] at hF he
          refine lv_iload_n hx hb dX4_make_33 rfl (lv_at hl 1 rfl) ?_
          refine lv_iconst (v := nI 1) hx hb dX4_make_34 (by decide) ?_
          refine q_iadd hx hb dX4_make_35 ?_
          refine lv_istore_n (lv' := [(2, .int (nI (a + 1))), (0, .ref o0), (1, .int (nI a))]) hx hb dX4_make_36 rfl hl (by decide) rfl (fun ls hl => ?_)
          have loopB : ∀ (f : Nat) (z : (Nat → Nat) × (Nat → Nat) × Nat) (b : Nat) (R : Int32 × ((Nat → Nat) × (Nat → Nat) × Nat) × (Nat → Nat) × (Nat → Nat) × Nat) (H : Heap) (locs : List Loc) (ls : Array Slot), (b ≤ n) → (n + 1 ≤ b + f) → (a < b) → (r_zok z) → (r_ma x y n (r_mb x y n a z b) (a + 1) = r_ma x y n (sz, rd, 0) 0) → r_fin n od hu N (r_ma x y n (r_mb x y n a z b) (a + 1)) = R → va_P (dC, dI) vwCl [(o0, .inr (4, [.int th, .int (nI n), .ref xb, .ref yb, .int 1, .int (nI z.2.2), .ref za, .ref ua, .ref wa, .int (nI 0), .ref va])), (xb, .inl (cI, 20, .inl x)), (yb, .inl (cI, 20, .inl y)), (za, .inl (cI, 60, .inl (fun j9 => nI (z.1 j9)))), (ua, .inl (cI, 1200, .inl (fun j9 => nI (z.2.1 j9)))), (wa, .inl (cI, 60, .inl (fun j9 => nI (od j9)))), (va, .inl (cI, 20, .inl (fun j9 => nI (hu j9))))] H → va_D A [(o0, .inr (4, [.int th, .int (nI n), .ref xb, .ref yb, .int 1, .int (nI z.2.2), .ref za, .ref ua, .ref wa, .int (nI 0), .ref va])), (xb, .inl (cI, 20, .inl x)), (yb, .inl (cI, 20, .inl y)), (za, .inl (cI, 60, .inl (fun j9 => nI (z.1 j9)))), (ua, .inl (cI, 1200, .inl (fun j9 => nI (z.2.1 j9)))), (wa, .inl (cI, 60, .inl (fun j9 => nI (od j9)))), (va, .inl (cI, 20, .inl (fun j9 => nI (hu j9))))] → va_S A s.heap H locs → lv_has ls 6 [(0, .ref o0), (1, .int (nI a)), (2, .int (nI b))] → W p l e (headSpec wsX4_make ({ frames := 4, cells := 0, slots := 0, locals := 92 })).room s m ([.ref o0] : List Value).toArray below meth c H locs 0 0 (MQ below (q_Qm (dC, dI) A none [(o0, .inr (4, [.int th, .int (nI n), .ref xb, .ref yb, .int R.1, .int (nI R.2.1.2.2), .ref za, .ref ua, .ref wa, .int (nI R.2.2.2.2), .ref va])), (xb, .inl (cI, 20, .inl x)), (yb, .inl (cI, 20, .inl y)), (za, .inl (cI, 60, .inl (fun j9 => nI (R.2.1.1 j9)))), (ua, .inl (cI, 1200, .inl (fun j9 => nI (R.2.1.2.1 j9)))), (wa, .inl (cI, 60, .inl (fun j9 => nI (R.2.2.1 j9)))), (va, .inl (cI, 20, .inl (fun j9 => nI (R.2.2.2.1 j9))))]) ([.ref o0] : List Value).toArray s 0 0 A) (F0 m 37 ls []) := by
            intro f
            induction f with
            | zero =>
              intro z b R H locs ls h3 h4 h13 hzk he
              omega
            | succ f ih_loopB =>
              intro z b R H locs ls h3 h4 h13 hzk he hF hP hD hS hl
              refine lv_iload_n hx hb dX4_make_37 rfl (lv_at hl 2 rfl) ?_
              refine lv_aload_n hx hb dX4_make_38 rfl (lv_at hl 0 rfl) ?_
              refine va_get (D := (dC, dI)) (ci := 4) (v := .int (nI n)) (C := RX4) (T := TX4) (N := 11) hx hb hts (by decide +kernel) hown hK hP 0 rfl rfl 1 (by decide) (hts (.fieldLink RX4 32 "CircleCellsModel" "sites" "I") (by decide +kernel)) (fun _ h9 => h9) rfl dX4_make_39 ?_
              refine q_icmp_ge (tgt := 143) (by omega) (by omega) hx hb dX4_make_42 (by decide) (fun c42 => ?_) (fun c42 => ?_)
              · rw [r_mb, if_neg (by omega)] at hF he
                refine lv_iinc (v := nI (a + 1)) (lv' := [(1, .int (nI (a + 1))), (0, .ref o0), (2, .int (nI b))]) hx hb dX4_make_143 hl (k := 1) rfl (by rw [show Int32.ofInt 1 = 1 from rfl]; exact nI_1 _) (by decide) rfl (fun ls hl => ?_)
                refine lv_goto (tgt := 25) hx hb dX4_make_146 (by decide) ?_
                exact ih_loopA z (a + 1) R H locs ls (by omega) (by omega) (by first | exact hzk | exact ⟨updN_le hzk.1 hln.2, r_row_lt ln (by omega) hzk.2⟩) he hF hP hD hS (lv_sub hl [1, 0] rfl)
              · rw [r_mb, if_pos c42] at hF he
                refine lv_iload_n hx hb dX4_make_45 rfl (lv_at hl 2 rfl) ?_
                refine lv_iconst (v := nI 1) hx hb dX4_make_46 (by decide) ?_
                refine q_iadd hx hb dX4_make_47 ?_
                refine lv_istore_n (lv' := [(3, .int (nI (b + 1))), (0, .ref o0), (1, .int (nI a)), (2, .int (nI b))]) hx hb dX4_make_48 rfl hl (by decide) rfl (fun ls hl => ?_)
                have loopC : ∀ (f : Nat) (z : (Nat → Nat) × (Nat → Nat) × Nat) (d : Nat) (R : Int32 × ((Nat → Nat) × (Nat → Nat) × Nat) × (Nat → Nat) × (Nat → Nat) × Nat) (H : Heap) (locs : List Loc) (ls : Array Slot), (d ≤ n) → (n + 1 ≤ d + f) → (b < d) → (r_zok z) → (r_ma x y n (r_mb x y n a (r_mc x y n a b z d) (b + 1)) (a + 1) = r_ma x y n (sz, rd, 0) 0) → r_fin n od hu N (r_ma x y n (r_mb x y n a (r_mc x y n a b z d) (b + 1)) (a + 1)) = R → va_P (dC, dI) vwCl [(o0, .inr (4, [.int th, .int (nI n), .ref xb, .ref yb, .int 1, .int (nI z.2.2), .ref za, .ref ua, .ref wa, .int (nI 0), .ref va])), (xb, .inl (cI, 20, .inl x)), (yb, .inl (cI, 20, .inl y)), (za, .inl (cI, 60, .inl (fun j9 => nI (z.1 j9)))), (ua, .inl (cI, 1200, .inl (fun j9 => nI (z.2.1 j9)))), (wa, .inl (cI, 60, .inl (fun j9 => nI (od j9)))), (va, .inl (cI, 20, .inl (fun j9 => nI (hu j9))))] H → va_D A [(o0, .inr (4, [.int th, .int (nI n), .ref xb, .ref yb, .int 1, .int (nI z.2.2), .ref za, .ref ua, .ref wa, .int (nI 0), .ref va])), (xb, .inl (cI, 20, .inl x)), (yb, .inl (cI, 20, .inl y)), (za, .inl (cI, 60, .inl (fun j9 => nI (z.1 j9)))), (ua, .inl (cI, 1200, .inl (fun j9 => nI (z.2.1 j9)))), (wa, .inl (cI, 60, .inl (fun j9 => nI (od j9)))), (va, .inl (cI, 20, .inl (fun j9 => nI (hu j9))))] → va_S A s.heap H locs → lv_has ls 6 [(0, .ref o0), (1, .int (nI a)), (2, .int (nI b)), (3, .int (nI d))] → W p l e (headSpec wsX4_make ({ frames := 4, cells := 0, slots := 0, locals := 92 })).room s m ([.ref o0] : List Value).toArray below meth c H locs 0 0 (MQ below (q_Qm (dC, dI) A none [(o0, .inr (4, [.int th, .int (nI n), .ref xb, .ref yb, .int R.1, .int (nI R.2.1.2.2), .ref za, .ref ua, .ref wa, .int (nI R.2.2.2.2), .ref va])), (xb, .inl (cI, 20, .inl x)), (yb, .inl (cI, 20, .inl y)), (za, .inl (cI, 60, .inl (fun j9 => nI (R.2.1.1 j9)))), (ua, .inl (cI, 1200, .inl (fun j9 => nI (R.2.1.2.1 j9)))), (wa, .inl (cI, 60, .inl (fun j9 => nI (R.2.2.1 j9)))), (va, .inl (cI, 20, .inl (fun j9 => nI (R.2.2.2.1 j9))))]) ([.ref o0] : List Value).toArray s 0 0 A) (F0 m 49 ls []) := by
                  intro f
                  induction f with
                  | zero =>
                    intro z d R H locs ls h5 h6 h7 hzk he
                    omega
                  | succ f ih_loopC =>
                    intro z d R H locs ls h5 h6 h7 hzk he hF hP hD hS hl
                    refine lv_iload_n hx hb dX4_make_49 rfl (lv_at hl 3 rfl) ?_
                    refine lv_aload_n hx hb dX4_make_50 rfl (lv_at hl 0 rfl) ?_
                    refine va_get (D := (dC, dI)) (ci := 4) (v := .int (nI n)) (C := RX4) (T := TX4) (N := 11) hx hb hts (by decide +kernel) hown hK hP 0 rfl rfl 1 (by decide) (hts (.fieldLink RX4 32 "CircleCellsModel" "sites" "I") (by decide +kernel)) (fun _ h9 => h9) rfl dX4_make_51 ?_
                    refine q_icmp_ge (tgt := 137) (by omega) (by omega) hx hb dX4_make_54 (by decide) (fun c54 => ?_) (fun c54 => ?_)
                    · rw [r_mc, if_neg (by omega)] at hF he
                      refine lv_iinc (v := nI (b + 1)) (lv' := [(2, .int (nI (b + 1))), (0, .ref o0), (1, .int (nI a)), (3, .int (nI d))]) hx hb dX4_make_137 hl (k := 2) rfl (by rw [show Int32.ofInt 1 = 1 from rfl]; exact nI_1 _) (by decide) rfl (fun ls hl => ?_)
                      refine lv_goto (tgt := 37) hx hb dX4_make_140 (by decide) ?_
                      exact ih_loopB z (b + 1) R H locs ls (by omega) (by omega) (by omega) (by first | exact hzk | exact ⟨updN_le hzk.1 hln.2, r_row_lt ln (by omega) hzk.2⟩) he hF hP hD hS (lv_sub hl [1, 2, 0] rfl)
                    · rw [r_mc, if_pos c54, r_mS] at hF he
                      refine lv_aload_n hx hb dX4_make_57 rfl (lv_at hl 0 rfl) ?_
                      refine lv_iload_n hx hb dX4_make_58 rfl (lv_at hl 1 rfl) ?_
                      refine lv_iload_n hx hb dX4_make_59 rfl (lv_at hl 2 rfl) ?_
                      refine lv_aload_n hx hb dX4_make_60 rfl (lv_at hl 0 rfl) ?_
                      refine va_get (D := (dC, dI)) (ci := 4) (v := .ref xb) (C := RX4) (T := TX4) (N := 11) hx hb hts (by decide +kernel) hown hK hP 0 rfl rfl 2 (by decide) (hts (.fieldLink RX4 7 "CircleCellsModel" "x" "[I") (by decide +kernel)) (fun _ h9 => h9) rfl dX4_make_61 ?_
                      refine lv_iload_n hx hb dX4_make_64 rfl (lv_at hl 3 rfl) ?_
                      refine q_iald hx hb hK hP 1 0 rfl rfl (d) rfl (by omega) (by decide) dX4_make_65 ?_
                      refine lv_aload_n hx hb dX4_make_66 rfl (lv_at hl 0 rfl) ?_
                      refine va_get (D := (dC, dI)) (ci := 4) (v := .ref yb) (C := RX4) (T := TX4) (N := 11) hx hb hts (by decide +kernel) hown hK hP 0 rfl rfl 3 (by decide) (hts (.fieldLink RX4 13 "CircleCellsModel" "y" "[I") (by decide +kernel)) (fun _ h9 => h9) rfl dX4_make_67 ?_
                      refine lv_iload_n hx hb dX4_make_70 rfl (lv_at hl 3 rfl) ?_
                      refine q_iald hx hb hK hP 2 0 rfl rfl (d) rfl (by omega) (by decide) dX4_make_71 ?_
                      refine q_cV (As := [.int (nI a), .int (nI b), .int (x d), .int (y d)]) (rest := []) ⟨hx, hb, hml, hown, hts⟩ (c_X4_turn l dC dI o0 xb yb za ua wa va cI th (nI n) 1 (nI z.2.2) (nI 0) x y a b (x d) (y d) (by omega) (by omega)) (cwV 4 hts gX4_make_X4_turn rfl rfl rfl (by decide +kernel) ⟨Nat.le_of_ble_eq_true rfl, Nat.le_of_ble_eq_true rfl⟩) (q_pV hK hP [0, 1, 2] [0] 4 0 rfl rfl rfl rfl rfl rfl) rfl hl.1 rfl (Nat.le_of_ble_eq_true rfl) ⟨Nat.zero_le _, Nat.zero_le _⟩ dX4_make_72 ?_
                      refine lv_lconst (v := 0) hx hb dX4_make_75 (by decide) ?_
                      refine q_lcmp_ne (tgt := 83) hx hb dX4_make_76 dX4_make_77 (by decide) (fun c77 => ?_) (fun c77 => ?_)
                      · rw [if_neg c77] at hF he
                        refine lv_aload_n hx hb dX4_make_83 rfl (lv_at hl 0 rfl) ?_
                        refine lv_iload_n hx hb dX4_make_84 rfl (lv_at hl 1 rfl) ?_
                        refine lv_iload_n hx hb dX4_make_85 rfl (lv_at hl 2 rfl) ?_
                        refine lv_iload_n hx hb dX4_make_86 rfl (lv_at hl 3 rfl) ?_
                        refine q_cV (As := [.int (nI a), .int (nI b), .int (nI d)]) (rest := []) ⟨hx, hb, hml, hown, hts⟩ (c_X4_onCircle l dC dI o0 xb yb za ua wa va cI th 1 (nI z.2.2) (nI 0) x y n a b d (by omega) (by omega) (by omega) (by omega)) (cwV 3 hts gX4_make_X4_onCircle rfl rfl rfl (by decide +kernel) ⟨Nat.le_of_ble_eq_true rfl, Nat.le_of_ble_eq_true rfl⟩) (q_pV hK hP [0, 1, 2] [0] 4 0 rfl rfl rfl rfl rfl rfl) rfl hl.1 rfl (Nat.le_of_ble_eq_true rfl) ⟨Nat.zero_le _, Nat.zero_le _⟩ dX4_make_87 ?_
                        refine lv_istore (lv' := [(4, .int (r_on x y n a b d 0 0)), (0, .ref o0), (1, .int (nI a)), (2, .int (nI b)), (3, .int (nI d))]) hx hb dX4_make_90 hl (by decide) rfl (fun ls hl => ?_)
                        refine lv_iconst (v := 1) hx hb dX4_make_92 (by decide) ?_
                        refine lv_iload_n hx hb dX4_make_93 rfl (lv_at hl 4 rfl) ?_
                        refine lv_ishl hx hb dX4_make_94 ?_
                        refine lv_iconst (v := 1) hx hb dX4_make_95 (by decide) ?_
                        refine lv_isub hx hb dX4_make_96 ?_
                        refine lv_iconst (v := 1) hx hb dX4_make_97 (by decide) ?_
                        refine lv_iload_n hx hb dX4_make_98 rfl (lv_at hl 2 rfl) ?_
                        refine lv_ishl hx hb dX4_make_99 ?_
                        refine lv_iconst (v := (-1)) hx hb dX4_make_100 (by decide) ?_
                        refine lv_ixor hx hb dX4_make_101 ?_
                        refine lv_iand hx hb dX4_make_102 ?_
                        refine lv_iconst (v := 1) hx hb dX4_make_103 (by decide) ?_
                        refine lv_iload_n hx hb dX4_make_104 rfl (lv_at hl 3 rfl) ?_
                        refine lv_ishl hx hb dX4_make_105 ?_
                        refine lv_iconst (v := (-1)) hx hb dX4_make_106 (by decide) ?_
                        refine lv_ixor hx hb dX4_make_107 ?_
                        refine lv_iand hx hb dX4_make_108 ?_
                        refine lv_istore (lv' := [(5, .int (((((1 : Int32) <<< (nI d &&& 31)) - 1) &&& (((1 : Int32) <<< (nI a &&& 31)) ^^^ (-1))) &&& (((1 : Int32) <<< (nI b &&& 31)) ^^^ (-1)))), (4, .int (r_on x y n a b d 0 0)), (0, .ref o0), (1, .int (nI a)), (2, .int (nI b)), (3, .int (nI d))]) hx hb dX4_make_109 hl (by decide) rfl (fun ls hl => ?_)
                        refine lv_iload hx hb dX4_make_111 (lv_at hl 1 rfl) ?_
                        refine lv_if_eq (tgt := 131) hx hb dX4_make_113 (by decide) (fun c113 => ?_) (fun c113 => ?_)
                        · rw [if_pos c113] at hF he
                          refine lv_iinc (v := nI (d + 1)) (lv' := [(3, .int (nI (d + 1))), (5, .int (((((1 : Int32) <<< (nI d &&& 31)) - 1) &&& (((1 : Int32) <<< (nI a &&& 31)) ^^^ (-1))) &&& (((1 : Int32) <<< (nI b &&& 31)) ^^^ (-1)))), (4, .int (r_on x y n a b d 0 0)), (0, .ref o0), (1, .int (nI a)), (2, .int (nI b))]) hx hb dX4_make_131 hl (k := 5) rfl (by rw [show Int32.ofInt 1 = 1 from rfl]; exact nI_1 _) (by decide) rfl (fun ls hl => ?_)
                          refine lv_goto (tgt := 49) hx hb dX4_make_134 (by decide) ?_
                          exact ih_loopC z (d + 1) R H locs ls (by omega) (by omega) (by omega) (by first | exact hzk | exact ⟨updN_le hzk.1 hln.2, r_row_lt ln (by omega) hzk.2⟩) he hF hP hD hS (lv_sub hl [3, 4, 5, 0] rfl)
                        · rw [if_neg c113] at hF he
                          refine lv_iload hx hb dX4_make_116 (lv_at hl 1 rfl) ?_
                          refine lv_iload hx hb dX4_make_118 (lv_at hl 0 rfl) ?_
                          refine lv_iand hx hb dX4_make_120 ?_
                          refine lv_if_ne (tgt := 131) hx hb dX4_make_121 (by decide) (fun c121 => ?_) (fun c121 => ?_)
                          · rw [if_pos (show ¬ r_on x y n a b d 0 0 &&& r_low a b d = 0 from c121)] at hF he
                            refine lv_iinc (v := nI (d + 1)) (lv' := [(3, .int (nI (d + 1))), (5, .int (((((1 : Int32) <<< (nI d &&& 31)) - 1) &&& (((1 : Int32) <<< (nI a &&& 31)) ^^^ (-1))) &&& (((1 : Int32) <<< (nI b &&& 31)) ^^^ (-1)))), (4, .int (r_on x y n a b d 0 0)), (0, .ref o0), (1, .int (nI a)), (2, .int (nI b))]) hx hb dX4_make_131 hl (k := 5) rfl (by rw [show Int32.ofInt 1 = 1 from rfl]; exact nI_1 _) (by decide) rfl (fun ls hl => ?_)
                            refine lv_goto (tgt := 49) hx hb dX4_make_134 (by decide) ?_
                            exact ih_loopC z (d + 1) R H locs ls (by omega) (by omega) (by omega) (by first | exact hzk | exact ⟨updN_le hzk.1 hln.2, r_row_lt ln (by omega) hzk.2⟩) he hF hP hD hS (lv_sub hl [3, 4, 5, 0] rfl)
                          · have c121 : r_on x y n a b d 0 0 &&& r_low a b d = 0 := c121
                            rw [if_neg (fun h => h c121)] at hF he
                            have hln := r_len_le x y n (r_on x y n a b d 0 0) a 19 1 (by omega) (by omega)
                            have hq9 : z.2.2 + 1 ≤ 59 := by
                              have h1 := r_mc_mono x y n a b n (d + 1) (updN z.1 z.2.2 (r_len x y n (r_on x y n a b d 0 0) a 1), r_row x y n (r_on x y n a b d 0 0) a z.2.1 z.2.2 (r_len x y n (r_on x y n a b d 0 0) a 1), z.2.2 + 1) (by omega)
                              have h2 := r_mb_mono x y n a n (b + 1) _ (by omega) |> Nat.le_trans h1
                              have h3 := r_ma_mono x y n n (a + 1) _ (by omega) |> Nat.le_trans h2
                              rw [he] at h3
                              exact Nat.le_trans h3 hG2
                            refine lv_aload_n hx hb dX4_make_124 rfl (lv_at hl 2 rfl) ?_
                            refine lv_iload hx hb dX4_make_125 (lv_at hl 1 rfl) ?_
                            refine lv_iload_n hx hb dX4_make_127 rfl (lv_at hl 3 rfl) ?_
                            obtain ⟨r9, hr9⟩ : ∃ r : Nat, (r_len x y n (r_on x y n a b d 0 0) a 1) = r := ⟨_, rfl⟩
                            refine q_mV (wc' := [(o0, .inr (4, [.int th, .int (nI n), .ref xb, .ref yb, .int 1, .int (nI (z.2.2 + 1)), .ref za, .ref ua, .ref wa, .int (nI 0), .ref va])), (xb, .inl (cI, 20, .inl x)), (yb, .inl (cI, 20, .inl y)), (za, .inl (cI, 60, .inl (fun j9 => nI ((updN z.1 z.2.2 (r_len x y n (r_on x y n a b d 0 0) a 1)) j9)))), (ua, .inl (cI, 1200, .inl (fun j9 => nI ((r_row x y n (r_on x y n a b d 0 0) a z.2.1 z.2.2 (r_len x y n (r_on x y n a b d 0 0) a 1)) j9))))]) (wsN := [(o0, .inr (4, [.int th, .int (nI n), .ref xb, .ref yb, .int 1, .int (nI (z.2.2 + 1)), .ref za, .ref ua, .ref wa, .int (nI 0), .ref va])), (xb, .inl (cI, 20, .inl x)), (yb, .inl (cI, 20, .inl y)), (za, .inl (cI, 60, .inl (fun j9 => nI ((updN z.1 z.2.2 (r_len x y n (r_on x y n a b d 0 0) a 1)) j9)))), (ua, .inl (cI, 1200, .inl (fun j9 => nI ((r_row x y n (r_on x y n a b d 0 0) a z.2.1 z.2.2 (r_len x y n (r_on x y n a b d 0 0) a 1)) j9)))), (wa, .inl (cI, 60, .inl (fun j9 => nI (od j9)))), (va, .inl (cI, 20, .inl (fun j9 => nI (hu j9))))]) (As := [.int (r_on x y n a b d 0 0), .int (nI a)]) (rest := []) ⟨hx, hb, hml, hown, hts⟩ (c_X4_add l dC dI o0 xb yb za ua wa va cI th 1 (nI 0) (r_on x y n a b d 0 0) x y z.1 z.2.1 n z.2.2 a (r_len x y n (r_on x y n a b d 0 0) a 1) (by omega) (by omega) (by omega) (by omega) hln.2 (hG1 a b d (by omega) (by omega) c54 c77 c113 c121) (fun j g1 g2 => r_len_min x y n (r_on x y n a b d 0 0) a 19 1 (by omega) j (by omega) g2) r9 hr9) (cwV 2 hts gX4_make_X4_add rfl rfl rfl (by decide +kernel) ⟨Nat.le_of_ble_eq_true rfl, Nat.le_of_ble_eq_true rfl⟩) hK hP hD hS [0, 1, 2, 3, 4] [0] 4 0 rfl rfl rfl rfl rfl rfl rfl rfl rfl hl.1 rfl (Nat.le_of_ble_eq_true rfl) ⟨Nat.zero_le _, Nat.zero_le _⟩ dX4_make_128 rfl (fun H locs hP hD hS => ?_)
                            refine W.eq (g2 := F0 m 131 ls []) rfl ?_
                            refine lv_iinc (v := nI (d + 1)) (lv' := [(3, .int (nI (d + 1))), (5, .int (((((1 : Int32) <<< (nI d &&& 31)) - 1) &&& (((1 : Int32) <<< (nI a &&& 31)) ^^^ (-1))) &&& (((1 : Int32) <<< (nI b &&& 31)) ^^^ (-1)))), (4, .int (r_on x y n a b d 0 0)), (0, .ref o0), (1, .int (nI a)), (2, .int (nI b))]) hx hb dX4_make_131 hl (k := 5) rfl (by rw [show Int32.ofInt 1 = 1 from rfl]; exact nI_1 _) (by decide) rfl (fun ls hl => ?_)
                            refine lv_goto (tgt := 49) hx hb dX4_make_134 (by decide) ?_
                            exact ih_loopC ((updN z.1 z.2.2 (r_len x y n (r_on x y n a b d 0 0) a 1)), (r_row x y n (r_on x y n a b d 0 0) a z.2.1 z.2.2 (r_len x y n (r_on x y n a b d 0 0) a 1)), z.2.2 + 1) (d + 1) R H locs ls (by omega) (by omega) (by omega) (by first | exact hzk | exact ⟨updN_le hzk.1 hln.2, r_row_lt ln (by omega) hzk.2⟩) he hF hP hD hS (lv_sub hl [3, 4, 5, 0] rfl)
                      · rw [if_pos c77] at hF he
                        refine lv_goto (tgt := 131) hx hb dX4_make_80 (by decide) ?_
                        refine lv_iinc (v := nI (d + 1)) (lv' := [(3, .int (nI (d + 1))), (0, .ref o0), (1, .int (nI a)), (2, .int (nI b))]) hx hb dX4_make_131 hl (k := 3) rfl (by rw [show Int32.ofInt 1 = 1 from rfl]; exact nI_1 _) (by decide) rfl (fun ls hl => ?_)
                        refine lv_goto (tgt := 49) hx hb dX4_make_134 (by decide) ?_
                        exact ih_loopC z (d + 1) R H locs ls (by omega) (by omega) (by omega) (by first | exact hzk | exact ⟨updN_le hzk.1 hln.2, r_row_lt ln (by omega) hzk.2⟩) he hF hP hD hS (lv_sub hl [1, 2, 3, 0] rfl)
                exact loopC (n + 1) z (b + 1) R _ _ ls (by omega) (by omega) (by omega) hzk he hF hP hD hS (lv_sub hl [1, 2, 3, 0] rfl)
          exact loopB (n + 1) z (a + 1) R _ _ ls (by omega) (by omega) (by omega) hzk he hF hP hD hS (lv_sub hl [1, 2, 0] rfl)
    exact loopA (n + 1) (sz, rd, 0) 0 R _ _ ls (by omega) (by omega) ⟨lz, lr⟩ rfl hR hP hD hS (lv_sub hl [1, 0] rfl)
  · rw [r_mkR, if_neg c4] at hR
    subst hR
    exact W.vret hx hb hr (q_retm hP hS) hS.2.2 dX4_make_7
