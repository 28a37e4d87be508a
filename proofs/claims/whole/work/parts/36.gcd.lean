/-! The greatest divisors, and a circle's middle -/
def j_cd : Nat → Nat → Nat → Nat
  | 0, a, _ => a
  | f + 1, a, b => if b = 0 then a else j_cd f b (a % b)
theorem j_cd_lt {N : Nat} : ∀ (f a b : Nat), a < N → b < N → j_cd f a b < N := by
  intro f
  induction f with
  | zero => intro a b h1 _; exact h1
  | succ f ih =>
    intro a b h1 h2
    rw [j_cd]
    split
    · exact h1
    · exact ih b (a % b) h2 (by have := Nat.mod_lt a (show 0 < b by omega); omega)
theorem l_pos {a : Int64} (h : 0 ≤ a) : a = lN a.toInt.natAbs := by
  have h0 : (0 : Int64).toInt = 0 := rfl
  have h1 : 0 ≤ a.toInt := by rw [Int64.le_iff_toInt_le, h0] at h; exact h
  have h2 : a.toInt < 2 ^ 63 := a.toInt_lt
  apply Int64.toInt_inj.mp
  rw [pk_lT (by omega)]
  omega
theorem l_neg {a : Int64} (h : ¬ 0 ≤ a) (hb : a.toInt.natAbs < 2 ^ 63) : -a = lN a.toInt.natAbs := by
  have h0 : (0 : Int64).toInt = 0 := rfl
  have h1 : ¬ 0 ≤ a.toInt := by rw [Int64.le_iff_toInt_le, h0] at h; exact h
  apply Int64.toInt_inj.mp
  rw [pk_lT (by omega), Int64.toInt_neg]
  have h2 : -2 ^ 63 < a.toInt := by omega
  rw [Int.bmod_eq_of_le (by omega) (by omega)]
  omega
theorem l_abs {a : Int64} (hb : a.toInt.natAbs < 2 ^ 63) : (if 0 < a then a else -a) = lN a.toInt.natAbs := by
  have h0 : (0 : Int64).toInt = 0 := rfl
  split
  · rename_i h
    exact l_pos (by rw [Int64.lt_iff_toInt_lt, h0] at h; rw [Int64.le_iff_toInt_le, h0]; omega)
  · rename_i h
    by_cases h1 : 0 ≤ a
    · have h2 : a.toInt = 0 := by
        rw [Int64.lt_iff_toInt_lt, h0] at h
        rw [Int64.le_iff_toInt_le, h0] at h1
        omega
      have h3 : a = 0 := Int64.toInt_inj.mp (by rw [h2]; rfl)
      subst h3
      rfl
    · exact l_neg h1 hb
def j_want (X Y : Int64) (sn : Nat) (w : Int32) : Int64 := if w = 0 then X else if w = 1 then Y else lN sn
def j_shr (X Y : Int64) (sn : Nat) : Nat := j_cd 128 sn (j_cd 128 X.toInt.natAbs Y.toInt.natAbs)
def j_mid (X Y : Int64) (sn : Nat) (w : Int32) : Int64 := if j_shr X Y sn ≤ 1 then j_want X Y sn w else j_want X Y sn w / lN (j_shr X Y sn)
set_option maxHeartbeats 4000000 in
set_option maxRecDepth 100000 in
theorem c_X0_commonDivisor (l : Launch) (dC : Nat → ClassId) (dI : Nat → Nat → Nat) (u v : Nat) (lu : u < 2 ^ 63) (lv : v < 2 ^ 63) : Met l yX0_commonDivisor wsX0_commonDivisor ({ frames := 0, cells := 0, slots := 0, locals := 0 }) (q_Pc (dC, dI) [.long (lN u), .long (lN v)] [] []) (k2_QcV (.long (lN (j_cd 128 u v)))) 0 0 (fun _ => False) := by
  refine Met.ofW (cc := cX0_commonDivisor) (maxL := 7) (ret := (some .long)) (by decide) rfl ?_
  intro p e s m args below meth c s₁ B hml hv
  obtain ⟨rfl, hP, hK⟩ := hv
  have hx := B.exec
  have hb := B.bytes
  have hr := B.returns
  have hts := atoms_spec (ws := wsX0_commonDivisor) B.pre
  have hown : s.vm.findClass RX0 = some m.cls := findClass_of_methodNamed B.named
  have hlocks := B.notSynchronized
  have hP : va_P (dC, dI) vwCl [] s.heap := hP
  have hl := lv_entry ([.long (lN u), .long (lN v)]) (n := 7) (Nat.le_of_ble_eq_true rfl)
  rw [lg_entry_eq]
  generalize (lg_sl ([.long (lN u), .long (lN v)]) ++ List.replicate (7 - (lg_sl ([.long (lN u), .long (lN v)])).length) Slot.unset).toArray = ls at hl ⊢
  have hl : lv_has ls 7 [(0, .long (lN u)), (2, .long (lN v))] := hl
  refine lv_iconst (v := nI 0) hx hb dX0_commonDivisor_0 (by decide) ?_
  refine lv_istore (lv' := [(4, .int (nI 0)), (0, .long (lN u)), (2, .long (lN v))]) hx hb dX0_commonDivisor_1 hl (by decide) rfl (fun ls hl => ?_)
  have loop : ∀ (f : Nat) (u1 : Nat) (v1 : Nat) (t : Nat) (R : Nat) (ls : Array Slot), (t ≤ 128) → (128 + 1 ≤ t + f) → (u1 < 2 ^ 63) → (v1 < 2 ^ 63) → j_cd (128 - t) u1 v1 = R → lv_has ls 7 [(0, .long (lN u1)), (2, .long (lN v1)), (4, .int (nI t))] → W p l e (headSpec wsX0_commonDivisor ({ frames := 0, cells := 0, slots := 0, locals := 0 })).room s m ([.long (lN u), .long (lN v)] : List Value).toArray below meth c s.heap [] 0 0 (MQ below (k2_QcV (.long (lN R))) ([.long (lN u), .long (lN v)] : List Value).toArray s 0 0 (fun _ => False)) (F0 m 3 ls []) := by
    intro f
    induction f with
    | zero =>
      intro u1 v1 t R ls h1 h2 h3 h4
      omega
    | succ f ih_loop =>
      intro u1 v1 t R ls h1 h2 h3 h4 hF hl
      refine lv_iload hx hb dX0_commonDivisor_3 (lv_at hl 2 rfl) ?_
      refine lv_sipush (v := nI 128) hx hb dX0_commonDivisor_5 (by decide) ?_
      refine q_icmp_ge (tgt := 33) (by omega) (by omega) hx hb dX0_commonDivisor_8 (by decide) (fun c8 => ?_) (fun c8 => ?_)
      · rw [show 128 - t = 0 by omega, j_cd] at hF
        subst hF
        refine lv_lload_n hx hb dX0_commonDivisor_33 rfl (lv_at hl 0 rfl) ?_
        exact W.lret (v := lN u1) hx hb hr q_ret (fun _ h => nomatch h) dX0_commonDivisor_34
      · rw [show 128 - t = (128 - (t + 1)) + 1 by omega, j_cd] at hF
        refine lv_lload_n hx hb dX0_commonDivisor_11 rfl (lv_at hl 1 rfl) ?_
        refine lv_lconst (v := lN 0) hx hb dX0_commonDivisor_12 (by decide) ?_
        refine q_lcmpN_eq (tgt := 33) (by omega) (by omega) hx hb dX0_commonDivisor_13 dX0_commonDivisor_14 (by decide) (fun c14 => ?_) (fun c14 => ?_)
        · rw [if_pos c14] at hF
          subst hF
          refine lv_lload_n hx hb dX0_commonDivisor_33 rfl (lv_at hl 0 rfl) ?_
          exact W.lret (v := lN u1) hx hb hr q_ret (fun _ h => nomatch h) dX0_commonDivisor_34
        · rw [if_neg c14] at hF
          refine lv_lload_n hx hb dX0_commonDivisor_17 rfl (lv_at hl 0 rfl) ?_
          refine lv_lload_n hx hb dX0_commonDivisor_18 rfl (lv_at hl 1 rfl) ?_
          refine q_lrem (by omega) (by omega) (by omega) hx hb dX0_commonDivisor_19 ?_
          refine lv_lstore (lv' := [(5, .long (lN (u1 % v1))), (0, .long (lN u1)), (2, .long (lN v1)), (4, .int (nI t))]) hx hb dX0_commonDivisor_20 hl (by decide) rfl (fun ls hl => ?_)
          refine lv_lload_n hx hb dX0_commonDivisor_22 rfl (lv_at hl 2 rfl) ?_
          refine lv_lstore_n (lv' := [(0, .long (lN v1)), (5, .long (lN (u1 % v1))), (2, .long (lN v1)), (4, .int (nI t))]) hx hb dX0_commonDivisor_23 rfl hl (by decide) rfl (fun ls hl => ?_)
          refine lv_lload hx hb dX0_commonDivisor_24 (lv_at hl 1 rfl) ?_
          refine lv_lstore_n (lv' := [(2, .long (lN (u1 % v1))), (0, .long (lN v1)), (5, .long (lN (u1 % v1))), (4, .int (nI t))]) hx hb dX0_commonDivisor_26 rfl hl (by decide) rfl (fun ls hl => ?_)
          refine lv_iinc (v := nI (t + 1)) (lv' := [(4, .int (nI (t + 1))), (2, .long (lN (u1 % v1))), (0, .long (lN v1)), (5, .long (lN (u1 % v1)))]) hx hb dX0_commonDivisor_27 hl (k := 3) rfl (by rw [show Int32.ofInt 1 = 1 from rfl]; exact nI_1 _) (by decide) rfl (fun ls hl => ?_)
          refine lv_goto (tgt := 3) hx hb dX0_commonDivisor_30 (by decide) ?_
          exact ih_loop v1 (u1 % v1) (t + 1) R ls (by omega) (by omega) (by first | omega | exact Nat.lt_of_le_of_lt (Nat.mod_le _ _) (by omega)) (by first | omega | exact Nat.lt_of_le_of_lt (Nat.mod_le _ _) (by omega)) hF (lv_sub hl [2, 1, 0] rfl)
  exact loop (128 + 1) u v 0 _ ls (by omega) (by omega) (by omega) (by omega) rfl (lv_sub hl [1, 2, 0] rfl)
set_option maxHeartbeats 4000000 in
set_option maxRecDepth 100000 in
theorem c_X0_middle (l : Launch) (dC : Nat → ClassId) (dI : Nat → Nat → Nat) (g0 : Nat) (fx fy : Int32) (ax ay : Int64) (sn : Nat) (w : Int32) (ls0 : sn < 2 ^ 63) (lX : (fx.toInt64 * lN sn + ax).toInt.natAbs < 2 ^ 63) (lY : (fy.toInt64 * lN sn + ay).toInt.natAbs < 2 ^ 63) : Met l yX0_middle wsX0_middle ({ frames := 1, cells := 0, slots := 0, locals := 26 }) (q_Pc (dC, dI) [.ref g0, .int w] [(g0, .inr (0, [.int fx, .int fy, .long ax, .long ay, .long (lN sn)]))] []) (k2_QcV (.long (j_mid (fx.toInt64 * lN sn + ax) (fy.toInt64 * lN sn + ay) sn w))) 0 0 (fun _ => False) := by
  refine Met.ofW (cc := cX0_middle) (maxL := 10) (ret := (some .long)) (by decide) rfl ?_
  intro p e s m args below meth c s₁ B hml hv
  obtain ⟨rfl, hP, hK⟩ := hv
  have hx := B.exec
  have hb := B.bytes
  have hr := B.returns
  have hts := atoms_spec (ws := wsX0_middle) B.pre
  have hown : s.vm.findClass RX0 = some m.cls := findClass_of_methodNamed B.named
  have hlocks := B.notSynchronized
  have hP : va_P (dC, dI) vwCl [(g0, .inr (0, [.int fx, .int fy, .long ax, .long ay, .long (lN sn)]))] s.heap := hP
  have hl := lv_entry ([.ref g0, .int w]) (n := 10) (Nat.le_of_ble_eq_true rfl)
  rw [lg_entry_eq]
  generalize (lg_sl ([.ref g0, .int w]) ++ List.replicate (10 - (lg_sl ([.ref g0, .int w])).length) Slot.unset).toArray = ls at hl ⊢
  have hl : lv_has ls 10 [(0, .ref g0), (1, .int w)] := hl
  refine lv_aload_n hx hb dX0_middle_0 rfl (lv_at hl 0 rfl) ?_
  refine va_get (D := (dC, dI)) (ci := 0) (v := .int fx) (C := RX0) (T := TX0) (N := 5) hx hb hts (by decide +kernel) hown hK hP 0 rfl rfl 0 (by decide) (hts (.fieldLink RX0 13 "CircleCells$Circle" "fromX" "I") (by decide +kernel)) (fun _ h9 => h9) rfl dX0_middle_1 ?_
  refine lv_i2l (v := fx.toInt64) hx hb dX0_middle_4 rfl ?_
  refine lv_aload_n hx hb dX0_middle_5 rfl (lv_at hl 0 rfl) ?_
  refine va_get (D := (dC, dI)) (ci := 0) (v := .long (lN sn)) (C := RX0) (T := TX0) (N := 5) hx hb hts (by decide +kernel) hown hK hP 0 rfl rfl 4 (by decide) (hts (.fieldLink RX0 34 "CircleCells$Circle" "span" "J") (by decide +kernel)) (fun _ h9 => h9) rfl dX0_middle_6 ?_
  refine lv_lmul hx hb dX0_middle_9 ?_
  refine lv_aload_n hx hb dX0_middle_10 rfl (lv_at hl 0 rfl) ?_
  refine va_get (D := (dC, dI)) (ci := 0) (v := .long ax) (C := RX0) (T := TX0) (N := 5) hx hb hts (by decide +kernel) hown hK hP 0 rfl rfl 2 (by decide) (hts (.fieldLink RX0 25 "CircleCells$Circle" "aimX" "J") (by decide +kernel)) (fun _ h9 => h9) rfl dX0_middle_11 ?_
  refine lv_ladd hx hb dX0_middle_14 ?_
  refine lv_lstore_n (lv' := [(2, .long ((fx.toInt64 * (lN sn)) + ax)), (0, .ref g0), (1, .int w)]) hx hb dX0_middle_15 rfl hl (by decide) rfl (fun ls hl => ?_)
  refine lv_aload_n hx hb dX0_middle_16 rfl (lv_at hl 1 rfl) ?_
  refine va_get (D := (dC, dI)) (ci := 0) (v := .int fy) (C := RX0) (T := TX0) (N := 5) hx hb hts (by decide +kernel) hown hK hP 0 rfl rfl 1 (by decide) (hts (.fieldLink RX0 22 "CircleCells$Circle" "fromY" "I") (by decide +kernel)) (fun _ h9 => h9) rfl dX0_middle_17 ?_
  refine lv_i2l (v := fy.toInt64) hx hb dX0_middle_20 rfl ?_
  refine lv_aload_n hx hb dX0_middle_21 rfl (lv_at hl 1 rfl) ?_
  refine va_get (D := (dC, dI)) (ci := 0) (v := .long (lN sn)) (C := RX0) (T := TX0) (N := 5) hx hb hts (by decide +kernel) hown hK hP 0 rfl rfl 4 (by decide) (hts (.fieldLink RX0 34 "CircleCells$Circle" "span" "J") (by decide +kernel)) (fun _ h9 => h9) rfl dX0_middle_22 ?_
  refine lv_lmul hx hb dX0_middle_25 ?_
  refine lv_aload_n hx hb dX0_middle_26 rfl (lv_at hl 1 rfl) ?_
  refine va_get (D := (dC, dI)) (ci := 0) (v := .long ay) (C := RX0) (T := TX0) (N := 5) hx hb hts (by decide +kernel) hown hK hP 0 rfl rfl 3 (by decide) (hts (.fieldLink RX0 29 "CircleCells$Circle" "aimY" "J") (by decide +kernel)) (fun _ h9 => h9) rfl dX0_middle_27 ?_
  refine lv_ladd hx hb dX0_middle_30 ?_
  refine lv_lstore (lv' := [(4, .long ((fy.toInt64 * (lN sn)) + ay)), (2, .long ((fx.toInt64 * (lN sn)) + ax)), (0, .ref g0), (1, .int w)]) hx hb dX0_middle_31 hl (by decide) rfl (fun ls hl => ?_)
  refine lv_iload_n hx hb dX0_middle_33 rfl (lv_at hl 3 rfl) ?_
  refine lv_if_ne (tgt := 41) hx hb dX0_middle_34 (by decide) (fun c34 => ?_) (fun c34 => ?_)
  · unfold j_mid j_want j_shr
    rw [if_neg c34]
    refine lv_iload_n hx hb dX0_middle_41 rfl (lv_at hl 3 rfl) ?_
    refine lv_iconst (v := 1) hx hb dX0_middle_42 (by decide) ?_
    refine lv_icmp_ne (tgt := 51) hx hb dX0_middle_43 (by decide) (fun c43 => ?_) (fun c43 => ?_)
    · rw [if_neg c43]
      refine lv_aload_n hx hb dX0_middle_51 rfl (lv_at hl 2 rfl) ?_
      refine va_get (D := (dC, dI)) (ci := 0) (v := .long (lN sn)) (C := RX0) (T := TX0) (N := 5) hx hb hts (by decide +kernel) hown hK hP 0 rfl rfl 4 (by decide) (hts (.fieldLink RX0 34 "CircleCells$Circle" "span" "J") (by decide +kernel)) (fun _ h9 => h9) rfl dX0_middle_52 ?_
      refine lv_lstore (lv' := [(6, .long (lN sn)), (4, .long ((fy.toInt64 * (lN sn)) + ay)), (2, .long ((fx.toInt64 * (lN sn)) + ax)), (0, .ref g0), (1, .int w)]) hx hb dX0_middle_55 hl (by decide) rfl (fun ls hl => ?_)
      refine lv_aload_n hx hb dX0_middle_57 rfl (lv_at hl 3 rfl) ?_
      refine va_get (D := (dC, dI)) (ci := 0) (v := .long (lN sn)) (C := RX0) (T := TX0) (N := 5) hx hb hts (by decide +kernel) hown hK hP 0 rfl rfl 4 (by decide) (hts (.fieldLink RX0 34 "CircleCells$Circle" "span" "J") (by decide +kernel)) (fun _ h9 => h9) rfl dX0_middle_58 ?_
      refine lv_lload_n hx hb dX0_middle_61 rfl (lv_at hl 2 rfl) ?_
      refine va_mabs_long hx hb (by rw [hml]; exact hl.1.symm) hown (hts (.methodLink RX0 37 Lib.MathLoose.abs_long.x) (by decide +kernel)) (hts (.static Lib.MathLoose.abs_long.x) (by decide +kernel)) (hts (.initialized "java/lang/Math") (by decide +kernel)) (hts (.code Lib.MathLoose.abs_long.x Lib.MathLoose.abs_long.code 2 (some .long)) (by decide +kernel)) (Nat.le_of_ble_eq_true rfl) (Nat.le_of_ble_eq_true rfl) (Nat.zero_le _) (Nat.zero_le _) dX0_middle_62 ?_
      rw [l_abs lX]
      refine lv_lload hx hb dX0_middle_65 (lv_at hl 1 rfl) ?_
      refine va_mabs_long hx hb (by rw [hml]; exact hl.1.symm) hown (hts (.methodLink RX0 37 Lib.MathLoose.abs_long.x) (by decide +kernel)) (hts (.static Lib.MathLoose.abs_long.x) (by decide +kernel)) (hts (.initialized "java/lang/Math") (by decide +kernel)) (hts (.code Lib.MathLoose.abs_long.x Lib.MathLoose.abs_long.code 2 (some .long)) (by decide +kernel)) (Nat.le_of_ble_eq_true rfl) (Nat.le_of_ble_eq_true rfl) (Nat.zero_le _) (Nat.zero_le _) dX0_middle_67 ?_
      rw [l_abs lY]
      refine q_cS (As := [.long (lN (((fx.toInt64 * (lN sn)) + ax).toInt.natAbs)), .long (lN (((fy.toInt64 * (lN sn)) + ay).toInt.natAbs))]) (rest := [.long (lN sn)]) ⟨hx, hb, hml, hown, hts⟩ (c_X0_commonDivisor l dC dI (((fx.toInt64 * (lN sn)) + ax).toInt.natAbs) (((fy.toInt64 * (lN sn)) + ay).toInt.natAbs) lX lY) (va_cwS 2 hts gX0_middle_X0_commonDivisor rfl rfl rfl (by decide +kernel) ⟨Nat.le_of_ble_eq_true rfl, Nat.le_of_ble_eq_true rfl⟩) (q_pS hK hP [] [] rfl rfl rfl) rfl hl.1 rfl (Nat.le_of_ble_eq_true rfl) ⟨Nat.zero_le _, Nat.zero_le _⟩ dX0_middle_70 ?_
      refine q_cS (As := [.long (lN sn), .long (lN (j_cd 128 (((fx.toInt64 * (lN sn)) + ax).toInt.natAbs) (((fy.toInt64 * (lN sn)) + ay).toInt.natAbs)))]) (rest := []) ⟨hx, hb, hml, hown, hts⟩ (c_X0_commonDivisor l dC dI sn (j_cd 128 (((fx.toInt64 * (lN sn)) + ax).toInt.natAbs) (((fy.toInt64 * (lN sn)) + ay).toInt.natAbs)) (by omega) (j_cd_lt _ _ _ lX lY)) (va_cwS 2 hts gX0_middle_X0_commonDivisor rfl rfl rfl (by decide +kernel) ⟨Nat.le_of_ble_eq_true rfl, Nat.le_of_ble_eq_true rfl⟩) (q_pS hK hP [] [] rfl rfl rfl) rfl hl.1 rfl (Nat.le_of_ble_eq_true rfl) ⟨Nat.zero_le _, Nat.zero_le _⟩ dX0_middle_73 ?_
      refine lv_lstore (lv' := [(8, .long (lN (j_cd 128 sn (j_cd 128 (((fx.toInt64 * (lN sn)) + ax).toInt.natAbs) (((fy.toInt64 * (lN sn)) + ay).toInt.natAbs))))), (6, .long (lN sn)), (4, .long ((fy.toInt64 * (lN sn)) + ay)), (2, .long ((fx.toInt64 * (lN sn)) + ax)), (0, .ref g0), (1, .int w)]) hx hb dX0_middle_76 hl (by decide) rfl (fun ls hl => ?_)
      refine lv_lload hx hb dX0_middle_78 (lv_at hl 0 rfl) ?_
      refine lv_lconst (v := lN 1) hx hb dX0_middle_80 (by decide) ?_
      refine q_lcmpN_le (tgt := 93) (j_cd_lt _ _ _ ls0 (j_cd_lt _ _ _ lX lY)) (by decide) hx hb dX0_middle_81 dX0_middle_82 (by decide) (fun c82 => ?_) (fun c82 => ?_)
      · rw [if_pos c82]
        refine lv_lload hx hb dX0_middle_93 (lv_at hl 1 rfl) ?_
        exact W.lret (v := lN sn) hx hb hr q_ret (fun _ h => nomatch h) dX0_middle_95
      · rw [if_neg (by omega)]
        refine lv_lload hx hb dX0_middle_85 (lv_at hl 1 rfl) ?_
        refine lv_lload hx hb dX0_middle_87 (lv_at hl 0 rfl) ?_
        refine lv_ldiv hx hb dX0_middle_89 (lN_ne0 (by omega) (j_cd_lt _ _ _ ls0 (j_cd_lt _ _ _ lX lY))) ?_
        refine lv_goto (tgt := 95) hx hb dX0_middle_90 (by decide) ?_
        exact W.lret (v := (lN sn) / (lN (j_cd 128 sn (j_cd 128 (((fx.toInt64 * (lN sn)) + ax).toInt.natAbs) (((fy.toInt64 * (lN sn)) + ay).toInt.natAbs))))) hx hb hr q_ret (fun _ h => nomatch h) dX0_middle_95
    · rw [if_pos c43]
      refine lv_lload hx hb dX0_middle_46 (lv_at hl 0 rfl) ?_
      refine lv_goto (tgt := 55) hx hb dX0_middle_48 (by decide) ?_
      refine lv_lstore (lv' := [(6, .long ((fy.toInt64 * (lN sn)) + ay)), (4, .long ((fy.toInt64 * (lN sn)) + ay)), (2, .long ((fx.toInt64 * (lN sn)) + ax)), (0, .ref g0), (1, .int w)]) hx hb dX0_middle_55 hl (by decide) rfl (fun ls hl => ?_)
      refine lv_aload_n hx hb dX0_middle_57 rfl (lv_at hl 3 rfl) ?_
      refine va_get (D := (dC, dI)) (ci := 0) (v := .long (lN sn)) (C := RX0) (T := TX0) (N := 5) hx hb hts (by decide +kernel) hown hK hP 0 rfl rfl 4 (by decide) (hts (.fieldLink RX0 34 "CircleCells$Circle" "span" "J") (by decide +kernel)) (fun _ h9 => h9) rfl dX0_middle_58 ?_
      refine lv_lload_n hx hb dX0_middle_61 rfl (lv_at hl 2 rfl) ?_
      refine va_mabs_long hx hb (by rw [hml]; exact hl.1.symm) hown (hts (.methodLink RX0 37 Lib.MathLoose.abs_long.x) (by decide +kernel)) (hts (.static Lib.MathLoose.abs_long.x) (by decide +kernel)) (hts (.initialized "java/lang/Math") (by decide +kernel)) (hts (.code Lib.MathLoose.abs_long.x Lib.MathLoose.abs_long.code 2 (some .long)) (by decide +kernel)) (Nat.le_of_ble_eq_true rfl) (Nat.le_of_ble_eq_true rfl) (Nat.zero_le _) (Nat.zero_le _) dX0_middle_62 ?_
      rw [l_abs lX]
      refine lv_lload hx hb dX0_middle_65 (lv_at hl 1 rfl) ?_
      refine va_mabs_long hx hb (by rw [hml]; exact hl.1.symm) hown (hts (.methodLink RX0 37 Lib.MathLoose.abs_long.x) (by decide +kernel)) (hts (.static Lib.MathLoose.abs_long.x) (by decide +kernel)) (hts (.initialized "java/lang/Math") (by decide +kernel)) (hts (.code Lib.MathLoose.abs_long.x Lib.MathLoose.abs_long.code 2 (some .long)) (by decide +kernel)) (Nat.le_of_ble_eq_true rfl) (Nat.le_of_ble_eq_true rfl) (Nat.zero_le _) (Nat.zero_le _) dX0_middle_67 ?_
      rw [l_abs lY]
      refine q_cS (As := [.long (lN (((fx.toInt64 * (lN sn)) + ax).toInt.natAbs)), .long (lN (((fy.toInt64 * (lN sn)) + ay).toInt.natAbs))]) (rest := [.long (lN sn)]) ⟨hx, hb, hml, hown, hts⟩ (c_X0_commonDivisor l dC dI (((fx.toInt64 * (lN sn)) + ax).toInt.natAbs) (((fy.toInt64 * (lN sn)) + ay).toInt.natAbs) lX lY) (va_cwS 2 hts gX0_middle_X0_commonDivisor rfl rfl rfl (by decide +kernel) ⟨Nat.le_of_ble_eq_true rfl, Nat.le_of_ble_eq_true rfl⟩) (q_pS hK hP [] [] rfl rfl rfl) rfl hl.1 rfl (Nat.le_of_ble_eq_true rfl) ⟨Nat.zero_le _, Nat.zero_le _⟩ dX0_middle_70 ?_
      refine q_cS (As := [.long (lN sn), .long (lN (j_cd 128 (((fx.toInt64 * (lN sn)) + ax).toInt.natAbs) (((fy.toInt64 * (lN sn)) + ay).toInt.natAbs)))]) (rest := []) ⟨hx, hb, hml, hown, hts⟩ (c_X0_commonDivisor l dC dI sn (j_cd 128 (((fx.toInt64 * (lN sn)) + ax).toInt.natAbs) (((fy.toInt64 * (lN sn)) + ay).toInt.natAbs)) (by omega) (j_cd_lt _ _ _ lX lY)) (va_cwS 2 hts gX0_middle_X0_commonDivisor rfl rfl rfl (by decide +kernel) ⟨Nat.le_of_ble_eq_true rfl, Nat.le_of_ble_eq_true rfl⟩) (q_pS hK hP [] [] rfl rfl rfl) rfl hl.1 rfl (Nat.le_of_ble_eq_true rfl) ⟨Nat.zero_le _, Nat.zero_le _⟩ dX0_middle_73 ?_
      refine lv_lstore (lv' := [(8, .long (lN (j_cd 128 sn (j_cd 128 (((fx.toInt64 * (lN sn)) + ax).toInt.natAbs) (((fy.toInt64 * (lN sn)) + ay).toInt.natAbs))))), (6, .long ((fy.toInt64 * (lN sn)) + ay)), (4, .long ((fy.toInt64 * (lN sn)) + ay)), (2, .long ((fx.toInt64 * (lN sn)) + ax)), (0, .ref g0), (1, .int w)]) hx hb dX0_middle_76 hl (by decide) rfl (fun ls hl => ?_)
      refine lv_lload hx hb dX0_middle_78 (lv_at hl 0 rfl) ?_
      refine lv_lconst (v := lN 1) hx hb dX0_middle_80 (by decide) ?_
      refine q_lcmpN_le (tgt := 93) (j_cd_lt _ _ _ ls0 (j_cd_lt _ _ _ lX lY)) (by decide) hx hb dX0_middle_81 dX0_middle_82 (by decide) (fun c82 => ?_) (fun c82 => ?_)
      · rw [if_pos c82]
        refine lv_lload hx hb dX0_middle_93 (lv_at hl 1 rfl) ?_
        exact W.lret (v := (fy.toInt64 * (lN sn)) + ay) hx hb hr q_ret (fun _ h => nomatch h) dX0_middle_95
      · rw [if_neg (by omega)]
        refine lv_lload hx hb dX0_middle_85 (lv_at hl 1 rfl) ?_
        refine lv_lload hx hb dX0_middle_87 (lv_at hl 0 rfl) ?_
        refine lv_ldiv hx hb dX0_middle_89 (lN_ne0 (by omega) (j_cd_lt _ _ _ ls0 (j_cd_lt _ _ _ lX lY))) ?_
        refine lv_goto (tgt := 95) hx hb dX0_middle_90 (by decide) ?_
        exact W.lret (v := ((fy.toInt64 * (lN sn)) + ay) / (lN (j_cd 128 sn (j_cd 128 (((fx.toInt64 * (lN sn)) + ax).toInt.natAbs) (((fy.toInt64 * (lN sn)) + ay).toInt.natAbs))))) hx hb hr q_ret (fun _ h => nomatch h) dX0_middle_95
  · unfold j_mid j_want j_shr
    rw [if_pos c34]
    refine lv_lload_n hx hb dX0_middle_37 rfl (lv_at hl 1 rfl) ?_
    refine lv_goto (tgt := 55) hx hb dX0_middle_38 (by decide) ?_
    refine lv_lstore (lv' := [(6, .long ((fx.toInt64 * (lN sn)) + ax)), (4, .long ((fy.toInt64 * (lN sn)) + ay)), (2, .long ((fx.toInt64 * (lN sn)) + ax)), (0, .ref g0), (1, .int w)]) hx hb dX0_middle_55 hl (by decide) rfl (fun ls hl => ?_)
    refine lv_aload_n hx hb dX0_middle_57 rfl (lv_at hl 3 rfl) ?_
    refine va_get (D := (dC, dI)) (ci := 0) (v := .long (lN sn)) (C := RX0) (T := TX0) (N := 5) hx hb hts (by decide +kernel) hown hK hP 0 rfl rfl 4 (by decide) (hts (.fieldLink RX0 34 "CircleCells$Circle" "span" "J") (by decide +kernel)) (fun _ h9 => h9) rfl dX0_middle_58 ?_
    refine lv_lload_n hx hb dX0_middle_61 rfl (lv_at hl 2 rfl) ?_
    refine va_mabs_long hx hb (by rw [hml]; exact hl.1.symm) hown (hts (.methodLink RX0 37 Lib.MathLoose.abs_long.x) (by decide +kernel)) (hts (.static Lib.MathLoose.abs_long.x) (by decide +kernel)) (hts (.initialized "java/lang/Math") (by decide +kernel)) (hts (.code Lib.MathLoose.abs_long.x Lib.MathLoose.abs_long.code 2 (some .long)) (by decide +kernel)) (Nat.le_of_ble_eq_true rfl) (Nat.le_of_ble_eq_true rfl) (Nat.zero_le _) (Nat.zero_le _) dX0_middle_62 ?_
    rw [l_abs lX]
    refine lv_lload hx hb dX0_middle_65 (lv_at hl 1 rfl) ?_
    refine va_mabs_long hx hb (by rw [hml]; exact hl.1.symm) hown (hts (.methodLink RX0 37 Lib.MathLoose.abs_long.x) (by decide +kernel)) (hts (.static Lib.MathLoose.abs_long.x) (by decide +kernel)) (hts (.initialized "java/lang/Math") (by decide +kernel)) (hts (.code Lib.MathLoose.abs_long.x Lib.MathLoose.abs_long.code 2 (some .long)) (by decide +kernel)) (Nat.le_of_ble_eq_true rfl) (Nat.le_of_ble_eq_true rfl) (Nat.zero_le _) (Nat.zero_le _) dX0_middle_67 ?_
    rw [l_abs lY]
    refine q_cS (As := [.long (lN (((fx.toInt64 * (lN sn)) + ax).toInt.natAbs)), .long (lN (((fy.toInt64 * (lN sn)) + ay).toInt.natAbs))]) (rest := [.long (lN sn)]) ⟨hx, hb, hml, hown, hts⟩ (c_X0_commonDivisor l dC dI (((fx.toInt64 * (lN sn)) + ax).toInt.natAbs) (((fy.toInt64 * (lN sn)) + ay).toInt.natAbs) lX lY) (va_cwS 2 hts gX0_middle_X0_commonDivisor rfl rfl rfl (by decide +kernel) ⟨Nat.le_of_ble_eq_true rfl, Nat.le_of_ble_eq_true rfl⟩) (q_pS hK hP [] [] rfl rfl rfl) rfl hl.1 rfl (Nat.le_of_ble_eq_true rfl) ⟨Nat.zero_le _, Nat.zero_le _⟩ dX0_middle_70 ?_
    refine q_cS (As := [.long (lN sn), .long (lN (j_cd 128 (((fx.toInt64 * (lN sn)) + ax).toInt.natAbs) (((fy.toInt64 * (lN sn)) + ay).toInt.natAbs)))]) (rest := []) ⟨hx, hb, hml, hown, hts⟩ (c_X0_commonDivisor l dC dI sn (j_cd 128 (((fx.toInt64 * (lN sn)) + ax).toInt.natAbs) (((fy.toInt64 * (lN sn)) + ay).toInt.natAbs)) (by omega) (j_cd_lt _ _ _ lX lY)) (va_cwS 2 hts gX0_middle_X0_commonDivisor rfl rfl rfl (by decide +kernel) ⟨Nat.le_of_ble_eq_true rfl, Nat.le_of_ble_eq_true rfl⟩) (q_pS hK hP [] [] rfl rfl rfl) rfl hl.1 rfl (Nat.le_of_ble_eq_true rfl) ⟨Nat.zero_le _, Nat.zero_le _⟩ dX0_middle_73 ?_
    refine lv_lstore (lv' := [(8, .long (lN (j_cd 128 sn (j_cd 128 (((fx.toInt64 * (lN sn)) + ax).toInt.natAbs) (((fy.toInt64 * (lN sn)) + ay).toInt.natAbs))))), (6, .long ((fx.toInt64 * (lN sn)) + ax)), (4, .long ((fy.toInt64 * (lN sn)) + ay)), (2, .long ((fx.toInt64 * (lN sn)) + ax)), (0, .ref g0), (1, .int w)]) hx hb dX0_middle_76 hl (by decide) rfl (fun ls hl => ?_)
    refine lv_lload hx hb dX0_middle_78 (lv_at hl 0 rfl) ?_
    refine lv_lconst (v := lN 1) hx hb dX0_middle_80 (by decide) ?_
    refine q_lcmpN_le (tgt := 93) (j_cd_lt _ _ _ ls0 (j_cd_lt _ _ _ lX lY)) (by decide) hx hb dX0_middle_81 dX0_middle_82 (by decide) (fun c82 => ?_) (fun c82 => ?_)
    · rw [if_pos c82]
      refine lv_lload hx hb dX0_middle_93 (lv_at hl 1 rfl) ?_
      exact W.lret (v := (fx.toInt64 * (lN sn)) + ax) hx hb hr q_ret (fun _ h => nomatch h) dX0_middle_95
    · rw [if_neg (by omega)]
      refine lv_lload hx hb dX0_middle_85 (lv_at hl 1 rfl) ?_
      refine lv_lload hx hb dX0_middle_87 (lv_at hl 0 rfl) ?_
      refine lv_ldiv hx hb dX0_middle_89 (lN_ne0 (by omega) (j_cd_lt _ _ _ ls0 (j_cd_lt _ _ _ lX lY))) ?_
      refine lv_goto (tgt := 95) hx hb dX0_middle_90 (by decide) ?_
      exact W.lret (v := ((fx.toInt64 * (lN sn)) + ax) / (lN (j_cd 128 sn (j_cd 128 (((fx.toInt64 * (lN sn)) + ax).toInt.natAbs) (((fy.toInt64 * (lN sn)) + ay).toInt.natAbs))))) hx hb hr q_ret (fun _ h => nomatch h) dX0_middle_95
set_option maxHeartbeats 4000000 in
set_option maxRecDepth 100000 in
theorem c_X4_divisor (l : Launch) (dC : Nat → ClassId) (dI : Nat → Nat → Nat) (a b : Int64) (la : a.toInt.natAbs < 2 ^ 62) (lb : b.toInt.natAbs < 2 ^ 62) : Met l yX4_divisor wsX4_divisor ({ frames := 0, cells := 0, slots := 0, locals := 0 }) (q_Pc (dC, dI) [.long a, .long b] [] []) (k2_QcV (.long (lN (Nat.gcd a.toInt.natAbs b.toInt.natAbs)))) 0 0 (fun _ => False) := by
  refine Met.ofW (cc := cX4_divisor) (maxL := 8) (ret := (some .long)) (by decide) rfl ?_
  intro p e s m args below meth c s₁ B hml hv
  obtain ⟨rfl, hP, hK⟩ := hv
  have hx := B.exec
  have hb := B.bytes
  have hr := B.returns
  have hts := atoms_spec (ws := wsX4_divisor) B.pre
  have hown : s.vm.findClass RX4 = some m.cls := findClass_of_methodNamed B.named
  have hlocks := B.notSynchronized
  have hP : va_P (dC, dI) vwCl [] s.heap := hP
  have hl := lv_entry ([.long a, .long b]) (n := 8) (Nat.le_of_ble_eq_true rfl)
  rw [lg_entry_eq]
  generalize (lg_sl ([.long a, .long b]) ++ List.replicate (8 - (lg_sl ([.long a, .long b])).length) Slot.unset).toArray = ls at hl ⊢
  have hl : lv_has ls 8 [(0, .long a), (2, .long b)] := hl
  refine lv_lload_n hx hb dX4_divisor_0 rfl (lv_at hl 0 rfl) ?_
  refine lv_lconst (v := 0) hx hb dX4_divisor_1 (by decide) ?_
  refine q_lcmp_ge (tgt := 11) hx hb dX4_divisor_2 dX4_divisor_3 (by decide) (fun c3 => ?_) (fun c3 => ?_)
  · refine lv_lload_n hx hb dX4_divisor_11 rfl (lv_at hl 0 rfl) ?_
    refine W.eq (g2 := F0 m 12 ls [.long (lN a.toInt.natAbs)]) (by rw [← (l_pos c3)]) ?_
    refine lv_lstore (lv' := [(4, .long (lN a.toInt.natAbs)), (0, .long a), (2, .long b)]) hx hb dX4_divisor_12 hl (by decide) rfl (fun ls hl => ?_)
    refine lv_lload_n hx hb dX4_divisor_14 rfl (lv_at hl 2 rfl) ?_
    refine lv_lconst (v := 0) hx hb dX4_divisor_15 (by decide) ?_
    refine q_lcmp_ge (tgt := 25) hx hb dX4_divisor_16 dX4_divisor_17 (by decide) (fun c17 => ?_) (fun c17 => ?_)
    · refine lv_lload_n hx hb dX4_divisor_25 rfl (lv_at hl 2 rfl) ?_
      refine W.eq (g2 := F0 m 26 ls [.long (lN b.toInt.natAbs)]) (by rw [← (l_pos c17)]) ?_
      refine lv_lstore (lv' := [(6, .long (lN b.toInt.natAbs)), (4, .long (lN a.toInt.natAbs)), (0, .long a), (2, .long b)]) hx hb dX4_divisor_26 hl (by decide) rfl (fun ls hl => ?_)
      have loop : ∀ (f : Nat) (u : Nat) (v : Nat) (R : Nat) (ls : Array Slot), (u < 2 ^ 62) → (v < 2 ^ 62) → (u + v < f) → Nat.gcd u v = R → lv_has ls 8 [(0, .long a), (2, .long b), (4, .long (lN u)), (6, .long (lN v))] → W p l e (headSpec wsX4_divisor ({ frames := 0, cells := 0, slots := 0, locals := 0 })).room s m ([.long a, .long b] : List Value).toArray below meth c s.heap [] 0 0 (MQ below (k2_QcV (.long (lN R))) ([.long a, .long b] : List Value).toArray s 0 0 (fun _ => False)) (F0 m 28 ls []) := by
        intro f
        induction f with
        | zero =>
          intro u v R ls h1 h2 h3
          omega
        | succ f ih_loop =>
          intro u v R ls h1 h2 h3 hF hl
          refine lv_lload hx hb dX4_divisor_28 (lv_at hl 2 rfl) ?_
          refine lv_lconst (v := lN 0) hx hb dX4_divisor_30 (by decide) ?_
          refine q_lcmpN_le (tgt := 70) (by omega) (by omega) hx hb dX4_divisor_31 dX4_divisor_32 (by decide) (fun c32 => ?_) (fun c32 => ?_)
          · have hF : u + v = R := by rw [← hF, show u = 0 by omega, Nat.gcd_zero_left, Nat.zero_add]
            subst hF
            refine lv_lload hx hb dX4_divisor_70 (lv_at hl 2 rfl) ?_
            refine lv_lload hx hb dX4_divisor_72 (lv_at hl 3 rfl) ?_
            refine q_ladd hx hb dX4_divisor_74 ?_
            exact W.lret (v := lN (u + v)) hx hb hr q_ret (fun _ h => nomatch h) dX4_divisor_75
          · refine lv_lload hx hb dX4_divisor_35 (lv_at hl 3 rfl) ?_
            refine lv_lconst (v := lN 0) hx hb dX4_divisor_37 (by decide) ?_
            refine q_lcmpN_le (tgt := 70) (by omega) (by omega) hx hb dX4_divisor_38 dX4_divisor_39 (by decide) (fun c39 => ?_) (fun c39 => ?_)
            · have hF : u + v = R := by rw [← hF, show v = 0 by omega, Nat.gcd_zero_right, Nat.add_zero]
              subst hF
              refine lv_lload hx hb dX4_divisor_70 (lv_at hl 2 rfl) ?_
              refine lv_lload hx hb dX4_divisor_72 (lv_at hl 3 rfl) ?_
              refine q_ladd hx hb dX4_divisor_74 ?_
              exact W.lret (v := lN (u + v)) hx hb hr q_ret (fun _ h => nomatch h) dX4_divisor_75
            · refine lv_lload hx hb dX4_divisor_42 (lv_at hl 2 rfl) ?_
              refine lv_lload hx hb dX4_divisor_44 (lv_at hl 3 rfl) ?_
              refine q_lcmpN_le (tgt := 60) (by omega) (by omega) hx hb dX4_divisor_46 dX4_divisor_47 (by decide) (fun c47 => ?_) (fun c47 => ?_)
              · have h9 : u + v % u < f := by have := Nat.mod_lt v (show 0 < u by omega); omega
                have hF : Nat.gcd u (v % u) = R := by rw [Nat.gcd_comm, ← Nat.gcd_rec]; exact hF
                refine lv_lload hx hb dX4_divisor_60 (lv_at hl 3 rfl) ?_
                refine lv_lload hx hb dX4_divisor_62 (lv_at hl 2 rfl) ?_
                refine q_lrem (by omega) (by omega) (by omega) hx hb dX4_divisor_64 ?_
                refine lv_lstore (lv' := [(6, .long (lN (v % u))), (0, .long a), (2, .long b), (4, .long (lN u))]) hx hb dX4_divisor_65 hl (by decide) rfl (fun ls hl => ?_)
                refine lv_goto (tgt := 28) hx hb dX4_divisor_67 (by decide) ?_
                exact ih_loop u (v % u) R ls (by first | omega | exact Nat.lt_of_le_of_lt (Nat.mod_le _ _) (by omega)) (by first | omega | exact Nat.lt_of_le_of_lt (Nat.mod_le _ _) (by omega)) h9 hF (lv_sub hl [1, 2, 3, 0] rfl)
              · have h9 : u % v + v < f := by have := Nat.mod_lt u (show 0 < v by omega); omega
                have hF : Nat.gcd (u % v) v = R := by rw [← Nat.gcd_rec, Nat.gcd_comm]; exact hF
                refine lv_lload hx hb dX4_divisor_50 (lv_at hl 2 rfl) ?_
                refine lv_lload hx hb dX4_divisor_52 (lv_at hl 3 rfl) ?_
                refine q_lrem (by omega) (by omega) (by omega) hx hb dX4_divisor_54 ?_
                refine lv_lstore (lv' := [(4, .long (lN (u % v))), (0, .long a), (2, .long b), (6, .long (lN v))]) hx hb dX4_divisor_55 hl (by decide) rfl (fun ls hl => ?_)
                refine lv_goto (tgt := 28) hx hb dX4_divisor_57 (by decide) ?_
                exact ih_loop (u % v) v R ls (by first | omega | exact Nat.lt_of_le_of_lt (Nat.mod_le _ _) (by omega)) (by first | omega | exact Nat.lt_of_le_of_lt (Nat.mod_le _ _) (by omega)) h9 hF (lv_sub hl [1, 2, 0, 3] rfl)
      exact loop (a.toInt.natAbs + b.toInt.natAbs + 1) a.toInt.natAbs b.toInt.natAbs _ ls (by omega) (by omega) (by omega) rfl (lv_sub hl [2, 3, 1, 0] rfl)
    · refine lv_lload_n hx hb dX4_divisor_20 rfl (lv_at hl 2 rfl) ?_
      refine lv_lneg hx hb dX4_divisor_21 ?_
      refine lv_goto (tgt := 26) hx hb dX4_divisor_22 (by decide) ?_
      refine W.eq (g2 := F0 m 26 ls [.long (lN b.toInt.natAbs)]) (by rw [← (l_neg c17 (by omega))]) ?_
      refine lv_lstore (lv' := [(6, .long (lN b.toInt.natAbs)), (4, .long (lN a.toInt.natAbs)), (0, .long a), (2, .long b)]) hx hb dX4_divisor_26 hl (by decide) rfl (fun ls hl => ?_)
      have loop : ∀ (f : Nat) (u : Nat) (v : Nat) (R : Nat) (ls : Array Slot), (u < 2 ^ 62) → (v < 2 ^ 62) → (u + v < f) → Nat.gcd u v = R → lv_has ls 8 [(0, .long a), (2, .long b), (4, .long (lN u)), (6, .long (lN v))] → W p l e (headSpec wsX4_divisor ({ frames := 0, cells := 0, slots := 0, locals := 0 })).room s m ([.long a, .long b] : List Value).toArray below meth c s.heap [] 0 0 (MQ below (k2_QcV (.long (lN R))) ([.long a, .long b] : List Value).toArray s 0 0 (fun _ => False)) (F0 m 28 ls []) := by
        intro f
        induction f with
        | zero =>
          intro u v R ls h1 h2 h3
          omega
        | succ f ih_loop =>
          intro u v R ls h1 h2 h3 hF hl
          refine lv_lload hx hb dX4_divisor_28 (lv_at hl 2 rfl) ?_
          refine lv_lconst (v := lN 0) hx hb dX4_divisor_30 (by decide) ?_
          refine q_lcmpN_le (tgt := 70) (by omega) (by omega) hx hb dX4_divisor_31 dX4_divisor_32 (by decide) (fun c32 => ?_) (fun c32 => ?_)
          · have hF : u + v = R := by rw [← hF, show u = 0 by omega, Nat.gcd_zero_left, Nat.zero_add]
            subst hF
            refine lv_lload hx hb dX4_divisor_70 (lv_at hl 2 rfl) ?_
            refine lv_lload hx hb dX4_divisor_72 (lv_at hl 3 rfl) ?_
            refine q_ladd hx hb dX4_divisor_74 ?_
            exact W.lret (v := lN (u + v)) hx hb hr q_ret (fun _ h => nomatch h) dX4_divisor_75
          · refine lv_lload hx hb dX4_divisor_35 (lv_at hl 3 rfl) ?_
            refine lv_lconst (v := lN 0) hx hb dX4_divisor_37 (by decide) ?_
            refine q_lcmpN_le (tgt := 70) (by omega) (by omega) hx hb dX4_divisor_38 dX4_divisor_39 (by decide) (fun c39 => ?_) (fun c39 => ?_)
            · have hF : u + v = R := by rw [← hF, show v = 0 by omega, Nat.gcd_zero_right, Nat.add_zero]
              subst hF
              refine lv_lload hx hb dX4_divisor_70 (lv_at hl 2 rfl) ?_
              refine lv_lload hx hb dX4_divisor_72 (lv_at hl 3 rfl) ?_
              refine q_ladd hx hb dX4_divisor_74 ?_
              exact W.lret (v := lN (u + v)) hx hb hr q_ret (fun _ h => nomatch h) dX4_divisor_75
            · refine lv_lload hx hb dX4_divisor_42 (lv_at hl 2 rfl) ?_
              refine lv_lload hx hb dX4_divisor_44 (lv_at hl 3 rfl) ?_
              refine q_lcmpN_le (tgt := 60) (by omega) (by omega) hx hb dX4_divisor_46 dX4_divisor_47 (by decide) (fun c47 => ?_) (fun c47 => ?_)
              · have h9 : u + v % u < f := by have := Nat.mod_lt v (show 0 < u by omega); omega
                have hF : Nat.gcd u (v % u) = R := by rw [Nat.gcd_comm, ← Nat.gcd_rec]; exact hF
                refine lv_lload hx hb dX4_divisor_60 (lv_at hl 3 rfl) ?_
                refine lv_lload hx hb dX4_divisor_62 (lv_at hl 2 rfl) ?_
                refine q_lrem (by omega) (by omega) (by omega) hx hb dX4_divisor_64 ?_
                refine lv_lstore (lv' := [(6, .long (lN (v % u))), (0, .long a), (2, .long b), (4, .long (lN u))]) hx hb dX4_divisor_65 hl (by decide) rfl (fun ls hl => ?_)
                refine lv_goto (tgt := 28) hx hb dX4_divisor_67 (by decide) ?_
                exact ih_loop u (v % u) R ls (by first | omega | exact Nat.lt_of_le_of_lt (Nat.mod_le _ _) (by omega)) (by first | omega | exact Nat.lt_of_le_of_lt (Nat.mod_le _ _) (by omega)) h9 hF (lv_sub hl [1, 2, 3, 0] rfl)
              · have h9 : u % v + v < f := by have := Nat.mod_lt u (show 0 < v by omega); omega
                have hF : Nat.gcd (u % v) v = R := by rw [← Nat.gcd_rec, Nat.gcd_comm]; exact hF
                refine lv_lload hx hb dX4_divisor_50 (lv_at hl 2 rfl) ?_
                refine lv_lload hx hb dX4_divisor_52 (lv_at hl 3 rfl) ?_
                refine q_lrem (by omega) (by omega) (by omega) hx hb dX4_divisor_54 ?_
                refine lv_lstore (lv' := [(4, .long (lN (u % v))), (0, .long a), (2, .long b), (6, .long (lN v))]) hx hb dX4_divisor_55 hl (by decide) rfl (fun ls hl => ?_)
                refine lv_goto (tgt := 28) hx hb dX4_divisor_57 (by decide) ?_
                exact ih_loop (u % v) v R ls (by first | omega | exact Nat.lt_of_le_of_lt (Nat.mod_le _ _) (by omega)) (by first | omega | exact Nat.lt_of_le_of_lt (Nat.mod_le _ _) (by omega)) h9 hF (lv_sub hl [1, 2, 0, 3] rfl)
      exact loop (a.toInt.natAbs + b.toInt.natAbs + 1) a.toInt.natAbs b.toInt.natAbs _ ls (by omega) (by omega) (by omega) rfl (lv_sub hl [2, 3, 1, 0] rfl)
  · refine lv_lload_n hx hb dX4_divisor_6 rfl (lv_at hl 0 rfl) ?_
    refine lv_lneg hx hb dX4_divisor_7 ?_
    refine lv_goto (tgt := 12) hx hb dX4_divisor_8 (by decide) ?_
    refine W.eq (g2 := F0 m 12 ls [.long (lN a.toInt.natAbs)]) (by rw [← (l_neg c3 (by omega))]) ?_
    refine lv_lstore (lv' := [(4, .long (lN a.toInt.natAbs)), (0, .long a), (2, .long b)]) hx hb dX4_divisor_12 hl (by decide) rfl (fun ls hl => ?_)
    refine lv_lload_n hx hb dX4_divisor_14 rfl (lv_at hl 2 rfl) ?_
    refine lv_lconst (v := 0) hx hb dX4_divisor_15 (by decide) ?_
    refine q_lcmp_ge (tgt := 25) hx hb dX4_divisor_16 dX4_divisor_17 (by decide) (fun c17 => ?_) (fun c17 => ?_)
    · refine lv_lload_n hx hb dX4_divisor_25 rfl (lv_at hl 2 rfl) ?_
      refine W.eq (g2 := F0 m 26 ls [.long (lN b.toInt.natAbs)]) (by rw [← (l_pos c17)]) ?_
      refine lv_lstore (lv' := [(6, .long (lN b.toInt.natAbs)), (4, .long (lN a.toInt.natAbs)), (0, .long a), (2, .long b)]) hx hb dX4_divisor_26 hl (by decide) rfl (fun ls hl => ?_)
      have loop : ∀ (f : Nat) (u : Nat) (v : Nat) (R : Nat) (ls : Array Slot), (u < 2 ^ 62) → (v < 2 ^ 62) → (u + v < f) → Nat.gcd u v = R → lv_has ls 8 [(0, .long a), (2, .long b), (4, .long (lN u)), (6, .long (lN v))] → W p l e (headSpec wsX4_divisor ({ frames := 0, cells := 0, slots := 0, locals := 0 })).room s m ([.long a, .long b] : List Value).toArray below meth c s.heap [] 0 0 (MQ below (k2_QcV (.long (lN R))) ([.long a, .long b] : List Value).toArray s 0 0 (fun _ => False)) (F0 m 28 ls []) := by
        intro f
        induction f with
        | zero =>
          intro u v R ls h1 h2 h3
          omega
        | succ f ih_loop =>
          intro u v R ls h1 h2 h3 hF hl
          refine lv_lload hx hb dX4_divisor_28 (lv_at hl 2 rfl) ?_
          refine lv_lconst (v := lN 0) hx hb dX4_divisor_30 (by decide) ?_
          refine q_lcmpN_le (tgt := 70) (by omega) (by omega) hx hb dX4_divisor_31 dX4_divisor_32 (by decide) (fun c32 => ?_) (fun c32 => ?_)
          · have hF : u + v = R := by rw [← hF, show u = 0 by omega, Nat.gcd_zero_left, Nat.zero_add]
            subst hF
            refine lv_lload hx hb dX4_divisor_70 (lv_at hl 2 rfl) ?_
            refine lv_lload hx hb dX4_divisor_72 (lv_at hl 3 rfl) ?_
            refine q_ladd hx hb dX4_divisor_74 ?_
            exact W.lret (v := lN (u + v)) hx hb hr q_ret (fun _ h => nomatch h) dX4_divisor_75
          · refine lv_lload hx hb dX4_divisor_35 (lv_at hl 3 rfl) ?_
            refine lv_lconst (v := lN 0) hx hb dX4_divisor_37 (by decide) ?_
            refine q_lcmpN_le (tgt := 70) (by omega) (by omega) hx hb dX4_divisor_38 dX4_divisor_39 (by decide) (fun c39 => ?_) (fun c39 => ?_)
            · have hF : u + v = R := by rw [← hF, show v = 0 by omega, Nat.gcd_zero_right, Nat.add_zero]
              subst hF
              refine lv_lload hx hb dX4_divisor_70 (lv_at hl 2 rfl) ?_
              refine lv_lload hx hb dX4_divisor_72 (lv_at hl 3 rfl) ?_
              refine q_ladd hx hb dX4_divisor_74 ?_
              exact W.lret (v := lN (u + v)) hx hb hr q_ret (fun _ h => nomatch h) dX4_divisor_75
            · refine lv_lload hx hb dX4_divisor_42 (lv_at hl 2 rfl) ?_
              refine lv_lload hx hb dX4_divisor_44 (lv_at hl 3 rfl) ?_
              refine q_lcmpN_le (tgt := 60) (by omega) (by omega) hx hb dX4_divisor_46 dX4_divisor_47 (by decide) (fun c47 => ?_) (fun c47 => ?_)
              · have h9 : u + v % u < f := by have := Nat.mod_lt v (show 0 < u by omega); omega
                have hF : Nat.gcd u (v % u) = R := by rw [Nat.gcd_comm, ← Nat.gcd_rec]; exact hF
                refine lv_lload hx hb dX4_divisor_60 (lv_at hl 3 rfl) ?_
                refine lv_lload hx hb dX4_divisor_62 (lv_at hl 2 rfl) ?_
                refine q_lrem (by omega) (by omega) (by omega) hx hb dX4_divisor_64 ?_
                refine lv_lstore (lv' := [(6, .long (lN (v % u))), (0, .long a), (2, .long b), (4, .long (lN u))]) hx hb dX4_divisor_65 hl (by decide) rfl (fun ls hl => ?_)
                refine lv_goto (tgt := 28) hx hb dX4_divisor_67 (by decide) ?_
                exact ih_loop u (v % u) R ls (by first | omega | exact Nat.lt_of_le_of_lt (Nat.mod_le _ _) (by omega)) (by first | omega | exact Nat.lt_of_le_of_lt (Nat.mod_le _ _) (by omega)) h9 hF (lv_sub hl [1, 2, 3, 0] rfl)
              · have h9 : u % v + v < f := by have := Nat.mod_lt u (show 0 < v by omega); omega
                have hF : Nat.gcd (u % v) v = R := by rw [← Nat.gcd_rec, Nat.gcd_comm]; exact hF
                refine lv_lload hx hb dX4_divisor_50 (lv_at hl 2 rfl) ?_
                refine lv_lload hx hb dX4_divisor_52 (lv_at hl 3 rfl) ?_
                refine q_lrem (by omega) (by omega) (by omega) hx hb dX4_divisor_54 ?_
                refine lv_lstore (lv' := [(4, .long (lN (u % v))), (0, .long a), (2, .long b), (6, .long (lN v))]) hx hb dX4_divisor_55 hl (by decide) rfl (fun ls hl => ?_)
                refine lv_goto (tgt := 28) hx hb dX4_divisor_57 (by decide) ?_
                exact ih_loop (u % v) v R ls (by first | omega | exact Nat.lt_of_le_of_lt (Nat.mod_le _ _) (by omega)) (by first | omega | exact Nat.lt_of_le_of_lt (Nat.mod_le _ _) (by omega)) h9 hF (lv_sub hl [1, 2, 0, 3] rfl)
      exact loop (a.toInt.natAbs + b.toInt.natAbs + 1) a.toInt.natAbs b.toInt.natAbs _ ls (by omega) (by omega) (by omega) rfl (lv_sub hl [2, 3, 1, 0] rfl)
    · refine lv_lload_n hx hb dX4_divisor_20 rfl (lv_at hl 2 rfl) ?_
      refine lv_lneg hx hb dX4_divisor_21 ?_
      refine lv_goto (tgt := 26) hx hb dX4_divisor_22 (by decide) ?_
      refine W.eq (g2 := F0 m 26 ls [.long (lN b.toInt.natAbs)]) (by rw [← (l_neg c17 (by omega))]) ?_
      refine lv_lstore (lv' := [(6, .long (lN b.toInt.natAbs)), (4, .long (lN a.toInt.natAbs)), (0, .long a), (2, .long b)]) hx hb dX4_divisor_26 hl (by decide) rfl (fun ls hl => ?_)
      have loop : ∀ (f : Nat) (u : Nat) (v : Nat) (R : Nat) (ls : Array Slot), (u < 2 ^ 62) → (v < 2 ^ 62) → (u + v < f) → Nat.gcd u v = R → lv_has ls 8 [(0, .long a), (2, .long b), (4, .long (lN u)), (6, .long (lN v))] → W p l e (headSpec wsX4_divisor ({ frames := 0, cells := 0, slots := 0, locals := 0 })).room s m ([.long a, .long b] : List Value).toArray below meth c s.heap [] 0 0 (MQ below (k2_QcV (.long (lN R))) ([.long a, .long b] : List Value).toArray s 0 0 (fun _ => False)) (F0 m 28 ls []) := by
        intro f
        induction f with
        | zero =>
          intro u v R ls h1 h2 h3
          omega
        | succ f ih_loop =>
          intro u v R ls h1 h2 h3 hF hl
          refine lv_lload hx hb dX4_divisor_28 (lv_at hl 2 rfl) ?_
          refine lv_lconst (v := lN 0) hx hb dX4_divisor_30 (by decide) ?_
          refine q_lcmpN_le (tgt := 70) (by omega) (by omega) hx hb dX4_divisor_31 dX4_divisor_32 (by decide) (fun c32 => ?_) (fun c32 => ?_)
          · have hF : u + v = R := by rw [← hF, show u = 0 by omega, Nat.gcd_zero_left, Nat.zero_add]
            subst hF
            refine lv_lload hx hb dX4_divisor_70 (lv_at hl 2 rfl) ?_
            refine lv_lload hx hb dX4_divisor_72 (lv_at hl 3 rfl) ?_
            refine q_ladd hx hb dX4_divisor_74 ?_
            exact W.lret (v := lN (u + v)) hx hb hr q_ret (fun _ h => nomatch h) dX4_divisor_75
          · refine lv_lload hx hb dX4_divisor_35 (lv_at hl 3 rfl) ?_
            refine lv_lconst (v := lN 0) hx hb dX4_divisor_37 (by decide) ?_
            refine q_lcmpN_le (tgt := 70) (by omega) (by omega) hx hb dX4_divisor_38 dX4_divisor_39 (by decide) (fun c39 => ?_) (fun c39 => ?_)
            · have hF : u + v = R := by rw [← hF, show v = 0 by omega, Nat.gcd_zero_right, Nat.add_zero]
              subst hF
              refine lv_lload hx hb dX4_divisor_70 (lv_at hl 2 rfl) ?_
              refine lv_lload hx hb dX4_divisor_72 (lv_at hl 3 rfl) ?_
              refine q_ladd hx hb dX4_divisor_74 ?_
              exact W.lret (v := lN (u + v)) hx hb hr q_ret (fun _ h => nomatch h) dX4_divisor_75
            · refine lv_lload hx hb dX4_divisor_42 (lv_at hl 2 rfl) ?_
              refine lv_lload hx hb dX4_divisor_44 (lv_at hl 3 rfl) ?_
              refine q_lcmpN_le (tgt := 60) (by omega) (by omega) hx hb dX4_divisor_46 dX4_divisor_47 (by decide) (fun c47 => ?_) (fun c47 => ?_)
              · have h9 : u + v % u < f := by have := Nat.mod_lt v (show 0 < u by omega); omega
                have hF : Nat.gcd u (v % u) = R := by rw [Nat.gcd_comm, ← Nat.gcd_rec]; exact hF
                refine lv_lload hx hb dX4_divisor_60 (lv_at hl 3 rfl) ?_
                refine lv_lload hx hb dX4_divisor_62 (lv_at hl 2 rfl) ?_
                refine q_lrem (by omega) (by omega) (by omega) hx hb dX4_divisor_64 ?_
                refine lv_lstore (lv' := [(6, .long (lN (v % u))), (0, .long a), (2, .long b), (4, .long (lN u))]) hx hb dX4_divisor_65 hl (by decide) rfl (fun ls hl => ?_)
                refine lv_goto (tgt := 28) hx hb dX4_divisor_67 (by decide) ?_
                exact ih_loop u (v % u) R ls (by first | omega | exact Nat.lt_of_le_of_lt (Nat.mod_le _ _) (by omega)) (by first | omega | exact Nat.lt_of_le_of_lt (Nat.mod_le _ _) (by omega)) h9 hF (lv_sub hl [1, 2, 3, 0] rfl)
              · have h9 : u % v + v < f := by have := Nat.mod_lt u (show 0 < v by omega); omega
                have hF : Nat.gcd (u % v) v = R := by rw [← Nat.gcd_rec, Nat.gcd_comm]; exact hF
                refine lv_lload hx hb dX4_divisor_50 (lv_at hl 2 rfl) ?_
                refine lv_lload hx hb dX4_divisor_52 (lv_at hl 3 rfl) ?_
                refine q_lrem (by omega) (by omega) (by omega) hx hb dX4_divisor_54 ?_
                refine lv_lstore (lv' := [(4, .long (lN (u % v))), (0, .long a), (2, .long b), (6, .long (lN v))]) hx hb dX4_divisor_55 hl (by decide) rfl (fun ls hl => ?_)
                refine lv_goto (tgt := 28) hx hb dX4_divisor_57 (by decide) ?_
                exact ih_loop (u % v) v R ls (by first | omega | exact Nat.lt_of_le_of_lt (Nat.mod_le _ _) (by omega)) (by first | omega | exact Nat.lt_of_le_of_lt (Nat.mod_le _ _) (by omega)) h9 hF (lv_sub hl [1, 2, 0, 3] rfl)
      exact loop (a.toInt.natAbs + b.toInt.natAbs + 1) a.toInt.natAbs b.toInt.natAbs _ ls (by omega) (by omega) (by omega) rfl (lv_sub hl [2, 3, 1, 0] rfl)
