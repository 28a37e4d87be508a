/-! CircleCells: its methods, where they return and where they throw -/
def j_refr (x y : Nat → Int32) (n : Nat) (st : Int32) (z : (Int32 × Int32 × Int64 × Int64 × Int64) × (Nat → Nat) × (Nat → Nat) × (Nat → Int32) × Nat) (rm : Nat → Int32) (rc : Nat) : ((Int32 × Int32 × Int64 × Int64 × Int64) × (Nat → Nat) × (Nat → Nat) × (Nat → Int32) × Nat) × (Nat → Int32) × Nat :=
  if st = 0 then (z, rm, rc) else j_tail rm n (j_ba x y n (z.1, z.2.1, z.2.2.1, j_fill (-1) 400 z.2.2.2.1 0, 0) 0)
def j_st (Z : ((Int32 × Int32 × Int64 × Int64 × Int64) × (Nat → Nat) × (Nat → Nat) × (Nat → Int32) × Nat) × (Nat → Int32) × Nat) : Prop := (∀ j, Z.1.2.1 j < 20) ∧ Z.1.2.2.2.2 ≤ 35 ∧ (∀ d, d < Z.1.2.2.2.2 → Z.1.2.2.1 d + 3 ≤ Z.1.2.2.1 (d + 1) ∧ Z.1.2.2.1 (d + 1) ≤ 105) ∧ Z.2.2 ≤ 20
def j_celV (w i : Int32) (Z : ((Int32 × Int32 × Int64 × Int64 × Int64) × (Nat → Nat) × (Nat → Nat) × (Nat → Int32) × Nat) × (Nat → Int32) × Nat) : Int32 := if i = -1 then nI (Z.1.2.2.1 (w.toNatClampNeg + 1) - Z.1.2.2.1 w.toNatClampNeg) else nI (Z.1.2.1 (Z.1.2.2.1 w.toNatClampNeg + i.toNatClampNeg))
def j_besV (w i : Int32) (Z : ((Int32 × Int32 × Int64 × Int64 × Int64) × (Nat → Nat) × (Nat → Nat) × (Nat → Int32) × Nat) × (Nat → Int32) × Nat) : Int32 := Z.1.2.2.2.1 (j_after Z.1.2.1 Z.1.2.2.1 w.toNatClampNeg i.toNatClampNeg * 20 + Z.1.2.1 (Z.1.2.2.1 w.toNatClampNeg + i.toNatClampNeg))
def j_hulV (i : Int32) (Z : ((Int32 × Int32 × Int64 × Int64 × Int64) × (Nat → Nat) × (Nat → Nat) × (Nat → Int32) × Nat) × (Nat → Int32) × Nat) : Int32 := if i = -1 then nI Z.2.2 else Z.2.1 i.toNatClampNeg
def j_layW (x y : Nat → Int32) (w : Int32) (Z : ((Int32 × Int32 × Int64 × Int64 × Int64) × (Nat → Nat) × (Nat → Nat) × (Nat → Int32) × Nat) × (Nat → Int32) × Nat) : Int32 × Int32 × Int64 × Int64 × Int64 := j_lay x y (Z.1.2.1 (Z.1.2.2.1 w.toNatClampNeg + 0)) (Z.1.2.1 (Z.1.2.2.1 w.toNatClampNeg + 1)) (Z.1.2.1 (Z.1.2.2.1 w.toNatClampNeg + 2))
theorem r_out_k {k n : Nat} (h : k < n) (hn : n < 2 ^ 31) : r_out (nI k) (nI n) = false := by
  unfold r_out
  rw [if_neg (nI_pos (Nat.lt_trans h hn)), if_pos ((nI_ltI (Nat.lt_trans h hn) hn).mpr h)]
theorem le_2 {t : Int32} (h : t < 3) : t ≤ 2 := by
  simp only [Int32.lt_iff_toInt_lt, Int32.le_iff_toInt_le] at h ⊢
  have h3 : (3 : Int32).toInt = 3 := rfl
  have h2 : (2 : Int32).toInt = 2 := rfl
  omega
theorem lt_3 {t : Int32} (h : t ≤ 2) : t < 3 := by
  simp only [Int32.lt_iff_toInt_lt, Int32.le_iff_toInt_le] at h ⊢
  have h3 : (3 : Int32).toInt = 3 := rfl
  have h2 : (2 : Int32).toInt = 2 := rfl
  omega
set_option maxHeartbeats 4000000 in
set_option maxRecDepth 100000 in
theorem c_X3_requirePlace (l : Launch) (dC : Nat → ClassId) (dI : Nat → Nat → Nat) (px py : Int32) (hf : r_far px py = false) : Met l yX3_requirePlace wsX3_requirePlace ({ frames := 0, cells := 0, slots := 0, locals := 0 }) (q_Pm (dC, dI) [.int px, .int py] [] []) (q_Qm (dC, dI) (q_in []) none []) 0 0 (q_in []) := by
  refine Met.ofW (cc := cX3_requirePlace) (maxL := 2) (ret := none) (by decide) rfl ?_
  intro p e s m args below meth c s₁ B hml hv
  obtain ⟨rfl, hP, hK, hD0⟩ := hv
  have hx := B.exec
  have hb := B.bytes
  have hr := B.returns
  have hts := atoms_spec (ws := wsX3_requirePlace) B.pre
  have hown : s.vm.findClass RX3 = some m.cls := findClass_of_methodNamed B.named
  have hlocks := B.notSynchronized
  have hD := q_inD hD0
  generalize hAe : q_in [] = A at hD ⊢
  have hS : va_S A s.heap s.heap [] := va_S.rf
  have hP : va_P (dC, dI) vwCl [] s.heap := hP
  have hl := lv_entry ([.int px, .int py]) (n := 2) (Nat.le_of_ble_eq_true rfl)
  rw [lg_entry_eq]
  generalize (lg_sl ([.int px, .int py]) ++ List.replicate (2 - (lg_sl ([.int px, .int py])).length) Slot.unset).toArray = ls at hl ⊢
  have hl : lv_has ls 2 [(0, .int px), (1, .int py)] := hl
  refine lv_iload_n hx hb dX3_requirePlace_0 rfl (lv_at hl 0 rfl) ?_
  refine lv_sipush (v := (-400)) hx hb dX3_requirePlace_1 (by decide) ?_
  refine lv_icmp_lt (tgt := 28) hx hb dX3_requirePlace_4 (by decide) (fun c4 => ?_) (fun c4 => ?_)
  · rw [r_far, if_pos c4] at hf; cases hf
  · rw [r_far, if_neg c4] at hf
    refine lv_iload_n hx hb dX3_requirePlace_7 rfl (lv_at hl 0 rfl) ?_
    refine lv_sipush (v := 400) hx hb dX3_requirePlace_8 (by decide) ?_
    refine lv_icmp_gt (tgt := 28) hx hb dX3_requirePlace_11 (by decide) (fun c11 => ?_) (fun c11 => ?_)
    · rw [if_pos c11] at hf; cases hf
    · rw [if_neg c11] at hf
      refine lv_iload_n hx hb dX3_requirePlace_14 rfl (lv_at hl 1 rfl) ?_
      refine lv_sipush (v := (-400)) hx hb dX3_requirePlace_15 (by decide) ?_
      refine lv_icmp_lt (tgt := 28) hx hb dX3_requirePlace_18 (by decide) (fun c18 => ?_) (fun c18 => ?_)
      · rw [if_pos c18] at hf; cases hf
      · rw [if_neg c18] at hf
        refine lv_iload_n hx hb dX3_requirePlace_21 rfl (lv_at hl 1 rfl) ?_
        refine lv_sipush (v := 400) hx hb dX3_requirePlace_22 (by decide) ?_
        refine lv_icmp_le (tgt := 38) hx hb dX3_requirePlace_25 (by decide) (fun c25 => ?_) (fun c25 => ?_)
        · exact W.vret hx hb hr (q_retm hP hS) hS.2.2 dX3_requirePlace_38
        · rw [if_neg c25] at hf; cases hf
set_option maxHeartbeats 4000000 in
set_option maxRecDepth 100000 in
theorem t1_X3_requirePlace (l : Launch) (hst9 : l.stackTraces = false) (dC : Nat → ClassId) (dI : Nat → Nat → Nat) (px py : Int32) (hf : r_far px py = true) : vx_Met l yX3_requirePlace wsX3_requirePlace ({ frames := 6, cells := 1, slots := 6, locals := 82 }) (q_Px (dC, dI) [.int px, .int py] [] []) q_no (q_XX (dC, dI) (q_in []) q_IA []) 1 6 (q_in []) := by
  refine vx_ofW (cc := cX3_requirePlace) (maxL := 2) (ret := none) (by decide) rfl ?_
  intro p e s m args below meth c s₁ B hml hout hv
  obtain ⟨rfl, hP, hK, hD0, hE⟩ := hv
  have hx := B.exec
  have hb := B.bytes
  have hr := B.returns
  have hts := atoms_spec (ws := wsX3_requirePlace) B.pre
  have hown : s.vm.findClass RX3 = some m.cls := findClass_of_methodNamed B.named
  have hlocks := B.notSynchronized
  have hD := q_inD hD0
  generalize hAe : q_in [] = A at hD hE ⊢
  have hS : va_S A s.heap s.heap [] := va_S.rf
  have hP : va_P (dC, dI) vwCl [] s.heap := hP
  have hl := lv_entry ([.int px, .int py]) (n := 2) (Nat.le_of_ble_eq_true rfl)
  rw [lg_entry_eq]
  generalize (lg_sl ([.int px, .int py]) ++ List.replicate (2 - (lg_sl ([.int px, .int py])).length) Slot.unset).toArray = ls at hl ⊢
  have hl : lv_has ls 2 [(0, .int px), (1, .int py)] := hl
  refine lv_iload_n hx hb dX3_requirePlace_0 rfl (lv_at hl 0 rfl) ?_
  refine lv_sipush (v := (-400)) hx hb dX3_requirePlace_1 (by decide) ?_
  refine lv_icmp_lt (tgt := 28) hx hb dX3_requirePlace_4 (by decide) (fun c4 => ?_) (fun c4 => ?_)
  · exact q_throw (own := RX3) (cls := "java/lang/IllegalArgumentException") (text := "x and y are from -400 to 400") (ws' := []) hx hb hst9 hown (by decide +kernel) (by decide) (by decide) hts (by decide +kernel) (by decide +kernel) (by decide +kernel) (by decide +kernel) (by decide +kernel) hE hP hS (hl.1.trans hml.symm) dX3_requirePlace_28 dX3_requirePlace_31 dX3_requirePlace_32 dX3_requirePlace_34 dX3_requirePlace_37 hout (Nat.le_of_ble_eq_true rfl) (Nat.le_of_ble_eq_true rfl) (Nat.le_of_ble_eq_true rfl) (Nat.le_of_ble_eq_true rfl) hlocks
  · rw [r_far, if_neg c4] at hf
    refine lv_iload_n hx hb dX3_requirePlace_7 rfl (lv_at hl 0 rfl) ?_
    refine lv_sipush (v := 400) hx hb dX3_requirePlace_8 (by decide) ?_
    refine lv_icmp_gt (tgt := 28) hx hb dX3_requirePlace_11 (by decide) (fun c11 => ?_) (fun c11 => ?_)
    · exact q_throw (own := RX3) (cls := "java/lang/IllegalArgumentException") (text := "x and y are from -400 to 400") (ws' := []) hx hb hst9 hown (by decide +kernel) (by decide) (by decide) hts (by decide +kernel) (by decide +kernel) (by decide +kernel) (by decide +kernel) (by decide +kernel) hE hP hS (hl.1.trans hml.symm) dX3_requirePlace_28 dX3_requirePlace_31 dX3_requirePlace_32 dX3_requirePlace_34 dX3_requirePlace_37 hout (Nat.le_of_ble_eq_true rfl) (Nat.le_of_ble_eq_true rfl) (Nat.le_of_ble_eq_true rfl) (Nat.le_of_ble_eq_true rfl) hlocks
    · rw [if_neg c11] at hf
      refine lv_iload_n hx hb dX3_requirePlace_14 rfl (lv_at hl 1 rfl) ?_
      refine lv_sipush (v := (-400)) hx hb dX3_requirePlace_15 (by decide) ?_
      refine lv_icmp_lt (tgt := 28) hx hb dX3_requirePlace_18 (by decide) (fun c18 => ?_) (fun c18 => ?_)
      · exact q_throw (own := RX3) (cls := "java/lang/IllegalArgumentException") (text := "x and y are from -400 to 400") (ws' := []) hx hb hst9 hown (by decide +kernel) (by decide) (by decide) hts (by decide +kernel) (by decide +kernel) (by decide +kernel) (by decide +kernel) (by decide +kernel) hE hP hS (hl.1.trans hml.symm) dX3_requirePlace_28 dX3_requirePlace_31 dX3_requirePlace_32 dX3_requirePlace_34 dX3_requirePlace_37 hout (Nat.le_of_ble_eq_true rfl) (Nat.le_of_ble_eq_true rfl) (Nat.le_of_ble_eq_true rfl) (Nat.le_of_ble_eq_true rfl) hlocks
      · rw [if_neg c18] at hf
        refine lv_iload_n hx hb dX3_requirePlace_21 rfl (lv_at hl 1 rfl) ?_
        refine lv_sipush (v := 400) hx hb dX3_requirePlace_22 (by decide) ?_
        refine lv_icmp_le (tgt := 38) hx hb dX3_requirePlace_25 (by decide) (fun c25 => ?_) (fun c25 => ?_)
        · rw [if_pos c25] at hf; cases hf
        · exact q_throw (own := RX3) (cls := "java/lang/IllegalArgumentException") (text := "x and y are from -400 to 400") (ws' := []) hx hb hst9 hown (by decide +kernel) (by decide) (by decide) hts (by decide +kernel) (by decide +kernel) (by decide +kernel) (by decide +kernel) (by decide +kernel) hE hP hS (hl.1.trans hml.symm) dX3_requirePlace_28 dX3_requirePlace_31 dX3_requirePlace_32 dX3_requirePlace_34 dX3_requirePlace_37 hout (Nat.le_of_ble_eq_true rfl) (Nat.le_of_ble_eq_true rfl) (Nat.le_of_ble_eq_true rfl) (Nat.le_of_ble_eq_true rfl) hlocks
set_option maxHeartbeats 4000000 in
set_option maxRecDepth 100000 in
theorem c_X3_requireSite (l : Launch) (dC : Nat → ClassId) (dI : Nat → Nat → Nat) (c0 m0 s0 xa ya : Nat) (st : Int32) (n : Nat) (w : Int32) (hf : r_out w (nI n) = false) : Met l yX3_requireSite wsX3_requireSite ({ frames := 0, cells := 0, slots := 0, locals := 0 }) (q_Pm (dC, dI) [.ref c0, .int w] [(c0, .inr (3, [.ref s0, .ref m0, .int st])), (s0, .inr (2, [.ref xa, .ref ya, .int (nI n)]))] []) (q_Qm (dC, dI) (q_in [(c0, .inr (3, [.ref s0, .ref m0, .int st])), (s0, .inr (2, [.ref xa, .ref ya, .int (nI n)]))]) none [(c0, .inr (3, [.ref s0, .ref m0, .int st])), (s0, .inr (2, [.ref xa, .ref ya, .int (nI n)]))]) 0 0 (q_in [(c0, .inr (3, [.ref s0, .ref m0, .int st])), (s0, .inr (2, [.ref xa, .ref ya, .int (nI n)]))]) := by
  refine Met.ofW (cc := cX3_requireSite) (maxL := 2) (ret := none) (by decide) rfl ?_
  intro p e s m args below meth c s₁ B hml hv
  obtain ⟨rfl, hP, hK, hD0⟩ := hv
  have hx := B.exec
  have hb := B.bytes
  have hr := B.returns
  have hts := atoms_spec (ws := wsX3_requireSite) B.pre
  have hown : s.vm.findClass RX3 = some m.cls := findClass_of_methodNamed B.named
  have hlocks := B.notSynchronized
  have hD := q_inD hD0
  generalize hAe : q_in [(c0, .inr (3, [.ref s0, .ref m0, .int st])), (s0, .inr (2, [.ref xa, .ref ya, .int (nI n)]))] = A at hD ⊢
  have hS : va_S A s.heap s.heap [] := va_S.rf
  have hP : va_P (dC, dI) vwCl [(c0, .inr (3, [.ref s0, .ref m0, .int st])), (s0, .inr (2, [.ref xa, .ref ya, .int (nI n)]))] s.heap := hP
  have hl := lv_entry ([.ref c0, .int w]) (n := 2) (Nat.le_of_ble_eq_true rfl)
  rw [lg_entry_eq]
  generalize (lg_sl ([.ref c0, .int w]) ++ List.replicate (2 - (lg_sl ([.ref c0, .int w])).length) Slot.unset).toArray = ls at hl ⊢
  have hl : lv_has ls 2 [(0, .ref c0), (1, .int w)] := hl
  refine lv_iload_n hx hb dX3_requireSite_0 rfl (lv_at hl 1 rfl) ?_
  refine lv_if_lt (tgt := 15) hx hb dX3_requireSite_1 (by decide) (fun c1 => ?_) (fun c1 => ?_)
  · rw [r_out, if_pos c1] at hf; cases hf
  · rw [r_out, if_neg c1] at hf
    refine lv_iload_n hx hb dX3_requireSite_4 rfl (lv_at hl 1 rfl) ?_
    refine lv_aload_n hx hb dX3_requireSite_5 rfl (lv_at hl 0 rfl) ?_
    refine va_get (D := (dC, dI)) (ci := 3) (v := .ref s0) (C := RX3) (T := TX3) (N := 3) hx hb hts (by decide +kernel) hown hK hP 0 rfl rfl 0 (by decide) (hts (.fieldLink RX3 12 "CircleCells" "sites" "LCircleCells$Sites;") (by decide +kernel)) (fun _ h9 => h9) rfl dX3_requireSite_6 ?_
    refine va_get (D := (dC, dI)) (ci := 2) (v := .int (nI n)) (C := RX2) (T := TX2) (N := 3) hx hb hts (by decide +kernel) hown hK hP 1 rfl rfl 2 (by decide) (hts (.fieldLink RX3 44 "CircleCells$Sites" "size" "I") (by decide +kernel)) (fun _ h9 => h9) rfl dX3_requireSite_9 ?_
    refine lv_icmp_lt (tgt := 25) hx hb dX3_requireSite_12 (by decide) (fun c12 => ?_) (fun c12 => ?_)
    · exact W.vret hx hb hr (q_retm hP hS) hS.2.2 dX3_requireSite_25
    · rw [if_neg c12] at hf; cases hf
set_option maxHeartbeats 4000000 in
set_option maxRecDepth 100000 in
theorem t1_X3_requireSite (l : Launch) (hst9 : l.stackTraces = false) (dC : Nat → ClassId) (dI : Nat → Nat → Nat) (c0 m0 s0 xa ya : Nat) (st : Int32) (n : Nat) (w : Int32) (hf : r_out w (nI n) = true) : vx_Met l yX3_requireSite wsX3_requireSite ({ frames := 6, cells := 1, slots := 6, locals := 82 }) (q_Px (dC, dI) [.ref c0, .int w] [(c0, .inr (3, [.ref s0, .ref m0, .int st])), (s0, .inr (2, [.ref xa, .ref ya, .int (nI n)]))] []) q_no (q_XX (dC, dI) (q_in [(c0, .inr (3, [.ref s0, .ref m0, .int st])), (s0, .inr (2, [.ref xa, .ref ya, .int (nI n)]))]) q_IA [(c0, .inr (3, [.ref s0, .ref m0, .int st])), (s0, .inr (2, [.ref xa, .ref ya, .int (nI n)]))]) 1 6 (q_in [(c0, .inr (3, [.ref s0, .ref m0, .int st])), (s0, .inr (2, [.ref xa, .ref ya, .int (nI n)]))]) := by
  refine vx_ofW (cc := cX3_requireSite) (maxL := 2) (ret := none) (by decide) rfl ?_
  intro p e s m args below meth c s₁ B hml hout hv
  obtain ⟨rfl, hP, hK, hD0, hE⟩ := hv
  have hx := B.exec
  have hb := B.bytes
  have hr := B.returns
  have hts := atoms_spec (ws := wsX3_requireSite) B.pre
  have hown : s.vm.findClass RX3 = some m.cls := findClass_of_methodNamed B.named
  have hlocks := B.notSynchronized
  have hD := q_inD hD0
  generalize hAe : q_in [(c0, .inr (3, [.ref s0, .ref m0, .int st])), (s0, .inr (2, [.ref xa, .ref ya, .int (nI n)]))] = A at hD hE ⊢
  have hS : va_S A s.heap s.heap [] := va_S.rf
  have hP : va_P (dC, dI) vwCl [(c0, .inr (3, [.ref s0, .ref m0, .int st])), (s0, .inr (2, [.ref xa, .ref ya, .int (nI n)]))] s.heap := hP
  have hl := lv_entry ([.ref c0, .int w]) (n := 2) (Nat.le_of_ble_eq_true rfl)
  rw [lg_entry_eq]
  generalize (lg_sl ([.ref c0, .int w]) ++ List.replicate (2 - (lg_sl ([.ref c0, .int w])).length) Slot.unset).toArray = ls at hl ⊢
  have hl : lv_has ls 2 [(0, .ref c0), (1, .int w)] := hl
  refine lv_iload_n hx hb dX3_requireSite_0 rfl (lv_at hl 1 rfl) ?_
  refine lv_if_lt (tgt := 15) hx hb dX3_requireSite_1 (by decide) (fun c1 => ?_) (fun c1 => ?_)
  · exact q_throw (own := RX3) (cls := "java/lang/IllegalArgumentException") (text := "no such site") (ws' := [(c0, .inr (3, [.ref s0, .ref m0, .int st])), (s0, .inr (2, [.ref xa, .ref ya, .int (nI n)]))]) hx hb hst9 hown (by decide +kernel) (by decide) (by decide) hts (by decide +kernel) (by decide +kernel) (by decide +kernel) (by decide +kernel) (by decide +kernel) hE hP hS (hl.1.trans hml.symm) dX3_requireSite_15 dX3_requireSite_18 dX3_requireSite_19 dX3_requireSite_21 dX3_requireSite_24 hout (Nat.le_of_ble_eq_true rfl) (Nat.le_of_ble_eq_true rfl) (Nat.le_of_ble_eq_true rfl) (Nat.le_of_ble_eq_true rfl) hlocks
  · rw [r_out, if_neg c1] at hf
    refine lv_iload_n hx hb dX3_requireSite_4 rfl (lv_at hl 1 rfl) ?_
    refine lv_aload_n hx hb dX3_requireSite_5 rfl (lv_at hl 0 rfl) ?_
    refine va_get (D := (dC, dI)) (ci := 3) (v := .ref s0) (C := RX3) (T := TX3) (N := 3) hx hb hts (by decide +kernel) hown hK hP 0 rfl rfl 0 (by decide) (hts (.fieldLink RX3 12 "CircleCells" "sites" "LCircleCells$Sites;") (by decide +kernel)) (fun _ h9 => h9) rfl dX3_requireSite_6 ?_
    refine va_get (D := (dC, dI)) (ci := 2) (v := .int (nI n)) (C := RX2) (T := TX2) (N := 3) hx hb hts (by decide +kernel) hown hK hP 1 rfl rfl 2 (by decide) (hts (.fieldLink RX3 44 "CircleCells$Sites" "size" "I") (by decide +kernel)) (fun _ h9 => h9) rfl dX3_requireSite_9 ?_
    refine lv_icmp_lt (tgt := 25) hx hb dX3_requireSite_12 (by decide) (fun c12 => ?_) (fun c12 => ?_)
    · rw [if_pos c12] at hf; cases hf
    · exact q_throw (own := RX3) (cls := "java/lang/IllegalArgumentException") (text := "no such site") (ws' := [(c0, .inr (3, [.ref s0, .ref m0, .int st])), (s0, .inr (2, [.ref xa, .ref ya, .int (nI n)]))]) hx hb hst9 hown (by decide +kernel) (by decide) (by decide) hts (by decide +kernel) (by decide +kernel) (by decide +kernel) (by decide +kernel) (by decide +kernel) hE hP hS (hl.1.trans hml.symm) dX3_requireSite_15 dX3_requireSite_18 dX3_requireSite_19 dX3_requireSite_21 dX3_requireSite_24 hout (Nat.le_of_ble_eq_true rfl) (Nat.le_of_ble_eq_true rfl) (Nat.le_of_ble_eq_true rfl) (Nat.le_of_ble_eq_true rfl) hlocks
set_option maxHeartbeats 4000000 in
set_option maxRecDepth 100000 in
theorem c_X3_requireCell (l : Launch) (dC : Nat → ClassId) (dI : Nat → Nat → Nat) (c0 m0 s0 g0 ra sa oa ma : Nat) (st rc : Int32) (q : Nat) (w : Int32) (hf : r_out w (nI q) = false) : Met l yX3_requireCell wsX3_requireCell ({ frames := 0, cells := 0, slots := 0, locals := 0 }) (q_Pm (dC, dI) [.ref c0, .int w] [(c0, .inr (3, [.ref s0, .ref m0, .int st])), (m0, .inr (1, [.ref s0, .ref g0, .ref ra, .ref sa, .ref oa, .int (nI q), .ref ma, .int rc]))] []) (q_Qm (dC, dI) (q_in [(c0, .inr (3, [.ref s0, .ref m0, .int st])), (m0, .inr (1, [.ref s0, .ref g0, .ref ra, .ref sa, .ref oa, .int (nI q), .ref ma, .int rc]))]) none [(c0, .inr (3, [.ref s0, .ref m0, .int st])), (m0, .inr (1, [.ref s0, .ref g0, .ref ra, .ref sa, .ref oa, .int (nI q), .ref ma, .int rc]))]) 0 0 (q_in [(c0, .inr (3, [.ref s0, .ref m0, .int st])), (m0, .inr (1, [.ref s0, .ref g0, .ref ra, .ref sa, .ref oa, .int (nI q), .ref ma, .int rc]))]) := by
  refine Met.ofW (cc := cX3_requireCell) (maxL := 2) (ret := none) (by decide) rfl ?_
  intro p e s m args below meth c s₁ B hml hv
  obtain ⟨rfl, hP, hK, hD0⟩ := hv
  have hx := B.exec
  have hb := B.bytes
  have hr := B.returns
  have hts := atoms_spec (ws := wsX3_requireCell) B.pre
  have hown : s.vm.findClass RX3 = some m.cls := findClass_of_methodNamed B.named
  have hlocks := B.notSynchronized
  have hD := q_inD hD0
  generalize hAe : q_in [(c0, .inr (3, [.ref s0, .ref m0, .int st])), (m0, .inr (1, [.ref s0, .ref g0, .ref ra, .ref sa, .ref oa, .int (nI q), .ref ma, .int rc]))] = A at hD ⊢
  have hS : va_S A s.heap s.heap [] := va_S.rf
  have hP : va_P (dC, dI) vwCl [(c0, .inr (3, [.ref s0, .ref m0, .int st])), (m0, .inr (1, [.ref s0, .ref g0, .ref ra, .ref sa, .ref oa, .int (nI q), .ref ma, .int rc]))] s.heap := hP
  have hl := lv_entry ([.ref c0, .int w]) (n := 2) (Nat.le_of_ble_eq_true rfl)
  rw [lg_entry_eq]
  generalize (lg_sl ([.ref c0, .int w]) ++ List.replicate (2 - (lg_sl ([.ref c0, .int w])).length) Slot.unset).toArray = ls at hl ⊢
  have hl : lv_has ls 2 [(0, .ref c0), (1, .int w)] := hl
  refine lv_iload_n hx hb dX3_requireCell_0 rfl (lv_at hl 1 rfl) ?_
  refine lv_if_lt (tgt := 15) hx hb dX3_requireCell_1 (by decide) (fun c1 => ?_) (fun c1 => ?_)
  · rw [r_out, if_pos c1] at hf; cases hf
  · rw [r_out, if_neg c1] at hf
    refine lv_iload_n hx hb dX3_requireCell_4 rfl (lv_at hl 1 rfl) ?_
    refine lv_aload_n hx hb dX3_requireCell_5 rfl (lv_at hl 0 rfl) ?_
    refine va_get (D := (dC, dI)) (ci := 3) (v := .ref m0) (C := RX3) (T := TX3) (N := 3) hx hb hts (by decide +kernel) hown hK hP 0 rfl rfl 1 (by decide) (hts (.fieldLink RX3 21 "CircleCells" "mosaic" "LCircleCells$Mosaic;") (by decide +kernel)) (fun _ h9 => h9) rfl dX3_requireCell_6 ?_
    refine va_get (D := (dC, dI)) (ci := 1) (v := .int (nI q)) (C := RX1) (T := TX1) (N := 8) hx hb hts (by decide +kernel) hown hK hP 1 rfl rfl 5 (by decide) (hts (.fieldLink RX3 84 "CircleCells$Mosaic" "cellCount" "I") (by decide +kernel)) (fun _ h9 => h9) rfl dX3_requireCell_9 ?_
    refine lv_icmp_lt (tgt := 25) hx hb dX3_requireCell_12 (by decide) (fun c12 => ?_) (fun c12 => ?_)
    · exact W.vret hx hb hr (q_retm hP hS) hS.2.2 dX3_requireCell_25
    · rw [if_neg c12] at hf; cases hf
set_option maxHeartbeats 4000000 in
set_option maxRecDepth 100000 in
theorem t1_X3_requireCell (l : Launch) (hst9 : l.stackTraces = false) (dC : Nat → ClassId) (dI : Nat → Nat → Nat) (c0 m0 s0 g0 ra sa oa ma : Nat) (st rc : Int32) (q : Nat) (w : Int32) (hf : r_out w (nI q) = true) : vx_Met l yX3_requireCell wsX3_requireCell ({ frames := 6, cells := 1, slots := 6, locals := 82 }) (q_Px (dC, dI) [.ref c0, .int w] [(c0, .inr (3, [.ref s0, .ref m0, .int st])), (m0, .inr (1, [.ref s0, .ref g0, .ref ra, .ref sa, .ref oa, .int (nI q), .ref ma, .int rc]))] []) q_no (q_XX (dC, dI) (q_in [(c0, .inr (3, [.ref s0, .ref m0, .int st])), (m0, .inr (1, [.ref s0, .ref g0, .ref ra, .ref sa, .ref oa, .int (nI q), .ref ma, .int rc]))]) q_NE [(c0, .inr (3, [.ref s0, .ref m0, .int st])), (m0, .inr (1, [.ref s0, .ref g0, .ref ra, .ref sa, .ref oa, .int (nI q), .ref ma, .int rc]))]) 1 6 (q_in [(c0, .inr (3, [.ref s0, .ref m0, .int st])), (m0, .inr (1, [.ref s0, .ref g0, .ref ra, .ref sa, .ref oa, .int (nI q), .ref ma, .int rc]))]) := by
  refine vx_ofW (cc := cX3_requireCell) (maxL := 2) (ret := none) (by decide) rfl ?_
  intro p e s m args below meth c s₁ B hml hout hv
  obtain ⟨rfl, hP, hK, hD0, hE⟩ := hv
  have hx := B.exec
  have hb := B.bytes
  have hr := B.returns
  have hts := atoms_spec (ws := wsX3_requireCell) B.pre
  have hown : s.vm.findClass RX3 = some m.cls := findClass_of_methodNamed B.named
  have hlocks := B.notSynchronized
  have hD := q_inD hD0
  generalize hAe : q_in [(c0, .inr (3, [.ref s0, .ref m0, .int st])), (m0, .inr (1, [.ref s0, .ref g0, .ref ra, .ref sa, .ref oa, .int (nI q), .ref ma, .int rc]))] = A at hD hE ⊢
  have hS : va_S A s.heap s.heap [] := va_S.rf
  have hP : va_P (dC, dI) vwCl [(c0, .inr (3, [.ref s0, .ref m0, .int st])), (m0, .inr (1, [.ref s0, .ref g0, .ref ra, .ref sa, .ref oa, .int (nI q), .ref ma, .int rc]))] s.heap := hP
  have hl := lv_entry ([.ref c0, .int w]) (n := 2) (Nat.le_of_ble_eq_true rfl)
  rw [lg_entry_eq]
  generalize (lg_sl ([.ref c0, .int w]) ++ List.replicate (2 - (lg_sl ([.ref c0, .int w])).length) Slot.unset).toArray = ls at hl ⊢
  have hl : lv_has ls 2 [(0, .ref c0), (1, .int w)] := hl
  refine lv_iload_n hx hb dX3_requireCell_0 rfl (lv_at hl 1 rfl) ?_
  refine lv_if_lt (tgt := 15) hx hb dX3_requireCell_1 (by decide) (fun c1 => ?_) (fun c1 => ?_)
  · exact q_throwN (text := "no such cell") (ws' := [(c0, .inr (3, [.ref s0, .ref m0, .int st])), (m0, .inr (1, [.ref s0, .ref g0, .ref ra, .ref sa, .ref oa, .int (nI q), .ref ma, .int rc]))]) hx hb hst9 hown (by decide) hts (by decide +kernel) (by decide +kernel) (by decide +kernel) (by decide +kernel) (by decide +kernel) hE hP hS (hl.1.trans hml.symm) dX3_requireCell_15 dX3_requireCell_18 dX3_requireCell_19 dX3_requireCell_21 dX3_requireCell_24 hout (Nat.le_of_ble_eq_true rfl) (Nat.le_of_ble_eq_true rfl) (Nat.le_of_ble_eq_true rfl) (Nat.le_of_ble_eq_true rfl) hlocks
  · rw [r_out, if_neg c1] at hf
    refine lv_iload_n hx hb dX3_requireCell_4 rfl (lv_at hl 1 rfl) ?_
    refine lv_aload_n hx hb dX3_requireCell_5 rfl (lv_at hl 0 rfl) ?_
    refine va_get (D := (dC, dI)) (ci := 3) (v := .ref m0) (C := RX3) (T := TX3) (N := 3) hx hb hts (by decide +kernel) hown hK hP 0 rfl rfl 1 (by decide) (hts (.fieldLink RX3 21 "CircleCells" "mosaic" "LCircleCells$Mosaic;") (by decide +kernel)) (fun _ h9 => h9) rfl dX3_requireCell_6 ?_
    refine va_get (D := (dC, dI)) (ci := 1) (v := .int (nI q)) (C := RX1) (T := TX1) (N := 8) hx hb hts (by decide +kernel) hown hK hP 1 rfl rfl 5 (by decide) (hts (.fieldLink RX3 84 "CircleCells$Mosaic" "cellCount" "I") (by decide +kernel)) (fun _ h9 => h9) rfl dX3_requireCell_9 ?_
    refine lv_icmp_lt (tgt := 25) hx hb dX3_requireCell_12 (by decide) (fun c12 => ?_) (fun c12 => ?_)
    · rw [if_pos c12] at hf; cases hf
    · exact q_throwN (text := "no such cell") (ws' := [(c0, .inr (3, [.ref s0, .ref m0, .int st])), (m0, .inr (1, [.ref s0, .ref g0, .ref ra, .ref sa, .ref oa, .int (nI q), .ref ma, .int rc]))]) hx hb hst9 hown (by decide) hts (by decide +kernel) (by decide +kernel) (by decide +kernel) (by decide +kernel) (by decide +kernel) hE hP hS (hl.1.trans hml.symm) dX3_requireCell_15 dX3_requireCell_18 dX3_requireCell_19 dX3_requireCell_21 dX3_requireCell_24 hout (Nat.le_of_ble_eq_true rfl) (Nat.le_of_ble_eq_true rfl) (Nat.le_of_ble_eq_true rfl) (Nat.le_of_ble_eq_true rfl) hlocks
set_option maxHeartbeats 4000000 in
set_option maxRecDepth 100000 in
theorem c_X3_requireIndex (l : Launch) (dC : Nat → ClassId) (dI : Nat → Nat → Nat) (w t : Int32) (hf : r_out w t = false) : Met l yX3_requireIndex wsX3_requireIndex ({ frames := 0, cells := 0, slots := 0, locals := 0 }) (q_Pm (dC, dI) [.int w, .int t] [] []) (q_Qm (dC, dI) (q_in []) none []) 0 0 (q_in []) := by
  refine Met.ofW (cc := cX3_requireIndex) (maxL := 2) (ret := none) (by decide) rfl ?_
  intro p e s m args below meth c s₁ B hml hv
  obtain ⟨rfl, hP, hK, hD0⟩ := hv
  have hx := B.exec
  have hb := B.bytes
  have hr := B.returns
  have hts := atoms_spec (ws := wsX3_requireIndex) B.pre
  have hown : s.vm.findClass RX3 = some m.cls := findClass_of_methodNamed B.named
  have hlocks := B.notSynchronized
  have hD := q_inD hD0
  generalize hAe : q_in [] = A at hD ⊢
  have hS : va_S A s.heap s.heap [] := va_S.rf
  have hP : va_P (dC, dI) vwCl [] s.heap := hP
  have hl := lv_entry ([.int w, .int t]) (n := 2) (Nat.le_of_ble_eq_true rfl)
  rw [lg_entry_eq]
  generalize (lg_sl ([.int w, .int t]) ++ List.replicate (2 - (lg_sl ([.int w, .int t])).length) Slot.unset).toArray = ls at hl ⊢
  have hl : lv_has ls 2 [(0, .int w), (1, .int t)] := hl
  refine lv_iload_n hx hb dX3_requireIndex_0 rfl (lv_at hl 0 rfl) ?_
  refine lv_if_lt (tgt := 9) hx hb dX3_requireIndex_1 (by decide) (fun c1 => ?_) (fun c1 => ?_)
  · rw [r_out, if_pos c1] at hf; cases hf
  · rw [r_out, if_neg c1] at hf
    refine lv_iload_n hx hb dX3_requireIndex_4 rfl (lv_at hl 0 rfl) ?_
    refine lv_iload_n hx hb dX3_requireIndex_5 rfl (lv_at hl 1 rfl) ?_
    refine lv_icmp_lt (tgt := 19) hx hb dX3_requireIndex_6 (by decide) (fun c6 => ?_) (fun c6 => ?_)
    · exact W.vret hx hb hr (q_retm hP hS) hS.2.2 dX3_requireIndex_19
    · rw [if_neg c6] at hf; cases hf
set_option maxHeartbeats 4000000 in
set_option maxRecDepth 100000 in
theorem t1_X3_requireIndex (l : Launch) (hst9 : l.stackTraces = false) (dC : Nat → ClassId) (dI : Nat → Nat → Nat) (w t : Int32) (hf : r_out w t = true) : vx_Met l yX3_requireIndex wsX3_requireIndex ({ frames := 6, cells := 1, slots := 6, locals := 82 }) (q_Px (dC, dI) [.int w, .int t] [] []) q_no (q_XX (dC, dI) (q_in []) q_IO []) 1 6 (q_in []) := by
  refine vx_ofW (cc := cX3_requireIndex) (maxL := 2) (ret := none) (by decide) rfl ?_
  intro p e s m args below meth c s₁ B hml hout hv
  obtain ⟨rfl, hP, hK, hD0, hE⟩ := hv
  have hx := B.exec
  have hb := B.bytes
  have hr := B.returns
  have hts := atoms_spec (ws := wsX3_requireIndex) B.pre
  have hown : s.vm.findClass RX3 = some m.cls := findClass_of_methodNamed B.named
  have hlocks := B.notSynchronized
  have hD := q_inD hD0
  generalize hAe : q_in [] = A at hD hE ⊢
  have hS : va_S A s.heap s.heap [] := va_S.rf
  have hP : va_P (dC, dI) vwCl [] s.heap := hP
  have hl := lv_entry ([.int w, .int t]) (n := 2) (Nat.le_of_ble_eq_true rfl)
  rw [lg_entry_eq]
  generalize (lg_sl ([.int w, .int t]) ++ List.replicate (2 - (lg_sl ([.int w, .int t])).length) Slot.unset).toArray = ls at hl ⊢
  have hl : lv_has ls 2 [(0, .int w), (1, .int t)] := hl
  refine lv_iload_n hx hb dX3_requireIndex_0 rfl (lv_at hl 0 rfl) ?_
  refine lv_if_lt (tgt := 9) hx hb dX3_requireIndex_1 (by decide) (fun c1 => ?_) (fun c1 => ?_)
  · exact q_throw (own := RX3) (cls := "java/lang/IndexOutOfBoundsException") (text := "no such i") (ws' := []) hx hb hst9 hown (by decide +kernel) (by decide) (by decide) hts (by decide +kernel) (by decide +kernel) (by decide +kernel) (by decide +kernel) (by decide +kernel) hE hP hS (hl.1.trans hml.symm) dX3_requireIndex_9 dX3_requireIndex_12 dX3_requireIndex_13 dX3_requireIndex_15 dX3_requireIndex_18 hout (Nat.le_of_ble_eq_true rfl) (Nat.le_of_ble_eq_true rfl) (Nat.le_of_ble_eq_true rfl) (Nat.le_of_ble_eq_true rfl) hlocks
  · rw [r_out, if_neg c1] at hf
    refine lv_iload_n hx hb dX3_requireIndex_4 rfl (lv_at hl 0 rfl) ?_
    refine lv_iload_n hx hb dX3_requireIndex_5 rfl (lv_at hl 1 rfl) ?_
    refine lv_icmp_lt (tgt := 19) hx hb dX3_requireIndex_6 (by decide) (fun c6 => ?_) (fun c6 => ?_)
    · rw [if_pos c6] at hf; cases hf
    · exact q_throw (own := RX3) (cls := "java/lang/IndexOutOfBoundsException") (text := "no such i") (ws' := []) hx hb hst9 hown (by decide +kernel) (by decide) (by decide) hts (by decide +kernel) (by decide +kernel) (by decide +kernel) (by decide +kernel) (by decide +kernel) hE hP hS (hl.1.trans hml.symm) dX3_requireIndex_9 dX3_requireIndex_12 dX3_requireIndex_13 dX3_requireIndex_15 dX3_requireIndex_18 hout (Nat.le_of_ble_eq_true rfl) (Nat.le_of_ble_eq_true rfl) (Nat.le_of_ble_eq_true rfl) (Nat.le_of_ble_eq_true rfl) hlocks
set_option maxHeartbeats 4000000 in
set_option maxRecDepth 100000 in
theorem c_X3_refresh (l : Launch) (dC : Nat → ClassId) (dI : Nat → Nat → Nat) (c0 m0 s0 g0 ra sa oa ma xa ya : Nat) (cI : ClassId) (x y : Nat → Int32) (st : Int32) (z : (Int32 × Int32 × Int64 × Int64 × Int64) × (Nat → Nat) × (Nat → Nat) × (Nat → Int32) × Nat) (rm : Nat → Int32) (rc n : Nat) (ln : n ≤ 20) (lr : ∀ j, z.2.1 j < 20) (ls0 : z.2.2.1 0 = 0) (R : ((Int32 × Int32 × Int64 × Int64 × Int64) × (Nat → Nat) × (Nat → Nat) × (Nat → Int32) × Nat) × (Nat → Int32) × Nat) (hR : j_refr x y n st z rm rc = R) : Met l yX3_refresh wsX3_refresh ({ frames := 5, cells := 0, slots := 0, locals := 117 }) (q_Pm (dC, dI) [.ref c0] [(c0, .inr (3, [.ref s0, .ref m0, .int st])), (m0, .inr (1, [.ref s0, .ref g0, .ref ra, .ref sa, .ref oa, .int (nI z.2.2.2.2), .ref ma, .int (nI rc)])), (g0, .inr (0, [.int z.1.1, .int z.1.2.1, .long z.1.2.2.1, .long z.1.2.2.2.1, .long z.1.2.2.2.2])), (s0, .inr (2, [.ref xa, .ref ya, .int (nI n)])), (xa, .inl (cI, 20, .inl x)), (ya, .inl (cI, 20, .inl y)), (ra, .inl (cI, 105, .inl (fun j9 => nI (z.2.1 j9)))), (sa, .inl (cI, 36, .inl (fun j9 => nI (z.2.2.1 j9)))), (oa, .inl (cI, 400, .inl z.2.2.2.1)), (ma, .inl (cI, 20, .inl rm))] [(cI, .int)]) (q_Qm (dC, dI) (q_in [(c0, .inr (3, [.ref s0, .ref m0, .int st])), (m0, .inr (1, [.ref s0, .ref g0, .ref ra, .ref sa, .ref oa, .int (nI z.2.2.2.2), .ref ma, .int (nI rc)])), (g0, .inr (0, [.int z.1.1, .int z.1.2.1, .long z.1.2.2.1, .long z.1.2.2.2.1, .long z.1.2.2.2.2])), (s0, .inr (2, [.ref xa, .ref ya, .int (nI n)])), (xa, .inl (cI, 20, .inl x)), (ya, .inl (cI, 20, .inl y)), (ra, .inl (cI, 105, .inl (fun j9 => nI (z.2.1 j9)))), (sa, .inl (cI, 36, .inl (fun j9 => nI (z.2.2.1 j9)))), (oa, .inl (cI, 400, .inl z.2.2.2.1)), (ma, .inl (cI, 20, .inl rm))]) none [(c0, .inr (3, [.ref s0, .ref m0, .int 0])), (m0, .inr (1, [.ref s0, .ref g0, .ref ra, .ref sa, .ref oa, .int (nI R.1.2.2.2.2), .ref ma, .int (nI R.2.2)])), (g0, .inr (0, [.int R.1.1.1, .int R.1.1.2.1, .long R.1.1.2.2.1, .long R.1.1.2.2.2.1, .long R.1.1.2.2.2.2])), (s0, .inr (2, [.ref xa, .ref ya, .int (nI n)])), (xa, .inl (cI, 20, .inl x)), (ya, .inl (cI, 20, .inl y)), (ra, .inl (cI, 105, .inl (fun j9 => nI (R.1.2.1 j9)))), (sa, .inl (cI, 36, .inl (fun j9 => nI (R.1.2.2.1 j9)))), (oa, .inl (cI, 400, .inl R.1.2.2.2.1)), (ma, .inl (cI, 20, .inl R.2.1))]) 0 0 (q_in [(c0, .inr (3, [.ref s0, .ref m0, .int st])), (m0, .inr (1, [.ref s0, .ref g0, .ref ra, .ref sa, .ref oa, .int (nI z.2.2.2.2), .ref ma, .int (nI rc)])), (g0, .inr (0, [.int z.1.1, .int z.1.2.1, .long z.1.2.2.1, .long z.1.2.2.2.1, .long z.1.2.2.2.2])), (s0, .inr (2, [.ref xa, .ref ya, .int (nI n)])), (xa, .inl (cI, 20, .inl x)), (ya, .inl (cI, 20, .inl y)), (ra, .inl (cI, 105, .inl (fun j9 => nI (z.2.1 j9)))), (sa, .inl (cI, 36, .inl (fun j9 => nI (z.2.2.1 j9)))), (oa, .inl (cI, 400, .inl z.2.2.2.1)), (ma, .inl (cI, 20, .inl rm))]) := by
  refine Met.ofW (cc := cX3_refresh) (maxL := 1) (ret := none) (by decide) rfl ?_
  intro p e s m args below meth c s₁ B hml hv
  obtain ⟨rfl, hP, hK, hD0⟩ := hv
  have hx := B.exec
  have hb := B.bytes
  have hr := B.returns
  have hts := atoms_spec (ws := wsX3_refresh) B.pre
  have hown : s.vm.findClass RX3 = some m.cls := findClass_of_methodNamed B.named
  have hlocks := B.notSynchronized
  have hD := q_inD hD0
  generalize hAe : q_in [(c0, .inr (3, [.ref s0, .ref m0, .int st])), (m0, .inr (1, [.ref s0, .ref g0, .ref ra, .ref sa, .ref oa, .int (nI z.2.2.2.2), .ref ma, .int (nI rc)])), (g0, .inr (0, [.int z.1.1, .int z.1.2.1, .long z.1.2.2.1, .long z.1.2.2.2.1, .long z.1.2.2.2.2])), (s0, .inr (2, [.ref xa, .ref ya, .int (nI n)])), (xa, .inl (cI, 20, .inl x)), (ya, .inl (cI, 20, .inl y)), (ra, .inl (cI, 105, .inl (fun j9 => nI (z.2.1 j9)))), (sa, .inl (cI, 36, .inl (fun j9 => nI (z.2.2.1 j9)))), (oa, .inl (cI, 400, .inl z.2.2.2.1)), (ma, .inl (cI, 20, .inl rm))] = A at hD ⊢
  have hS : va_S A s.heap s.heap [] := va_S.rf
  have hP : va_P (dC, dI) vwCl [(c0, .inr (3, [.ref s0, .ref m0, .int st])), (m0, .inr (1, [.ref s0, .ref g0, .ref ra, .ref sa, .ref oa, .int (nI z.2.2.2.2), .ref ma, .int (nI rc)])), (g0, .inr (0, [.int z.1.1, .int z.1.2.1, .long z.1.2.2.1, .long z.1.2.2.2.1, .long z.1.2.2.2.2])), (s0, .inr (2, [.ref xa, .ref ya, .int (nI n)])), (xa, .inl (cI, 20, .inl x)), (ya, .inl (cI, 20, .inl y)), (ra, .inl (cI, 105, .inl (fun j9 => nI (z.2.1 j9)))), (sa, .inl (cI, 36, .inl (fun j9 => nI (z.2.2.1 j9)))), (oa, .inl (cI, 400, .inl z.2.2.2.1)), (ma, .inl (cI, 20, .inl rm))] s.heap := hP
  have hl := lv_entry ([.ref c0]) (n := 1) (Nat.le_of_ble_eq_true rfl)
  rw [lg_entry_eq]
  generalize (lg_sl ([.ref c0]) ++ List.replicate (1 - (lg_sl ([.ref c0])).length) Slot.unset).toArray = ls at hl ⊢
  have hl : lv_has ls 1 [(0, .ref c0)] := hl
  refine lv_aload_n hx hb dX3_refresh_0 rfl (lv_at hl 0 rfl) ?_
  refine va_get (D := (dC, dI)) (ci := 3) (v := .int st) (C := RX3) (T := TX3) (N := 3) hx hb hts (by decide +kernel) hown hK hP 0 rfl rfl 2 (by decide) (hts (.fieldLink RX3 25 "CircleCells" "stale" "Z") (by decide +kernel)) (fun _ h9 => h9) rfl dX3_refresh_1 ?_
  refine lv_if_eq (tgt := 19) hx hb dX3_refresh_4 (by decide) (fun c4 => ?_) (fun c4 => ?_)
  · rw [j_refr, if_pos c4] at hR
    subst hR
    subst c4
    exact W.vret hx hb hr (q_retm hP hS) hS.2.2 dX3_refresh_19
  · rw [j_refr, if_neg c4] at hR
    refine lv_aload_n hx hb dX3_refresh_7 rfl (lv_at hl 0 rfl) ?_
    refine va_get (D := (dC, dI)) (ci := 3) (v := .ref m0) (C := RX3) (T := TX3) (N := 3) hx hb hts (by decide +kernel) hown hK hP 0 rfl rfl 1 (by decide) (hts (.fieldLink RX3 21 "CircleCells" "mosaic" "LCircleCells$Mosaic;") (by decide +kernel)) (fun _ h9 => h9) rfl dX3_refresh_8 ?_
    obtain ⟨r1, hr1⟩ : ∃ r : ((Int32 × Int32 × Int64 × Int64 × Int64) × (Nat → Nat) × (Nat → Nat) × (Nat → Int32) × Nat) × (Nat → Int32) × Nat, j_tail rm n (j_ba x y n ((z.1.1, z.1.2.1, z.1.2.2.1, z.1.2.2.2.1, z.1.2.2.2.2), z.2.1, z.2.2.1, j_fill (-1) 400 z.2.2.2.1 0, 0) 0) = r := ⟨_, rfl⟩
    refine q_mV (wc' := [(m0, .inr (1, [.ref s0, .ref g0, .ref ra, .ref sa, .ref oa, .int (nI r1.1.2.2.2.2), .ref ma, .int (nI r1.2.2)])), (g0, .inr (0, [.int r1.1.1.1, .int r1.1.1.2.1, .long r1.1.1.2.2.1, .long r1.1.1.2.2.2.1, .long r1.1.1.2.2.2.2])), (s0, .inr (2, [.ref xa, .ref ya, .int (nI n)])), (xa, .inl (cI, 20, .inl x)), (ya, .inl (cI, 20, .inl y)), (ra, .inl (cI, 105, .inl (fun j9 => nI (r1.1.2.1 j9)))), (sa, .inl (cI, 36, .inl (fun j9 => nI (r1.1.2.2.1 j9)))), (oa, .inl (cI, 400, .inl r1.1.2.2.2.1)), (ma, .inl (cI, 20, .inl r1.2.1))]) (wsN := [(c0, .inr (3, [.ref s0, .ref m0, .int st])), (m0, .inr (1, [.ref s0, .ref g0, .ref ra, .ref sa, .ref oa, .int (nI r1.1.2.2.2.2), .ref ma, .int (nI r1.2.2)])), (g0, .inr (0, [.int r1.1.1.1, .int r1.1.1.2.1, .long r1.1.1.2.2.1, .long r1.1.1.2.2.2.1, .long r1.1.1.2.2.2.2])), (s0, .inr (2, [.ref xa, .ref ya, .int (nI n)])), (xa, .inl (cI, 20, .inl x)), (ya, .inl (cI, 20, .inl y)), (ra, .inl (cI, 105, .inl (fun j9 => nI (r1.1.2.1 j9)))), (sa, .inl (cI, 36, .inl (fun j9 => nI (r1.1.2.2.1 j9)))), (oa, .inl (cI, 400, .inl r1.1.2.2.2.1)), (ma, .inl (cI, 20, .inl r1.2.1))]) (As := []) (rest := []) ⟨hx, hb, hml, hown, hts⟩ (c_X1_build l dC dI m0 s0 g0 ra sa oa ma cI xa ya (nI rc) x y z.1.1 z.1.2.1 z.1.2.2.1 z.1.2.2.2.1 z.1.2.2.2.2 z.2.1 z.2.2.1 z.2.2.2.1 rm (nI z.2.2.2.2) n (by omega) lr ls0 r1 hr1) (cwV 0 hts gX3_refresh_X1_build rfl rfl rfl (by decide +kernel) ⟨Nat.le_of_ble_eq_true rfl, Nat.le_of_ble_eq_true rfl⟩) hK hP hD hS [1, 2, 3, 4, 5, 6, 7, 8, 9] [0] 1 1 rfl rfl rfl rfl rfl rfl rfl rfl rfl hl.1 rfl (Nat.le_of_ble_eq_true rfl) ⟨Nat.zero_le _, Nat.zero_le _⟩ dX3_refresh_11 rfl (fun H locs hP hD hS => ?_)
    refine W.eq (g2 := F0 m 14 ls []) rfl ?_
    have hr1 : j_tail rm n (j_ba x y n (z.1, z.2.1, z.2.2.1, j_fill (-1) 400 z.2.2.2.1 0, 0) 0) = r1 := hr1
    rw [hr1] at hR
    subst hR
    refine lv_aload_n hx hb dX3_refresh_14 rfl (lv_at hl 0 rfl) ?_
    refine lv_iconst (v := 0) hx hb dX3_refresh_15 (by decide) ?_
    refine va_put (D := (dC, dI)) (ci := 3) (v := .int 0) (ty := .boolean) (C := RX3) (T := TX3) (N := 3) hx hb hts (by decide +kernel) tyX3 tyX3_ok nmX3 hown hK hP hD hS 0 rfl rfl 2 (by decide) (hts (.fieldLink RX3 25 "CircleCells" "stale" "Z") (by decide +kernel)) (fun _ h9 => h9) rfl (by decide +kernel) rfl rfl (Nat.le_of_ble_eq_true rfl) dX3_refresh_16 (fun H locs hP hD hS => ?_)
    have hP : va_P (dC, dI) vwCl [(c0, .inr (3, [.ref s0, .ref m0, .int 0])), (m0, .inr (1, [.ref s0, .ref g0, .ref ra, .ref sa, .ref oa, .int (nI r1.1.2.2.2.2), .ref ma, .int (nI r1.2.2)])), (g0, .inr (0, [.int r1.1.1.1, .int r1.1.1.2.1, .long r1.1.1.2.2.1, .long r1.1.1.2.2.2.1, .long r1.1.1.2.2.2.2])), (s0, .inr (2, [.ref xa, .ref ya, .int (nI n)])), (xa, .inl (cI, 20, .inl x)), (ya, .inl (cI, 20, .inl y)), (ra, .inl (cI, 105, .inl (fun j9 => nI (r1.1.2.1 j9)))), (sa, .inl (cI, 36, .inl (fun j9 => nI (r1.1.2.2.1 j9)))), (oa, .inl (cI, 400, .inl r1.1.2.2.2.1)), (ma, .inl (cI, 20, .inl r1.2.1))] H := hP
    have hD : va_D A [(c0, .inr (3, [.ref s0, .ref m0, .int 0])), (m0, .inr (1, [.ref s0, .ref g0, .ref ra, .ref sa, .ref oa, .int (nI r1.1.2.2.2.2), .ref ma, .int (nI r1.2.2)])), (g0, .inr (0, [.int r1.1.1.1, .int r1.1.1.2.1, .long r1.1.1.2.2.1, .long r1.1.1.2.2.2.1, .long r1.1.1.2.2.2.2])), (s0, .inr (2, [.ref xa, .ref ya, .int (nI n)])), (xa, .inl (cI, 20, .inl x)), (ya, .inl (cI, 20, .inl y)), (ra, .inl (cI, 105, .inl (fun j9 => nI (r1.1.2.1 j9)))), (sa, .inl (cI, 36, .inl (fun j9 => nI (r1.1.2.2.1 j9)))), (oa, .inl (cI, 400, .inl r1.1.2.2.2.1)), (ma, .inl (cI, 20, .inl r1.2.1))] := hD
    exact W.vret hx hb hr (q_retm hP hS) hS.2.2 dX3_refresh_19
set_option maxHeartbeats 4000000 in
set_option maxRecDepth 100000 in
theorem c_X3_site (l : Launch) (dC : Nat → ClassId) (dI : Nat → Nat → Nat) (c0 m0 s0 xa ya : Nat) (cI : ClassId) (x y : Nat → Int32) (st : Int32) (n : Nat) (px py : Int32) (ln : n < 20) (hf : r_far px py = false) (hj : j_num x y n px py 0 = -1) : Met l yX3_site wsX3_site ({ frames := 2, cells := 0, slots := 0, locals := 46 }) (q_Pm (dC, dI) [.ref c0, .int px, .int py] [(c0, .inr (3, [.ref s0, .ref m0, .int st])), (s0, .inr (2, [.ref xa, .ref ya, .int (nI n)])), (xa, .inl (cI, 20, .inl x)), (ya, .inl (cI, 20, .inl y))] [(cI, .int)]) (q_Qm (dC, dI) (q_in [(c0, .inr (3, [.ref s0, .ref m0, .int st])), (s0, .inr (2, [.ref xa, .ref ya, .int (nI n)])), (xa, .inl (cI, 20, .inl x)), (ya, .inl (cI, 20, .inl y))]) (some (.int (nI n))) [(c0, .inr (3, [.ref s0, .ref m0, .int 1])), (s0, .inr (2, [.ref xa, .ref ya, .int (nI (n + 1))])), (xa, .inl (cI, 20, .inl (upd x n px))), (ya, .inl (cI, 20, .inl (upd y n py)))]) 0 0 (q_in [(c0, .inr (3, [.ref s0, .ref m0, .int st])), (s0, .inr (2, [.ref xa, .ref ya, .int (nI n)])), (xa, .inl (cI, 20, .inl x)), (ya, .inl (cI, 20, .inl y))]) := by
  refine Met.ofW (cc := cX3_site) (maxL := 3) (ret := (some .int)) (by decide) rfl ?_
  intro p e s m args below meth c s₁ B hml hv
  obtain ⟨rfl, hP, hK, hD0⟩ := hv
  have hx := B.exec
  have hb := B.bytes
  have hr := B.returns
  have hts := atoms_spec (ws := wsX3_site) B.pre
  have hown : s.vm.findClass RX3 = some m.cls := findClass_of_methodNamed B.named
  have hlocks := B.notSynchronized
  have hD := q_inD hD0
  generalize hAe : q_in [(c0, .inr (3, [.ref s0, .ref m0, .int st])), (s0, .inr (2, [.ref xa, .ref ya, .int (nI n)])), (xa, .inl (cI, 20, .inl x)), (ya, .inl (cI, 20, .inl y))] = A at hD ⊢
  have hS : va_S A s.heap s.heap [] := va_S.rf
  have hP : va_P (dC, dI) vwCl [(c0, .inr (3, [.ref s0, .ref m0, .int st])), (s0, .inr (2, [.ref xa, .ref ya, .int (nI n)])), (xa, .inl (cI, 20, .inl x)), (ya, .inl (cI, 20, .inl y))] s.heap := hP
  have hl := lv_entry ([.ref c0, .int px, .int py]) (n := 3) (Nat.le_of_ble_eq_true rfl)
  rw [lg_entry_eq]
  generalize (lg_sl ([.ref c0, .int px, .int py]) ++ List.replicate (3 - (lg_sl ([.ref c0, .int px, .int py])).length) Slot.unset).toArray = ls at hl ⊢
  have hl : lv_has ls 3 [(0, .ref c0), (1, .int px), (2, .int py)] := hl
  refine lv_iload_n hx hb dX3_site_0 rfl (lv_at hl 1 rfl) ?_
  refine lv_iload_n hx hb dX3_site_1 rfl (lv_at hl 2 rfl) ?_
  refine q_mS (wc' := []) (wsN := [(c0, .inr (3, [.ref s0, .ref m0, .int st])), (s0, .inr (2, [.ref xa, .ref ya, .int (nI n)])), (xa, .inl (cI, 20, .inl x)), (ya, .inl (cI, 20, .inl y))]) (As := [.int px, .int py]) (rest := []) ⟨hx, hb, hml, hown, hts⟩ (c_X3_requirePlace l dC dI px py hf) (va_cwS 2 hts gX3_site_X3_requirePlace rfl rfl rfl (by decide +kernel) ⟨Nat.le_of_ble_eq_true rfl, Nat.le_of_ble_eq_true rfl⟩) hK hP hD hS [] [] rfl rfl rfl rfl rfl rfl hl.1 rfl (Nat.le_of_ble_eq_true rfl) ⟨Nat.zero_le _, Nat.zero_le _⟩ dX3_site_2 rfl (fun H locs hP hD hS => ?_)
  refine W.eq (g2 := F0 m 5 ls []) rfl ?_
  refine lv_aload_n hx hb dX3_site_5 rfl (lv_at hl 0 rfl) ?_
  refine va_get (D := (dC, dI)) (ci := 3) (v := .ref s0) (C := RX3) (T := TX3) (N := 3) hx hb hts (by decide +kernel) hown hK hP 0 rfl rfl 0 (by decide) (hts (.fieldLink RX3 12 "CircleCells" "sites" "LCircleCells$Sites;") (by decide +kernel)) (fun _ h9 => h9) rfl dX3_site_6 ?_
  refine lv_iload_n hx hb dX3_site_9 rfl (lv_at hl 1 rfl) ?_
  refine lv_iload_n hx hb dX3_site_10 rfl (lv_at hl 2 rfl) ?_
  refine q_cV (As := [.int px, .int py]) (rest := []) ⟨hx, hb, hml, hown, hts⟩ (c_X2_numberAt l dC dI s0 xa ya cI x y n px py (by omega)) (cwV 2 hts gX3_site_X2_numberAt rfl rfl rfl (by decide +kernel) ⟨Nat.le_of_ble_eq_true rfl, Nat.le_of_ble_eq_true rfl⟩) (q_pV hK hP [1, 2, 3] [0] 2 1 rfl rfl rfl rfl rfl rfl) rfl hl.1 rfl (Nat.le_of_ble_eq_true rfl) ⟨Nat.zero_le _, Nat.zero_le _⟩ dX3_site_11 ?_
  refine lv_iconst (v := (-1)) hx hb dX3_site_14 (by decide) ?_
  refine lv_icmp_eq (tgt := 28) hx hb dX3_site_15 (by decide) (fun c15 => ?_) (fun c15 => ?_)
  · refine lv_aload_n hx hb dX3_site_28 rfl (lv_at hl 0 rfl) ?_
    refine va_get (D := (dC, dI)) (ci := 3) (v := .ref s0) (C := RX3) (T := TX3) (N := 3) hx hb hts (by decide +kernel) hown hK hP 0 rfl rfl 0 (by decide) (hts (.fieldLink RX3 12 "CircleCells" "sites" "LCircleCells$Sites;") (by decide +kernel)) (fun _ h9 => h9) rfl dX3_site_29 ?_
    refine va_get (D := (dC, dI)) (ci := 2) (v := .int (nI n)) (C := RX2) (T := TX2) (N := 3) hx hb hts (by decide +kernel) hown hK hP 1 rfl rfl 2 (by decide) (hts (.fieldLink RX3 44 "CircleCells$Sites" "size" "I") (by decide +kernel)) (fun _ h9 => h9) rfl dX3_site_32 ?_
    refine lv_bipush (v := nI 20) hx hb dX3_site_35 (by decide) ?_
    refine q_icmp_lt (tgt := 50) (by omega) (by omega) hx hb dX3_site_37 (by decide) (fun c37 => ?_) (fun c37 => ?_)
    · refine lv_aload_n hx hb dX3_site_50 rfl (lv_at hl 0 rfl) ?_
      refine lv_iconst (v := 1) hx hb dX3_site_51 (by decide) ?_
      refine va_put (D := (dC, dI)) (ci := 3) (v := .int 1) (ty := .boolean) (C := RX3) (T := TX3) (N := 3) hx hb hts (by decide +kernel) tyX3 tyX3_ok nmX3 hown hK hP hD hS 0 rfl rfl 2 (by decide) (hts (.fieldLink RX3 25 "CircleCells" "stale" "Z") (by decide +kernel)) (fun _ h9 => h9) rfl (by decide +kernel) rfl rfl (Nat.le_of_ble_eq_true rfl) dX3_site_52 (fun H locs hP hD hS => ?_)
      have hP : va_P (dC, dI) vwCl [(c0, .inr (3, [.ref s0, .ref m0, .int 1])), (s0, .inr (2, [.ref xa, .ref ya, .int (nI n)])), (xa, .inl (cI, 20, .inl x)), (ya, .inl (cI, 20, .inl y))] H := hP
      have hD : va_D A [(c0, .inr (3, [.ref s0, .ref m0, .int 1])), (s0, .inr (2, [.ref xa, .ref ya, .int (nI n)])), (xa, .inl (cI, 20, .inl x)), (ya, .inl (cI, 20, .inl y))] := hD
      refine lv_aload_n hx hb dX3_site_55 rfl (lv_at hl 0 rfl) ?_
      refine va_get (D := (dC, dI)) (ci := 3) (v := .ref s0) (C := RX3) (T := TX3) (N := 3) hx hb hts (by decide +kernel) hown hK hP 0 rfl rfl 0 (by decide) (hts (.fieldLink RX3 12 "CircleCells" "sites" "LCircleCells$Sites;") (by decide +kernel)) (fun _ h9 => h9) rfl dX3_site_56 ?_
      refine lv_iload_n hx hb dX3_site_59 rfl (lv_at hl 1 rfl) ?_
      refine lv_iload_n hx hb dX3_site_60 rfl (lv_at hl 2 rfl) ?_
      refine q_mV (wc' := [(s0, .inr (2, [.ref xa, .ref ya, .int (nI (n + 1))])), (xa, .inl (cI, 20, .inl (upd x n px))), (ya, .inl (cI, 20, .inl (upd y n py)))]) (wsN := [(c0, .inr (3, [.ref s0, .ref m0, .int 1])), (s0, .inr (2, [.ref xa, .ref ya, .int (nI (n + 1))])), (xa, .inl (cI, 20, .inl (upd x n px))), (ya, .inl (cI, 20, .inl (upd y n py)))]) (As := [.int px, .int py]) (rest := []) ⟨hx, hb, hml, hown, hts⟩ (c_X2_append l dC dI s0 xa ya cI x y n px py (by omega)) (cwV 2 hts gX3_site_X2_append rfl rfl rfl (by decide +kernel) ⟨Nat.le_of_ble_eq_true rfl, Nat.le_of_ble_eq_true rfl⟩) hK hP hD hS [1, 2, 3] [0] 2 1 rfl rfl rfl rfl rfl rfl rfl rfl rfl hl.1 rfl (Nat.le_of_ble_eq_true rfl) ⟨Nat.zero_le _, Nat.zero_le _⟩ dX3_site_61 rfl (fun H locs hP hD hS => ?_)
      refine W.eq (g2 := F0 m 64 ls [.int (nI n)]) rfl ?_
      exact W.iret (v := nI n) hx hb hr (q_retm hP hS) hS.2.2 dX3_site_64
    · omega
  · exact absurd hj c15
set_option maxHeartbeats 4000000 in
set_option maxRecDepth 100000 in
theorem t1_X3_site (l : Launch) (hst9 : l.stackTraces = false) (dC : Nat → ClassId) (dI : Nat → Nat → Nat) (c0 m0 s0 xa ya : Nat) (cI : ClassId) (x y : Nat → Int32) (st : Int32) (n : Nat) (px py : Int32) (hf : r_far px py = true) : vx_Met l yX3_site wsX3_site ({ frames := 7, cells := 1, slots := 6, locals := 103 }) (q_Px (dC, dI) [.ref c0, .int px, .int py] [(c0, .inr (3, [.ref s0, .ref m0, .int st])), (s0, .inr (2, [.ref xa, .ref ya, .int (nI n)])), (xa, .inl (cI, 20, .inl x)), (ya, .inl (cI, 20, .inl y))] [(cI, .int)]) q_no (q_XX (dC, dI) (q_in [(c0, .inr (3, [.ref s0, .ref m0, .int st])), (s0, .inr (2, [.ref xa, .ref ya, .int (nI n)])), (xa, .inl (cI, 20, .inl x)), (ya, .inl (cI, 20, .inl y))]) q_IA [(c0, .inr (3, [.ref s0, .ref m0, .int st])), (s0, .inr (2, [.ref xa, .ref ya, .int (nI n)])), (xa, .inl (cI, 20, .inl x)), (ya, .inl (cI, 20, .inl y))]) 1 6 (q_in [(c0, .inr (3, [.ref s0, .ref m0, .int st])), (s0, .inr (2, [.ref xa, .ref ya, .int (nI n)])), (xa, .inl (cI, 20, .inl x)), (ya, .inl (cI, 20, .inl y))]) := by
  refine vx_ofW (cc := cX3_site) (maxL := 3) (ret := (some .int)) (by decide) rfl ?_
  intro p e s m args below meth c s₁ B hml hout hv
  obtain ⟨rfl, hP, hK, hD0, hE⟩ := hv
  have hx := B.exec
  have hb := B.bytes
  have hr := B.returns
  have hts := atoms_spec (ws := wsX3_site) B.pre
  have hown : s.vm.findClass RX3 = some m.cls := findClass_of_methodNamed B.named
  have hlocks := B.notSynchronized
  have hD := q_inD hD0
  generalize hAe : q_in [(c0, .inr (3, [.ref s0, .ref m0, .int st])), (s0, .inr (2, [.ref xa, .ref ya, .int (nI n)])), (xa, .inl (cI, 20, .inl x)), (ya, .inl (cI, 20, .inl y))] = A at hD hE ⊢
  have hS : va_S A s.heap s.heap [] := va_S.rf
  have hP : va_P (dC, dI) vwCl [(c0, .inr (3, [.ref s0, .ref m0, .int st])), (s0, .inr (2, [.ref xa, .ref ya, .int (nI n)])), (xa, .inl (cI, 20, .inl x)), (ya, .inl (cI, 20, .inl y))] s.heap := hP
  have hl := lv_entry ([.ref c0, .int px, .int py]) (n := 3) (Nat.le_of_ble_eq_true rfl)
  rw [lg_entry_eq]
  generalize (lg_sl ([.ref c0, .int px, .int py]) ++ List.replicate (3 - (lg_sl ([.ref c0, .int px, .int py])).length) Slot.unset).toArray = ls at hl ⊢
  have hl : lv_has ls 3 [(0, .ref c0), (1, .int px), (2, .int py)] := hl
  refine lv_iload_n hx hb dX3_site_0 rfl (lv_at hl 1 rfl) ?_
  refine lv_iload_n hx hb dX3_site_1 rfl (lv_at hl 2 rfl) ?_
  refine q_tS (en := q_IA) (wc' := []) (wsN := [(c0, .inr (3, [.ref s0, .ref m0, .int st])), (s0, .inr (2, [.ref xa, .ref ya, .int (nI n)])), (xa, .inl (cI, 20, .inl x)), (ya, .inl (cI, 20, .inl y))]) (As := [.int px, .int py]) (rest := []) ⟨hx, hb, hml, hown, hts⟩ (t1_X3_requirePlace l hst9 dC dI px py hf) (va_cwS 2 hts gX3_site_X3_requirePlace rfl rfl rfl (by decide +kernel) ⟨Nat.le_of_ble_eq_true rfl, Nat.le_of_ble_eq_true rfl⟩) hE hK hP hD hS [] [] rfl rfl rfl rfl rfl rfl hl.1 rfl (Nat.le_of_ble_eq_true rfl) ⟨Nat.le_of_ble_eq_true rfl, Nat.le_of_ble_eq_true rfl⟩ dX3_site_2 rfl (fun H locs q9 ce hP hD hS hq9 hcv hcl => ?_)
  exact q_tout hP hS hq9 hcv hcl hout hlocks
set_option maxHeartbeats 4000000 in
set_option maxRecDepth 100000 in
theorem t2_X3_site (l : Launch) (hst9 : l.stackTraces = false) (dC : Nat → ClassId) (dI : Nat → Nat → Nat) (c0 m0 s0 xa ya : Nat) (cI : ClassId) (x y : Nat → Int32) (st : Int32) (n : Nat) (px py : Int32) (ln : n ≤ 20) (hf : r_far px py = false) (hj : ¬ j_num x y n px py 0 = -1) : vx_Met l yX3_site wsX3_site ({ frames := 6, cells := 1, slots := 6, locals := 82 }) (q_Px (dC, dI) [.ref c0, .int px, .int py] [(c0, .inr (3, [.ref s0, .ref m0, .int st])), (s0, .inr (2, [.ref xa, .ref ya, .int (nI n)])), (xa, .inl (cI, 20, .inl x)), (ya, .inl (cI, 20, .inl y))] [(cI, .int)]) q_no (q_XX (dC, dI) (q_in [(c0, .inr (3, [.ref s0, .ref m0, .int st])), (s0, .inr (2, [.ref xa, .ref ya, .int (nI n)])), (xa, .inl (cI, 20, .inl x)), (ya, .inl (cI, 20, .inl y))]) q_IA [(c0, .inr (3, [.ref s0, .ref m0, .int st])), (s0, .inr (2, [.ref xa, .ref ya, .int (nI n)])), (xa, .inl (cI, 20, .inl x)), (ya, .inl (cI, 20, .inl y))]) 1 6 (q_in [(c0, .inr (3, [.ref s0, .ref m0, .int st])), (s0, .inr (2, [.ref xa, .ref ya, .int (nI n)])), (xa, .inl (cI, 20, .inl x)), (ya, .inl (cI, 20, .inl y))]) := by
  refine vx_ofW (cc := cX3_site) (maxL := 3) (ret := (some .int)) (by decide) rfl ?_
  intro p e s m args below meth c s₁ B hml hout hv
  obtain ⟨rfl, hP, hK, hD0, hE⟩ := hv
  have hx := B.exec
  have hb := B.bytes
  have hr := B.returns
  have hts := atoms_spec (ws := wsX3_site) B.pre
  have hown : s.vm.findClass RX3 = some m.cls := findClass_of_methodNamed B.named
  have hlocks := B.notSynchronized
  have hD := q_inD hD0
  generalize hAe : q_in [(c0, .inr (3, [.ref s0, .ref m0, .int st])), (s0, .inr (2, [.ref xa, .ref ya, .int (nI n)])), (xa, .inl (cI, 20, .inl x)), (ya, .inl (cI, 20, .inl y))] = A at hD hE ⊢
  have hS : va_S A s.heap s.heap [] := va_S.rf
  have hP : va_P (dC, dI) vwCl [(c0, .inr (3, [.ref s0, .ref m0, .int st])), (s0, .inr (2, [.ref xa, .ref ya, .int (nI n)])), (xa, .inl (cI, 20, .inl x)), (ya, .inl (cI, 20, .inl y))] s.heap := hP
  have hl := lv_entry ([.ref c0, .int px, .int py]) (n := 3) (Nat.le_of_ble_eq_true rfl)
  rw [lg_entry_eq]
  generalize (lg_sl ([.ref c0, .int px, .int py]) ++ List.replicate (3 - (lg_sl ([.ref c0, .int px, .int py])).length) Slot.unset).toArray = ls at hl ⊢
  have hl : lv_has ls 3 [(0, .ref c0), (1, .int px), (2, .int py)] := hl
  refine lv_iload_n hx hb dX3_site_0 rfl (lv_at hl 1 rfl) ?_
  refine lv_iload_n hx hb dX3_site_1 rfl (lv_at hl 2 rfl) ?_
  refine q_mS (wc' := []) (wsN := [(c0, .inr (3, [.ref s0, .ref m0, .int st])), (s0, .inr (2, [.ref xa, .ref ya, .int (nI n)])), (xa, .inl (cI, 20, .inl x)), (ya, .inl (cI, 20, .inl y))]) (As := [.int px, .int py]) (rest := []) ⟨hx, hb, hml, hown, hts⟩ (c_X3_requirePlace l dC dI px py hf) (va_cwS 2 hts gX3_site_X3_requirePlace rfl rfl rfl (by decide +kernel) ⟨Nat.le_of_ble_eq_true rfl, Nat.le_of_ble_eq_true rfl⟩) hK hP hD hS [] [] rfl rfl rfl rfl rfl rfl hl.1 rfl (Nat.le_of_ble_eq_true rfl) ⟨Nat.zero_le _, Nat.zero_le _⟩ dX3_site_2 rfl (fun H locs hP hD hS => ?_)
  refine W.eq (g2 := F0 m 5 ls []) rfl ?_
  refine lv_aload_n hx hb dX3_site_5 rfl (lv_at hl 0 rfl) ?_
  refine va_get (D := (dC, dI)) (ci := 3) (v := .ref s0) (C := RX3) (T := TX3) (N := 3) hx hb hts (by decide +kernel) hown hK hP 0 rfl rfl 0 (by decide) (hts (.fieldLink RX3 12 "CircleCells" "sites" "LCircleCells$Sites;") (by decide +kernel)) (fun _ h9 => h9) rfl dX3_site_6 ?_
  refine lv_iload_n hx hb dX3_site_9 rfl (lv_at hl 1 rfl) ?_
  refine lv_iload_n hx hb dX3_site_10 rfl (lv_at hl 2 rfl) ?_
  refine q_cV (As := [.int px, .int py]) (rest := []) ⟨hx, hb, hml, hown, hts⟩ (c_X2_numberAt l dC dI s0 xa ya cI x y n px py (by omega)) (cwV 2 hts gX3_site_X2_numberAt rfl rfl rfl (by decide +kernel) ⟨Nat.le_of_ble_eq_true rfl, Nat.le_of_ble_eq_true rfl⟩) (q_pV hK hP [1, 2, 3] [0] 2 1 rfl rfl rfl rfl rfl rfl) rfl hl.1 rfl (Nat.le_of_ble_eq_true rfl) ⟨Nat.zero_le _, Nat.zero_le _⟩ dX3_site_11 ?_
  refine lv_iconst (v := (-1)) hx hb dX3_site_14 (by decide) ?_
  refine lv_icmp_eq (tgt := 28) hx hb dX3_site_15 (by decide) (fun c15 => ?_) (fun c15 => ?_)
  · exact absurd c15 hj
  · exact q_throw (own := RX3) (cls := "java/lang/IllegalArgumentException") (text := "there is a site at the place") (ws' := [(c0, .inr (3, [.ref s0, .ref m0, .int st])), (s0, .inr (2, [.ref xa, .ref ya, .int (nI n)])), (xa, .inl (cI, 20, .inl x)), (ya, .inl (cI, 20, .inl y))]) hx hb hst9 hown (by decide +kernel) (by decide) (by decide) hts (by decide +kernel) (by decide +kernel) (by decide +kernel) (by decide +kernel) (by decide +kernel) hE hP hS (hl.1.trans hml.symm) dX3_site_18 dX3_site_21 dX3_site_22 dX3_site_24 dX3_site_27 hout (Nat.le_of_ble_eq_true rfl) (Nat.le_of_ble_eq_true rfl) (Nat.le_of_ble_eq_true rfl) (Nat.le_of_ble_eq_true rfl) hlocks
set_option maxHeartbeats 4000000 in
set_option maxRecDepth 100000 in
theorem t3_X3_site (l : Launch) (hst9 : l.stackTraces = false) (dC : Nat → ClassId) (dI : Nat → Nat → Nat) (c0 m0 s0 xa ya : Nat) (cI : ClassId) (x y : Nat → Int32) (st : Int32) (n : Nat) (px py : Int32) (ln : n = 20) (hf : r_far px py = false) (hj : j_num x y n px py 0 = -1) : vx_Met l yX3_site wsX3_site ({ frames := 6, cells := 1, slots := 6, locals := 82 }) (q_Px (dC, dI) [.ref c0, .int px, .int py] [(c0, .inr (3, [.ref s0, .ref m0, .int st])), (s0, .inr (2, [.ref xa, .ref ya, .int (nI n)])), (xa, .inl (cI, 20, .inl x)), (ya, .inl (cI, 20, .inl y))] [(cI, .int)]) q_no (q_XX (dC, dI) (q_in [(c0, .inr (3, [.ref s0, .ref m0, .int st])), (s0, .inr (2, [.ref xa, .ref ya, .int (nI n)])), (xa, .inl (cI, 20, .inl x)), (ya, .inl (cI, 20, .inl y))]) q_IS [(c0, .inr (3, [.ref s0, .ref m0, .int st])), (s0, .inr (2, [.ref xa, .ref ya, .int (nI n)])), (xa, .inl (cI, 20, .inl x)), (ya, .inl (cI, 20, .inl y))]) 1 6 (q_in [(c0, .inr (3, [.ref s0, .ref m0, .int st])), (s0, .inr (2, [.ref xa, .ref ya, .int (nI n)])), (xa, .inl (cI, 20, .inl x)), (ya, .inl (cI, 20, .inl y))]) := by
  refine vx_ofW (cc := cX3_site) (maxL := 3) (ret := (some .int)) (by decide) rfl ?_
  intro p e s m args below meth c s₁ B hml hout hv
  obtain ⟨rfl, hP, hK, hD0, hE⟩ := hv
  have hx := B.exec
  have hb := B.bytes
  have hr := B.returns
  have hts := atoms_spec (ws := wsX3_site) B.pre
  have hown : s.vm.findClass RX3 = some m.cls := findClass_of_methodNamed B.named
  have hlocks := B.notSynchronized
  have hD := q_inD hD0
  generalize hAe : q_in [(c0, .inr (3, [.ref s0, .ref m0, .int st])), (s0, .inr (2, [.ref xa, .ref ya, .int (nI n)])), (xa, .inl (cI, 20, .inl x)), (ya, .inl (cI, 20, .inl y))] = A at hD hE ⊢
  have hS : va_S A s.heap s.heap [] := va_S.rf
  have hP : va_P (dC, dI) vwCl [(c0, .inr (3, [.ref s0, .ref m0, .int st])), (s0, .inr (2, [.ref xa, .ref ya, .int (nI n)])), (xa, .inl (cI, 20, .inl x)), (ya, .inl (cI, 20, .inl y))] s.heap := hP
  have hl := lv_entry ([.ref c0, .int px, .int py]) (n := 3) (Nat.le_of_ble_eq_true rfl)
  rw [lg_entry_eq]
  generalize (lg_sl ([.ref c0, .int px, .int py]) ++ List.replicate (3 - (lg_sl ([.ref c0, .int px, .int py])).length) Slot.unset).toArray = ls at hl ⊢
  have hl : lv_has ls 3 [(0, .ref c0), (1, .int px), (2, .int py)] := hl
  refine lv_iload_n hx hb dX3_site_0 rfl (lv_at hl 1 rfl) ?_
  refine lv_iload_n hx hb dX3_site_1 rfl (lv_at hl 2 rfl) ?_
  refine q_mS (wc' := []) (wsN := [(c0, .inr (3, [.ref s0, .ref m0, .int st])), (s0, .inr (2, [.ref xa, .ref ya, .int (nI n)])), (xa, .inl (cI, 20, .inl x)), (ya, .inl (cI, 20, .inl y))]) (As := [.int px, .int py]) (rest := []) ⟨hx, hb, hml, hown, hts⟩ (c_X3_requirePlace l dC dI px py hf) (va_cwS 2 hts gX3_site_X3_requirePlace rfl rfl rfl (by decide +kernel) ⟨Nat.le_of_ble_eq_true rfl, Nat.le_of_ble_eq_true rfl⟩) hK hP hD hS [] [] rfl rfl rfl rfl rfl rfl hl.1 rfl (Nat.le_of_ble_eq_true rfl) ⟨Nat.zero_le _, Nat.zero_le _⟩ dX3_site_2 rfl (fun H locs hP hD hS => ?_)
  refine W.eq (g2 := F0 m 5 ls []) rfl ?_
  refine lv_aload_n hx hb dX3_site_5 rfl (lv_at hl 0 rfl) ?_
  refine va_get (D := (dC, dI)) (ci := 3) (v := .ref s0) (C := RX3) (T := TX3) (N := 3) hx hb hts (by decide +kernel) hown hK hP 0 rfl rfl 0 (by decide) (hts (.fieldLink RX3 12 "CircleCells" "sites" "LCircleCells$Sites;") (by decide +kernel)) (fun _ h9 => h9) rfl dX3_site_6 ?_
  refine lv_iload_n hx hb dX3_site_9 rfl (lv_at hl 1 rfl) ?_
  refine lv_iload_n hx hb dX3_site_10 rfl (lv_at hl 2 rfl) ?_
  refine q_cV (As := [.int px, .int py]) (rest := []) ⟨hx, hb, hml, hown, hts⟩ (c_X2_numberAt l dC dI s0 xa ya cI x y n px py (by omega)) (cwV 2 hts gX3_site_X2_numberAt rfl rfl rfl (by decide +kernel) ⟨Nat.le_of_ble_eq_true rfl, Nat.le_of_ble_eq_true rfl⟩) (q_pV hK hP [1, 2, 3] [0] 2 1 rfl rfl rfl rfl rfl rfl) rfl hl.1 rfl (Nat.le_of_ble_eq_true rfl) ⟨Nat.zero_le _, Nat.zero_le _⟩ dX3_site_11 ?_
  refine lv_iconst (v := (-1)) hx hb dX3_site_14 (by decide) ?_
  refine lv_icmp_eq (tgt := 28) hx hb dX3_site_15 (by decide) (fun c15 => ?_) (fun c15 => ?_)
  · refine lv_aload_n hx hb dX3_site_28 rfl (lv_at hl 0 rfl) ?_
    refine va_get (D := (dC, dI)) (ci := 3) (v := .ref s0) (C := RX3) (T := TX3) (N := 3) hx hb hts (by decide +kernel) hown hK hP 0 rfl rfl 0 (by decide) (hts (.fieldLink RX3 12 "CircleCells" "sites" "LCircleCells$Sites;") (by decide +kernel)) (fun _ h9 => h9) rfl dX3_site_29 ?_
    refine va_get (D := (dC, dI)) (ci := 2) (v := .int (nI n)) (C := RX2) (T := TX2) (N := 3) hx hb hts (by decide +kernel) hown hK hP 1 rfl rfl 2 (by decide) (hts (.fieldLink RX3 44 "CircleCells$Sites" "size" "I") (by decide +kernel)) (fun _ h9 => h9) rfl dX3_site_32 ?_
    refine lv_bipush (v := nI 20) hx hb dX3_site_35 (by decide) ?_
    refine q_icmp_lt (tgt := 50) (by omega) (by omega) hx hb dX3_site_37 (by decide) (fun c37 => ?_) (fun c37 => ?_)
    · omega
    · exact q_throw (own := RX3) (cls := "java/lang/IllegalStateException") (text := "there are 20 sites") (ws' := [(c0, .inr (3, [.ref s0, .ref m0, .int st])), (s0, .inr (2, [.ref xa, .ref ya, .int (nI n)])), (xa, .inl (cI, 20, .inl x)), (ya, .inl (cI, 20, .inl y))]) hx hb hst9 hown (by decide +kernel) (by decide) (by decide) hts (by decide +kernel) (by decide +kernel) (by decide +kernel) (by decide +kernel) (by decide +kernel) hE hP hS (hl.1.trans hml.symm) dX3_site_40 dX3_site_43 dX3_site_44 dX3_site_46 dX3_site_49 hout (Nat.le_of_ble_eq_true rfl) (Nat.le_of_ble_eq_true rfl) (Nat.le_of_ble_eq_true rfl) (Nat.le_of_ble_eq_true rfl) hlocks
  · exact absurd hj c15
set_option maxHeartbeats 4000000 in
set_option maxRecDepth 100000 in
theorem c_X3_remove (l : Launch) (dC : Nat → ClassId) (dI : Nat → Nat → Nat) (c0 m0 s0 xa ya : Nat) (cI : ClassId) (x y : Nat → Int32) (st : Int32) (n : Nat) (k : Nat) (lk : k < n) (ln : n ≤ 20) (R : (Nat → Int32) × (Nat → Int32)) (hR : j_drop n x y (k + 1) = R) : Met l yX3_remove wsX3_remove ({ frames := 2, cells := 0, slots := 0, locals := 45 }) (q_Pm (dC, dI) [.ref c0, .int (nI k)] [(c0, .inr (3, [.ref s0, .ref m0, .int st])), (s0, .inr (2, [.ref xa, .ref ya, .int (nI n)])), (xa, .inl (cI, 20, .inl x)), (ya, .inl (cI, 20, .inl y))] [(cI, .int)]) (q_Qm (dC, dI) (q_in [(c0, .inr (3, [.ref s0, .ref m0, .int st])), (s0, .inr (2, [.ref xa, .ref ya, .int (nI n)])), (xa, .inl (cI, 20, .inl x)), (ya, .inl (cI, 20, .inl y))]) none [(c0, .inr (3, [.ref s0, .ref m0, .int 1])), (s0, .inr (2, [.ref xa, .ref ya, .int (nI (n - 1))])), (xa, .inl (cI, 20, .inl R.1)), (ya, .inl (cI, 20, .inl R.2))]) 0 0 (q_in [(c0, .inr (3, [.ref s0, .ref m0, .int st])), (s0, .inr (2, [.ref xa, .ref ya, .int (nI n)])), (xa, .inl (cI, 20, .inl x)), (ya, .inl (cI, 20, .inl y))]) := by
  refine Met.ofW (cc := cX3_remove) (maxL := 2) (ret := none) (by decide) rfl ?_
  intro p e s m args below meth c s₁ B hml hv
  obtain ⟨rfl, hP, hK, hD0⟩ := hv
  have hx := B.exec
  have hb := B.bytes
  have hr := B.returns
  have hts := atoms_spec (ws := wsX3_remove) B.pre
  have hown : s.vm.findClass RX3 = some m.cls := findClass_of_methodNamed B.named
  have hlocks := B.notSynchronized
  have hD := q_inD hD0
  generalize hAe : q_in [(c0, .inr (3, [.ref s0, .ref m0, .int st])), (s0, .inr (2, [.ref xa, .ref ya, .int (nI n)])), (xa, .inl (cI, 20, .inl x)), (ya, .inl (cI, 20, .inl y))] = A at hD ⊢
  have hS : va_S A s.heap s.heap [] := va_S.rf
  have hP : va_P (dC, dI) vwCl [(c0, .inr (3, [.ref s0, .ref m0, .int st])), (s0, .inr (2, [.ref xa, .ref ya, .int (nI n)])), (xa, .inl (cI, 20, .inl x)), (ya, .inl (cI, 20, .inl y))] s.heap := hP
  have hl := lv_entry ([.ref c0, .int (nI k)]) (n := 2) (Nat.le_of_ble_eq_true rfl)
  rw [lg_entry_eq]
  generalize (lg_sl ([.ref c0, .int (nI k)]) ++ List.replicate (2 - (lg_sl ([.ref c0, .int (nI k)])).length) Slot.unset).toArray = ls at hl ⊢
  have hl : lv_has ls 2 [(0, .ref c0), (1, .int (nI k))] := hl
  refine lv_aload_n hx hb dX3_remove_0 rfl (lv_at hl 0 rfl) ?_
  refine lv_iload_n hx hb dX3_remove_1 rfl (lv_at hl 1 rfl) ?_
  refine q_mV (wc' := [(c0, .inr (3, [.ref s0, .ref m0, .int st])), (s0, .inr (2, [.ref xa, .ref ya, .int (nI n)]))]) (wsN := [(c0, .inr (3, [.ref s0, .ref m0, .int st])), (s0, .inr (2, [.ref xa, .ref ya, .int (nI n)])), (xa, .inl (cI, 20, .inl x)), (ya, .inl (cI, 20, .inl y))]) (As := [.int (nI k)]) (rest := []) ⟨hx, hb, hml, hown, hts⟩ (c_X3_requireSite l dC dI c0 m0 s0 xa ya st n (nI k) (r_out_k lk (by omega))) (cwV 1 hts gX3_remove_X3_requireSite rfl rfl rfl (by decide +kernel) ⟨Nat.le_of_ble_eq_true rfl, Nat.le_of_ble_eq_true rfl⟩) hK hP hD hS [0, 1] [] 3 0 rfl rfl rfl rfl rfl rfl rfl rfl rfl hl.1 rfl (Nat.le_of_ble_eq_true rfl) ⟨Nat.zero_le _, Nat.zero_le _⟩ dX3_remove_2 rfl (fun H locs hP hD hS => ?_)
  refine W.eq (g2 := F0 m 5 ls []) rfl ?_
  refine lv_aload_n hx hb dX3_remove_5 rfl (lv_at hl 0 rfl) ?_
  refine lv_iconst (v := 1) hx hb dX3_remove_6 (by decide) ?_
  refine va_put (D := (dC, dI)) (ci := 3) (v := .int 1) (ty := .boolean) (C := RX3) (T := TX3) (N := 3) hx hb hts (by decide +kernel) tyX3 tyX3_ok nmX3 hown hK hP hD hS 0 rfl rfl 2 (by decide) (hts (.fieldLink RX3 25 "CircleCells" "stale" "Z") (by decide +kernel)) (fun _ h9 => h9) rfl (by decide +kernel) rfl rfl (Nat.le_of_ble_eq_true rfl) dX3_remove_7 (fun H locs hP hD hS => ?_)
  have hP : va_P (dC, dI) vwCl [(c0, .inr (3, [.ref s0, .ref m0, .int 1])), (s0, .inr (2, [.ref xa, .ref ya, .int (nI n)])), (xa, .inl (cI, 20, .inl x)), (ya, .inl (cI, 20, .inl y))] H := hP
  have hD : va_D A [(c0, .inr (3, [.ref s0, .ref m0, .int 1])), (s0, .inr (2, [.ref xa, .ref ya, .int (nI n)])), (xa, .inl (cI, 20, .inl x)), (ya, .inl (cI, 20, .inl y))] := hD
  refine lv_aload_n hx hb dX3_remove_10 rfl (lv_at hl 0 rfl) ?_
  refine va_get (D := (dC, dI)) (ci := 3) (v := .ref s0) (C := RX3) (T := TX3) (N := 3) hx hb hts (by decide +kernel) hown hK hP 0 rfl rfl 0 (by decide) (hts (.fieldLink RX3 12 "CircleCells" "sites" "LCircleCells$Sites;") (by decide +kernel)) (fun _ h9 => h9) rfl dX3_remove_11 ?_
  refine lv_iload_n hx hb dX3_remove_14 rfl (lv_at hl 1 rfl) ?_
  obtain ⟨r1, hr1⟩ : ∃ r : (Nat → Int32) × (Nat → Int32), j_drop n x y (k + 1) = r := ⟨_, rfl⟩
  refine q_mV (wc' := [(s0, .inr (2, [.ref xa, .ref ya, .int (nI (n - 1))])), (xa, .inl (cI, 20, .inl r1.1)), (ya, .inl (cI, 20, .inl r1.2))]) (wsN := [(c0, .inr (3, [.ref s0, .ref m0, .int 1])), (s0, .inr (2, [.ref xa, .ref ya, .int (nI (n - 1))])), (xa, .inl (cI, 20, .inl r1.1)), (ya, .inl (cI, 20, .inl r1.2))]) (As := [.int (nI k)]) (rest := []) ⟨hx, hb, hml, hown, hts⟩ (c_X2_drop l dC dI s0 xa ya cI x y n k (by omega) (by omega) r1 hr1) (cwV 1 hts gX3_remove_X2_drop rfl rfl rfl (by decide +kernel) ⟨Nat.le_of_ble_eq_true rfl, Nat.le_of_ble_eq_true rfl⟩) hK hP hD hS [1, 2, 3] [0] 2 1 rfl rfl rfl rfl rfl rfl rfl rfl rfl hl.1 rfl (Nat.le_of_ble_eq_true rfl) ⟨Nat.zero_le _, Nat.zero_le _⟩ dX3_remove_15 rfl (fun H locs hP hD hS => ?_)
  refine W.eq (g2 := F0 m 18 ls []) rfl ?_
  rw [hr1] at hR
  subst hR
  exact W.vret hx hb hr (q_retm hP hS) hS.2.2 dX3_remove_18
set_option maxHeartbeats 4000000 in
set_option maxRecDepth 100000 in
theorem t1_X3_remove (l : Launch) (hst9 : l.stackTraces = false) (dC : Nat → ClassId) (dI : Nat → Nat → Nat) (c0 m0 s0 xa ya : Nat) (cI : ClassId) (x y : Nat → Int32) (st : Int32) (n : Nat) (w : Int32) (hf : r_out w (nI n) = true) : vx_Met l yX3_remove wsX3_remove ({ frames := 7, cells := 1, slots := 6, locals := 103 }) (q_Px (dC, dI) [.ref c0, .int w] [(c0, .inr (3, [.ref s0, .ref m0, .int st])), (s0, .inr (2, [.ref xa, .ref ya, .int (nI n)])), (xa, .inl (cI, 20, .inl x)), (ya, .inl (cI, 20, .inl y))] [(cI, .int)]) q_no (q_XX (dC, dI) (q_in [(c0, .inr (3, [.ref s0, .ref m0, .int st])), (s0, .inr (2, [.ref xa, .ref ya, .int (nI n)])), (xa, .inl (cI, 20, .inl x)), (ya, .inl (cI, 20, .inl y))]) q_IA [(c0, .inr (3, [.ref s0, .ref m0, .int st])), (s0, .inr (2, [.ref xa, .ref ya, .int (nI n)])), (xa, .inl (cI, 20, .inl x)), (ya, .inl (cI, 20, .inl y))]) 1 6 (q_in [(c0, .inr (3, [.ref s0, .ref m0, .int st])), (s0, .inr (2, [.ref xa, .ref ya, .int (nI n)])), (xa, .inl (cI, 20, .inl x)), (ya, .inl (cI, 20, .inl y))]) := by
  refine vx_ofW (cc := cX3_remove) (maxL := 2) (ret := none) (by decide) rfl ?_
  intro p e s m args below meth c s₁ B hml hout hv
  obtain ⟨rfl, hP, hK, hD0, hE⟩ := hv
  have hx := B.exec
  have hb := B.bytes
  have hr := B.returns
  have hts := atoms_spec (ws := wsX3_remove) B.pre
  have hown : s.vm.findClass RX3 = some m.cls := findClass_of_methodNamed B.named
  have hlocks := B.notSynchronized
  have hD := q_inD hD0
  generalize hAe : q_in [(c0, .inr (3, [.ref s0, .ref m0, .int st])), (s0, .inr (2, [.ref xa, .ref ya, .int (nI n)])), (xa, .inl (cI, 20, .inl x)), (ya, .inl (cI, 20, .inl y))] = A at hD hE ⊢
  have hS : va_S A s.heap s.heap [] := va_S.rf
  have hP : va_P (dC, dI) vwCl [(c0, .inr (3, [.ref s0, .ref m0, .int st])), (s0, .inr (2, [.ref xa, .ref ya, .int (nI n)])), (xa, .inl (cI, 20, .inl x)), (ya, .inl (cI, 20, .inl y))] s.heap := hP
  have hl := lv_entry ([.ref c0, .int w]) (n := 2) (Nat.le_of_ble_eq_true rfl)
  rw [lg_entry_eq]
  generalize (lg_sl ([.ref c0, .int w]) ++ List.replicate (2 - (lg_sl ([.ref c0, .int w])).length) Slot.unset).toArray = ls at hl ⊢
  have hl : lv_has ls 2 [(0, .ref c0), (1, .int w)] := hl
  refine lv_aload_n hx hb dX3_remove_0 rfl (lv_at hl 0 rfl) ?_
  refine lv_iload_n hx hb dX3_remove_1 rfl (lv_at hl 1 rfl) ?_
  refine q_tV (en := q_IA) (wc' := [(c0, .inr (3, [.ref s0, .ref m0, .int st])), (s0, .inr (2, [.ref xa, .ref ya, .int (nI n)]))]) (wsN := [(c0, .inr (3, [.ref s0, .ref m0, .int st])), (s0, .inr (2, [.ref xa, .ref ya, .int (nI n)])), (xa, .inl (cI, 20, .inl x)), (ya, .inl (cI, 20, .inl y))]) (As := [.int w]) (rest := []) ⟨hx, hb, hml, hown, hts⟩ (t1_X3_requireSite l hst9 dC dI c0 m0 s0 xa ya st n w hf) (cwV 1 hts gX3_remove_X3_requireSite rfl rfl rfl (by decide +kernel) ⟨Nat.le_of_ble_eq_true rfl, Nat.le_of_ble_eq_true rfl⟩) hE hK hP hD hS [0, 1] [] 3 0 rfl rfl rfl rfl rfl rfl rfl rfl rfl hl.1 rfl (Nat.le_of_ble_eq_true rfl) ⟨Nat.le_of_ble_eq_true rfl, Nat.le_of_ble_eq_true rfl⟩ dX3_remove_2 rfl (fun H locs q9 ce hP hD hS hq9 hcv hcl => ?_)
  exact q_tout hP hS hq9 hcv hcl hout hlocks
set_option maxHeartbeats 4000000 in
set_option maxRecDepth 100000 in
theorem c_X3_move (l : Launch) (dC : Nat → ClassId) (dI : Nat → Nat → Nat) (c0 m0 s0 xa ya : Nat) (cI : ClassId) (x y : Nat → Int32) (st : Int32) (n : Nat) (k : Nat) (px py : Int32) (lk : k < n) (ln : n ≤ 20) (hf : r_far px py = false) (hj : j_num x y n px py 0 = -1 ∨ j_num x y n px py 0 = nI k) : Met l yX3_move wsX3_move ({ frames := 1, cells := 0, slots := 0, locals := 23 }) (q_Pm (dC, dI) [.ref c0, .int (nI k), .int px, .int py] [(c0, .inr (3, [.ref s0, .ref m0, .int st])), (s0, .inr (2, [.ref xa, .ref ya, .int (nI n)])), (xa, .inl (cI, 20, .inl x)), (ya, .inl (cI, 20, .inl y))] [(cI, .int)]) (q_Qm (dC, dI) (q_in [(c0, .inr (3, [.ref s0, .ref m0, .int st])), (s0, .inr (2, [.ref xa, .ref ya, .int (nI n)])), (xa, .inl (cI, 20, .inl x)), (ya, .inl (cI, 20, .inl y))]) none [(c0, .inr (3, [.ref s0, .ref m0, .int 1])), (s0, .inr (2, [.ref xa, .ref ya, .int (nI n)])), (xa, .inl (cI, 20, .inl (upd x k px))), (ya, .inl (cI, 20, .inl (upd y k py)))]) 0 0 (q_in [(c0, .inr (3, [.ref s0, .ref m0, .int st])), (s0, .inr (2, [.ref xa, .ref ya, .int (nI n)])), (xa, .inl (cI, 20, .inl x)), (ya, .inl (cI, 20, .inl y))]) := by
  refine Met.ofW (cc := cX3_move) (maxL := 5) (ret := none) (by decide) rfl ?_
  intro p e s m args below meth c s₁ B hml hv
  obtain ⟨rfl, hP, hK, hD0⟩ := hv
  have hx := B.exec
  have hb := B.bytes
  have hr := B.returns
  have hts := atoms_spec (ws := wsX3_move) B.pre
  have hown : s.vm.findClass RX3 = some m.cls := findClass_of_methodNamed B.named
  have hlocks := B.notSynchronized
  have hD := q_inD hD0
  generalize hAe : q_in [(c0, .inr (3, [.ref s0, .ref m0, .int st])), (s0, .inr (2, [.ref xa, .ref ya, .int (nI n)])), (xa, .inl (cI, 20, .inl x)), (ya, .inl (cI, 20, .inl y))] = A at hD ⊢
  have hS : va_S A s.heap s.heap [] := va_S.rf
  have hP : va_P (dC, dI) vwCl [(c0, .inr (3, [.ref s0, .ref m0, .int st])), (s0, .inr (2, [.ref xa, .ref ya, .int (nI n)])), (xa, .inl (cI, 20, .inl x)), (ya, .inl (cI, 20, .inl y))] s.heap := hP
  have hl := lv_entry ([.ref c0, .int (nI k), .int px, .int py]) (n := 5) (Nat.le_of_ble_eq_true rfl)
  rw [lg_entry_eq]
  generalize (lg_sl ([.ref c0, .int (nI k), .int px, .int py]) ++ List.replicate (5 - (lg_sl ([.ref c0, .int (nI k), .int px, .int py])).length) Slot.unset).toArray = ls at hl ⊢
  have hl : lv_has ls 5 [(0, .ref c0), (1, .int (nI k)), (2, .int px), (3, .int py)] := hl
  refine lv_aload_n hx hb dX3_move_0 rfl (lv_at hl 0 rfl) ?_
  refine lv_iload_n hx hb dX3_move_1 rfl (lv_at hl 1 rfl) ?_
  refine q_mV (wc' := [(c0, .inr (3, [.ref s0, .ref m0, .int st])), (s0, .inr (2, [.ref xa, .ref ya, .int (nI n)]))]) (wsN := [(c0, .inr (3, [.ref s0, .ref m0, .int st])), (s0, .inr (2, [.ref xa, .ref ya, .int (nI n)])), (xa, .inl (cI, 20, .inl x)), (ya, .inl (cI, 20, .inl y))]) (As := [.int (nI k)]) (rest := []) ⟨hx, hb, hml, hown, hts⟩ (c_X3_requireSite l dC dI c0 m0 s0 xa ya st n (nI k) (r_out_k lk (by omega))) (cwV 1 hts gX3_move_X3_requireSite rfl rfl rfl (by decide +kernel) ⟨Nat.le_of_ble_eq_true rfl, Nat.le_of_ble_eq_true rfl⟩) hK hP hD hS [0, 1] [] 3 0 rfl rfl rfl rfl rfl rfl rfl rfl rfl hl.1 rfl (Nat.le_of_ble_eq_true rfl) ⟨Nat.zero_le _, Nat.zero_le _⟩ dX3_move_2 rfl (fun H locs hP hD hS => ?_)
  refine W.eq (g2 := F0 m 5 ls []) rfl ?_
  refine lv_iload_n hx hb dX3_move_5 rfl (lv_at hl 2 rfl) ?_
  refine lv_iload_n hx hb dX3_move_6 rfl (lv_at hl 3 rfl) ?_
  refine q_mS (wc' := []) (wsN := [(c0, .inr (3, [.ref s0, .ref m0, .int st])), (s0, .inr (2, [.ref xa, .ref ya, .int (nI n)])), (xa, .inl (cI, 20, .inl x)), (ya, .inl (cI, 20, .inl y))]) (As := [.int px, .int py]) (rest := []) ⟨hx, hb, hml, hown, hts⟩ (c_X3_requirePlace l dC dI px py hf) (va_cwS 2 hts gX3_move_X3_requirePlace rfl rfl rfl (by decide +kernel) ⟨Nat.le_of_ble_eq_true rfl, Nat.le_of_ble_eq_true rfl⟩) hK hP hD hS [] [] rfl rfl rfl rfl rfl rfl hl.1 rfl (Nat.le_of_ble_eq_true rfl) ⟨Nat.zero_le _, Nat.zero_le _⟩ dX3_move_7 rfl (fun H locs hP hD hS => ?_)
  refine W.eq (g2 := F0 m 10 ls []) rfl ?_
  refine lv_aload_n hx hb dX3_move_10 rfl (lv_at hl 0 rfl) ?_
  refine va_get (D := (dC, dI)) (ci := 3) (v := .ref s0) (C := RX3) (T := TX3) (N := 3) hx hb hts (by decide +kernel) hown hK hP 0 rfl rfl 0 (by decide) (hts (.fieldLink RX3 12 "CircleCells" "sites" "LCircleCells$Sites;") (by decide +kernel)) (fun _ h9 => h9) rfl dX3_move_11 ?_
  refine lv_iload_n hx hb dX3_move_14 rfl (lv_at hl 2 rfl) ?_
  refine lv_iload_n hx hb dX3_move_15 rfl (lv_at hl 3 rfl) ?_
  refine q_cV (As := [.int px, .int py]) (rest := []) ⟨hx, hb, hml, hown, hts⟩ (c_X2_numberAt l dC dI s0 xa ya cI x y n px py (by omega)) (cwV 2 hts gX3_move_X2_numberAt rfl rfl rfl (by decide +kernel) ⟨Nat.le_of_ble_eq_true rfl, Nat.le_of_ble_eq_true rfl⟩) (q_pV hK hP [1, 2, 3] [0] 2 1 rfl rfl rfl rfl rfl rfl) rfl hl.1 rfl (Nat.le_of_ble_eq_true rfl) ⟨Nat.zero_le _, Nat.zero_le _⟩ dX3_move_16 ?_
  refine lv_istore (lv' := [(4, .int (j_num x y n px py 0)), (0, .ref c0), (1, .int (nI k)), (2, .int px), (3, .int py)]) hx hb dX3_move_19 hl (by decide) rfl (fun ls hl => ?_)
  refine lv_iload hx hb dX3_move_21 (lv_at hl 0 rfl) ?_
  refine lv_iconst (v := (-1)) hx hb dX3_move_23 (by decide) ?_
  refine lv_icmp_eq (tgt := 43) hx hb dX3_move_24 (by decide) (fun c24 => ?_) (fun c24 => ?_)
  · refine lv_aload_n hx hb dX3_move_43 rfl (lv_at hl 1 rfl) ?_
    refine lv_iconst (v := 1) hx hb dX3_move_44 (by decide) ?_
    refine va_put (D := (dC, dI)) (ci := 3) (v := .int 1) (ty := .boolean) (C := RX3) (T := TX3) (N := 3) hx hb hts (by decide +kernel) tyX3 tyX3_ok nmX3 hown hK hP hD hS 0 rfl rfl 2 (by decide) (hts (.fieldLink RX3 25 "CircleCells" "stale" "Z") (by decide +kernel)) (fun _ h9 => h9) rfl (by decide +kernel) rfl rfl (Nat.le_of_ble_eq_true rfl) dX3_move_45 (fun H locs hP hD hS => ?_)
    have hP : va_P (dC, dI) vwCl [(c0, .inr (3, [.ref s0, .ref m0, .int 1])), (s0, .inr (2, [.ref xa, .ref ya, .int (nI n)])), (xa, .inl (cI, 20, .inl x)), (ya, .inl (cI, 20, .inl y))] H := hP
    have hD : va_D A [(c0, .inr (3, [.ref s0, .ref m0, .int 1])), (s0, .inr (2, [.ref xa, .ref ya, .int (nI n)])), (xa, .inl (cI, 20, .inl x)), (ya, .inl (cI, 20, .inl y))] := hD
    refine lv_aload_n hx hb dX3_move_48 rfl (lv_at hl 1 rfl) ?_
    refine va_get (D := (dC, dI)) (ci := 3) (v := .ref s0) (C := RX3) (T := TX3) (N := 3) hx hb hts (by decide +kernel) hown hK hP 0 rfl rfl 0 (by decide) (hts (.fieldLink RX3 12 "CircleCells" "sites" "LCircleCells$Sites;") (by decide +kernel)) (fun _ h9 => h9) rfl dX3_move_49 ?_
    refine lv_iload_n hx hb dX3_move_52 rfl (lv_at hl 2 rfl) ?_
    refine lv_iload_n hx hb dX3_move_53 rfl (lv_at hl 3 rfl) ?_
    refine lv_iload_n hx hb dX3_move_54 rfl (lv_at hl 4 rfl) ?_
    refine q_mV (wc' := [(s0, .inr (2, [.ref xa, .ref ya, .int (nI n)])), (xa, .inl (cI, 20, .inl (upd x k px))), (ya, .inl (cI, 20, .inl (upd y k py)))]) (wsN := [(c0, .inr (3, [.ref s0, .ref m0, .int 1])), (s0, .inr (2, [.ref xa, .ref ya, .int (nI n)])), (xa, .inl (cI, 20, .inl (upd x k px))), (ya, .inl (cI, 20, .inl (upd y k py)))]) (As := [.int (nI k), .int px, .int py]) (rest := []) ⟨hx, hb, hml, hown, hts⟩ (c_X2_put l dC dI s0 xa ya cI x y (nI n) k px py (by omega)) (cwV 3 hts gX3_move_X2_put rfl rfl rfl (by decide +kernel) ⟨Nat.le_of_ble_eq_true rfl, Nat.le_of_ble_eq_true rfl⟩) hK hP hD hS [1, 2, 3] [0] 2 1 rfl rfl rfl rfl rfl rfl rfl rfl rfl hl.1 rfl (Nat.le_of_ble_eq_true rfl) ⟨Nat.zero_le _, Nat.zero_le _⟩ dX3_move_55 rfl (fun H locs hP hD hS => ?_)
    refine W.eq (g2 := F0 m 58 ls []) rfl ?_
    exact W.vret hx hb hr (q_retm hP hS) hS.2.2 dX3_move_58
  · refine lv_iload hx hb dX3_move_27 (lv_at hl 0 rfl) ?_
    refine lv_iload_n hx hb dX3_move_29 rfl (lv_at hl 2 rfl) ?_
    refine lv_icmp_eq (tgt := 43) hx hb dX3_move_30 (by decide) (fun c30 => ?_) (fun c30 => ?_)
    · refine lv_aload_n hx hb dX3_move_43 rfl (lv_at hl 1 rfl) ?_
      refine lv_iconst (v := 1) hx hb dX3_move_44 (by decide) ?_
      refine va_put (D := (dC, dI)) (ci := 3) (v := .int 1) (ty := .boolean) (C := RX3) (T := TX3) (N := 3) hx hb hts (by decide +kernel) tyX3 tyX3_ok nmX3 hown hK hP hD hS 0 rfl rfl 2 (by decide) (hts (.fieldLink RX3 25 "CircleCells" "stale" "Z") (by decide +kernel)) (fun _ h9 => h9) rfl (by decide +kernel) rfl rfl (Nat.le_of_ble_eq_true rfl) dX3_move_45 (fun H locs hP hD hS => ?_)
      have hP : va_P (dC, dI) vwCl [(c0, .inr (3, [.ref s0, .ref m0, .int 1])), (s0, .inr (2, [.ref xa, .ref ya, .int (nI n)])), (xa, .inl (cI, 20, .inl x)), (ya, .inl (cI, 20, .inl y))] H := hP
      have hD : va_D A [(c0, .inr (3, [.ref s0, .ref m0, .int 1])), (s0, .inr (2, [.ref xa, .ref ya, .int (nI n)])), (xa, .inl (cI, 20, .inl x)), (ya, .inl (cI, 20, .inl y))] := hD
      refine lv_aload_n hx hb dX3_move_48 rfl (lv_at hl 1 rfl) ?_
      refine va_get (D := (dC, dI)) (ci := 3) (v := .ref s0) (C := RX3) (T := TX3) (N := 3) hx hb hts (by decide +kernel) hown hK hP 0 rfl rfl 0 (by decide) (hts (.fieldLink RX3 12 "CircleCells" "sites" "LCircleCells$Sites;") (by decide +kernel)) (fun _ h9 => h9) rfl dX3_move_49 ?_
      refine lv_iload_n hx hb dX3_move_52 rfl (lv_at hl 2 rfl) ?_
      refine lv_iload_n hx hb dX3_move_53 rfl (lv_at hl 3 rfl) ?_
      refine lv_iload_n hx hb dX3_move_54 rfl (lv_at hl 4 rfl) ?_
      refine q_mV (wc' := [(s0, .inr (2, [.ref xa, .ref ya, .int (nI n)])), (xa, .inl (cI, 20, .inl (upd x k px))), (ya, .inl (cI, 20, .inl (upd y k py)))]) (wsN := [(c0, .inr (3, [.ref s0, .ref m0, .int 1])), (s0, .inr (2, [.ref xa, .ref ya, .int (nI n)])), (xa, .inl (cI, 20, .inl (upd x k px))), (ya, .inl (cI, 20, .inl (upd y k py)))]) (As := [.int (nI k), .int px, .int py]) (rest := []) ⟨hx, hb, hml, hown, hts⟩ (c_X2_put l dC dI s0 xa ya cI x y (nI n) k px py (by omega)) (cwV 3 hts gX3_move_X2_put rfl rfl rfl (by decide +kernel) ⟨Nat.le_of_ble_eq_true rfl, Nat.le_of_ble_eq_true rfl⟩) hK hP hD hS [1, 2, 3] [0] 2 1 rfl rfl rfl rfl rfl rfl rfl rfl rfl hl.1 rfl (Nat.le_of_ble_eq_true rfl) ⟨Nat.zero_le _, Nat.zero_le _⟩ dX3_move_55 rfl (fun H locs hP hD hS => ?_)
      refine W.eq (g2 := F0 m 58 ls []) rfl ?_
      exact W.vret hx hb hr (q_retm hP hS) hS.2.2 dX3_move_58
    · exact absurd (hj.resolve_left c24) c30
set_option maxHeartbeats 4000000 in
set_option maxRecDepth 100000 in
theorem t1_X3_move (l : Launch) (hst9 : l.stackTraces = false) (dC : Nat → ClassId) (dI : Nat → Nat → Nat) (c0 m0 s0 xa ya : Nat) (cI : ClassId) (x y : Nat → Int32) (st : Int32) (n : Nat) (w px py : Int32) (hf : r_out w (nI n) = true) : vx_Met l yX3_move wsX3_move ({ frames := 7, cells := 1, slots := 6, locals := 103 }) (q_Px (dC, dI) [.ref c0, .int w, .int px, .int py] [(c0, .inr (3, [.ref s0, .ref m0, .int st])), (s0, .inr (2, [.ref xa, .ref ya, .int (nI n)])), (xa, .inl (cI, 20, .inl x)), (ya, .inl (cI, 20, .inl y))] [(cI, .int)]) q_no (q_XX (dC, dI) (q_in [(c0, .inr (3, [.ref s0, .ref m0, .int st])), (s0, .inr (2, [.ref xa, .ref ya, .int (nI n)])), (xa, .inl (cI, 20, .inl x)), (ya, .inl (cI, 20, .inl y))]) q_IA [(c0, .inr (3, [.ref s0, .ref m0, .int st])), (s0, .inr (2, [.ref xa, .ref ya, .int (nI n)])), (xa, .inl (cI, 20, .inl x)), (ya, .inl (cI, 20, .inl y))]) 1 6 (q_in [(c0, .inr (3, [.ref s0, .ref m0, .int st])), (s0, .inr (2, [.ref xa, .ref ya, .int (nI n)])), (xa, .inl (cI, 20, .inl x)), (ya, .inl (cI, 20, .inl y))]) := by
  refine vx_ofW (cc := cX3_move) (maxL := 5) (ret := none) (by decide) rfl ?_
  intro p e s m args below meth c s₁ B hml hout hv
  obtain ⟨rfl, hP, hK, hD0, hE⟩ := hv
  have hx := B.exec
  have hb := B.bytes
  have hr := B.returns
  have hts := atoms_spec (ws := wsX3_move) B.pre
  have hown : s.vm.findClass RX3 = some m.cls := findClass_of_methodNamed B.named
  have hlocks := B.notSynchronized
  have hD := q_inD hD0
  generalize hAe : q_in [(c0, .inr (3, [.ref s0, .ref m0, .int st])), (s0, .inr (2, [.ref xa, .ref ya, .int (nI n)])), (xa, .inl (cI, 20, .inl x)), (ya, .inl (cI, 20, .inl y))] = A at hD hE ⊢
  have hS : va_S A s.heap s.heap [] := va_S.rf
  have hP : va_P (dC, dI) vwCl [(c0, .inr (3, [.ref s0, .ref m0, .int st])), (s0, .inr (2, [.ref xa, .ref ya, .int (nI n)])), (xa, .inl (cI, 20, .inl x)), (ya, .inl (cI, 20, .inl y))] s.heap := hP
  have hl := lv_entry ([.ref c0, .int w, .int px, .int py]) (n := 5) (Nat.le_of_ble_eq_true rfl)
  rw [lg_entry_eq]
  generalize (lg_sl ([.ref c0, .int w, .int px, .int py]) ++ List.replicate (5 - (lg_sl ([.ref c0, .int w, .int px, .int py])).length) Slot.unset).toArray = ls at hl ⊢
  have hl : lv_has ls 5 [(0, .ref c0), (1, .int w), (2, .int px), (3, .int py)] := hl
  refine lv_aload_n hx hb dX3_move_0 rfl (lv_at hl 0 rfl) ?_
  refine lv_iload_n hx hb dX3_move_1 rfl (lv_at hl 1 rfl) ?_
  refine q_tV (en := q_IA) (wc' := [(c0, .inr (3, [.ref s0, .ref m0, .int st])), (s0, .inr (2, [.ref xa, .ref ya, .int (nI n)]))]) (wsN := [(c0, .inr (3, [.ref s0, .ref m0, .int st])), (s0, .inr (2, [.ref xa, .ref ya, .int (nI n)])), (xa, .inl (cI, 20, .inl x)), (ya, .inl (cI, 20, .inl y))]) (As := [.int w]) (rest := []) ⟨hx, hb, hml, hown, hts⟩ (t1_X3_requireSite l hst9 dC dI c0 m0 s0 xa ya st n w hf) (cwV 1 hts gX3_move_X3_requireSite rfl rfl rfl (by decide +kernel) ⟨Nat.le_of_ble_eq_true rfl, Nat.le_of_ble_eq_true rfl⟩) hE hK hP hD hS [0, 1] [] 3 0 rfl rfl rfl rfl rfl rfl rfl rfl rfl hl.1 rfl (Nat.le_of_ble_eq_true rfl) ⟨Nat.le_of_ble_eq_true rfl, Nat.le_of_ble_eq_true rfl⟩ dX3_move_2 rfl (fun H locs q9 ce hP hD hS hq9 hcv hcl => ?_)
  exact q_tout hP hS hq9 hcv hcl hout hlocks
set_option maxHeartbeats 4000000 in
set_option maxRecDepth 100000 in
theorem t2_X3_move (l : Launch) (hst9 : l.stackTraces = false) (dC : Nat → ClassId) (dI : Nat → Nat → Nat) (c0 m0 s0 xa ya : Nat) (cI : ClassId) (x y : Nat → Int32) (st : Int32) (n : Nat) (k : Nat) (px py : Int32) (lk : k < n) (ln : n ≤ 20) (hf : r_far px py = true) : vx_Met l yX3_move wsX3_move ({ frames := 7, cells := 1, slots := 6, locals := 103 }) (q_Px (dC, dI) [.ref c0, .int (nI k), .int px, .int py] [(c0, .inr (3, [.ref s0, .ref m0, .int st])), (s0, .inr (2, [.ref xa, .ref ya, .int (nI n)])), (xa, .inl (cI, 20, .inl x)), (ya, .inl (cI, 20, .inl y))] [(cI, .int)]) q_no (q_XX (dC, dI) (q_in [(c0, .inr (3, [.ref s0, .ref m0, .int st])), (s0, .inr (2, [.ref xa, .ref ya, .int (nI n)])), (xa, .inl (cI, 20, .inl x)), (ya, .inl (cI, 20, .inl y))]) q_IA [(c0, .inr (3, [.ref s0, .ref m0, .int st])), (s0, .inr (2, [.ref xa, .ref ya, .int (nI n)])), (xa, .inl (cI, 20, .inl x)), (ya, .inl (cI, 20, .inl y))]) 1 6 (q_in [(c0, .inr (3, [.ref s0, .ref m0, .int st])), (s0, .inr (2, [.ref xa, .ref ya, .int (nI n)])), (xa, .inl (cI, 20, .inl x)), (ya, .inl (cI, 20, .inl y))]) := by
  refine vx_ofW (cc := cX3_move) (maxL := 5) (ret := none) (by decide) rfl ?_
  intro p e s m args below meth c s₁ B hml hout hv
  obtain ⟨rfl, hP, hK, hD0, hE⟩ := hv
  have hx := B.exec
  have hb := B.bytes
  have hr := B.returns
  have hts := atoms_spec (ws := wsX3_move) B.pre
  have hown : s.vm.findClass RX3 = some m.cls := findClass_of_methodNamed B.named
  have hlocks := B.notSynchronized
  have hD := q_inD hD0
  generalize hAe : q_in [(c0, .inr (3, [.ref s0, .ref m0, .int st])), (s0, .inr (2, [.ref xa, .ref ya, .int (nI n)])), (xa, .inl (cI, 20, .inl x)), (ya, .inl (cI, 20, .inl y))] = A at hD hE ⊢
  have hS : va_S A s.heap s.heap [] := va_S.rf
  have hP : va_P (dC, dI) vwCl [(c0, .inr (3, [.ref s0, .ref m0, .int st])), (s0, .inr (2, [.ref xa, .ref ya, .int (nI n)])), (xa, .inl (cI, 20, .inl x)), (ya, .inl (cI, 20, .inl y))] s.heap := hP
  have hl := lv_entry ([.ref c0, .int (nI k), .int px, .int py]) (n := 5) (Nat.le_of_ble_eq_true rfl)
  rw [lg_entry_eq]
  generalize (lg_sl ([.ref c0, .int (nI k), .int px, .int py]) ++ List.replicate (5 - (lg_sl ([.ref c0, .int (nI k), .int px, .int py])).length) Slot.unset).toArray = ls at hl ⊢
  have hl : lv_has ls 5 [(0, .ref c0), (1, .int (nI k)), (2, .int px), (3, .int py)] := hl
  refine lv_aload_n hx hb dX3_move_0 rfl (lv_at hl 0 rfl) ?_
  refine lv_iload_n hx hb dX3_move_1 rfl (lv_at hl 1 rfl) ?_
  refine q_mV (wc' := [(c0, .inr (3, [.ref s0, .ref m0, .int st])), (s0, .inr (2, [.ref xa, .ref ya, .int (nI n)]))]) (wsN := [(c0, .inr (3, [.ref s0, .ref m0, .int st])), (s0, .inr (2, [.ref xa, .ref ya, .int (nI n)])), (xa, .inl (cI, 20, .inl x)), (ya, .inl (cI, 20, .inl y))]) (As := [.int (nI k)]) (rest := []) ⟨hx, hb, hml, hown, hts⟩ (c_X3_requireSite l dC dI c0 m0 s0 xa ya st n (nI k) (r_out_k lk (by omega))) (cwV 1 hts gX3_move_X3_requireSite rfl rfl rfl (by decide +kernel) ⟨Nat.le_of_ble_eq_true rfl, Nat.le_of_ble_eq_true rfl⟩) hK hP hD hS [0, 1] [] 3 0 rfl rfl rfl rfl rfl rfl rfl rfl rfl hl.1 rfl (Nat.le_of_ble_eq_true rfl) ⟨Nat.zero_le _, Nat.zero_le _⟩ dX3_move_2 rfl (fun H locs hP hD hS => ?_)
  refine W.eq (g2 := F0 m 5 ls []) rfl ?_
  refine lv_iload_n hx hb dX3_move_5 rfl (lv_at hl 2 rfl) ?_
  refine lv_iload_n hx hb dX3_move_6 rfl (lv_at hl 3 rfl) ?_
  refine q_tS (en := q_IA) (wc' := []) (wsN := [(c0, .inr (3, [.ref s0, .ref m0, .int st])), (s0, .inr (2, [.ref xa, .ref ya, .int (nI n)])), (xa, .inl (cI, 20, .inl x)), (ya, .inl (cI, 20, .inl y))]) (As := [.int px, .int py]) (rest := []) ⟨hx, hb, hml, hown, hts⟩ (t1_X3_requirePlace l hst9 dC dI px py hf) (va_cwS 2 hts gX3_move_X3_requirePlace rfl rfl rfl (by decide +kernel) ⟨Nat.le_of_ble_eq_true rfl, Nat.le_of_ble_eq_true rfl⟩) hE hK hP hD hS [] [] rfl rfl rfl rfl rfl rfl hl.1 rfl (Nat.le_of_ble_eq_true rfl) ⟨Nat.le_of_ble_eq_true rfl, Nat.le_of_ble_eq_true rfl⟩ dX3_move_7 rfl (fun H locs q9 ce hP hD hS hq9 hcv hcl => ?_)
  exact q_tout hP hS hq9 hcv hcl hout hlocks
set_option maxHeartbeats 4000000 in
set_option maxRecDepth 100000 in
theorem t3_X3_move (l : Launch) (hst9 : l.stackTraces = false) (dC : Nat → ClassId) (dI : Nat → Nat → Nat) (c0 m0 s0 xa ya : Nat) (cI : ClassId) (x y : Nat → Int32) (st : Int32) (n : Nat) (k : Nat) (px py : Int32) (lk : k < n) (ln : n ≤ 20) (hf : r_far px py = false) (hj : ¬ j_num x y n px py 0 = -1) (hj2 : ¬ j_num x y n px py 0 = nI k) : vx_Met l yX3_move wsX3_move ({ frames := 6, cells := 1, slots := 6, locals := 82 }) (q_Px (dC, dI) [.ref c0, .int (nI k), .int px, .int py] [(c0, .inr (3, [.ref s0, .ref m0, .int st])), (s0, .inr (2, [.ref xa, .ref ya, .int (nI n)])), (xa, .inl (cI, 20, .inl x)), (ya, .inl (cI, 20, .inl y))] [(cI, .int)]) q_no (q_XX (dC, dI) (q_in [(c0, .inr (3, [.ref s0, .ref m0, .int st])), (s0, .inr (2, [.ref xa, .ref ya, .int (nI n)])), (xa, .inl (cI, 20, .inl x)), (ya, .inl (cI, 20, .inl y))]) q_IA [(c0, .inr (3, [.ref s0, .ref m0, .int st])), (s0, .inr (2, [.ref xa, .ref ya, .int (nI n)])), (xa, .inl (cI, 20, .inl x)), (ya, .inl (cI, 20, .inl y))]) 1 6 (q_in [(c0, .inr (3, [.ref s0, .ref m0, .int st])), (s0, .inr (2, [.ref xa, .ref ya, .int (nI n)])), (xa, .inl (cI, 20, .inl x)), (ya, .inl (cI, 20, .inl y))]) := by
  refine vx_ofW (cc := cX3_move) (maxL := 5) (ret := none) (by decide) rfl ?_
  intro p e s m args below meth c s₁ B hml hout hv
  obtain ⟨rfl, hP, hK, hD0, hE⟩ := hv
  have hx := B.exec
  have hb := B.bytes
  have hr := B.returns
  have hts := atoms_spec (ws := wsX3_move) B.pre
  have hown : s.vm.findClass RX3 = some m.cls := findClass_of_methodNamed B.named
  have hlocks := B.notSynchronized
  have hD := q_inD hD0
  generalize hAe : q_in [(c0, .inr (3, [.ref s0, .ref m0, .int st])), (s0, .inr (2, [.ref xa, .ref ya, .int (nI n)])), (xa, .inl (cI, 20, .inl x)), (ya, .inl (cI, 20, .inl y))] = A at hD hE ⊢
  have hS : va_S A s.heap s.heap [] := va_S.rf
  have hP : va_P (dC, dI) vwCl [(c0, .inr (3, [.ref s0, .ref m0, .int st])), (s0, .inr (2, [.ref xa, .ref ya, .int (nI n)])), (xa, .inl (cI, 20, .inl x)), (ya, .inl (cI, 20, .inl y))] s.heap := hP
  have hl := lv_entry ([.ref c0, .int (nI k), .int px, .int py]) (n := 5) (Nat.le_of_ble_eq_true rfl)
  rw [lg_entry_eq]
  generalize (lg_sl ([.ref c0, .int (nI k), .int px, .int py]) ++ List.replicate (5 - (lg_sl ([.ref c0, .int (nI k), .int px, .int py])).length) Slot.unset).toArray = ls at hl ⊢
  have hl : lv_has ls 5 [(0, .ref c0), (1, .int (nI k)), (2, .int px), (3, .int py)] := hl
  refine lv_aload_n hx hb dX3_move_0 rfl (lv_at hl 0 rfl) ?_
  refine lv_iload_n hx hb dX3_move_1 rfl (lv_at hl 1 rfl) ?_
  refine q_mV (wc' := [(c0, .inr (3, [.ref s0, .ref m0, .int st])), (s0, .inr (2, [.ref xa, .ref ya, .int (nI n)]))]) (wsN := [(c0, .inr (3, [.ref s0, .ref m0, .int st])), (s0, .inr (2, [.ref xa, .ref ya, .int (nI n)])), (xa, .inl (cI, 20, .inl x)), (ya, .inl (cI, 20, .inl y))]) (As := [.int (nI k)]) (rest := []) ⟨hx, hb, hml, hown, hts⟩ (c_X3_requireSite l dC dI c0 m0 s0 xa ya st n (nI k) (r_out_k lk (by omega))) (cwV 1 hts gX3_move_X3_requireSite rfl rfl rfl (by decide +kernel) ⟨Nat.le_of_ble_eq_true rfl, Nat.le_of_ble_eq_true rfl⟩) hK hP hD hS [0, 1] [] 3 0 rfl rfl rfl rfl rfl rfl rfl rfl rfl hl.1 rfl (Nat.le_of_ble_eq_true rfl) ⟨Nat.zero_le _, Nat.zero_le _⟩ dX3_move_2 rfl (fun H locs hP hD hS => ?_)
  refine W.eq (g2 := F0 m 5 ls []) rfl ?_
  refine lv_iload_n hx hb dX3_move_5 rfl (lv_at hl 2 rfl) ?_
  refine lv_iload_n hx hb dX3_move_6 rfl (lv_at hl 3 rfl) ?_
  refine q_mS (wc' := []) (wsN := [(c0, .inr (3, [.ref s0, .ref m0, .int st])), (s0, .inr (2, [.ref xa, .ref ya, .int (nI n)])), (xa, .inl (cI, 20, .inl x)), (ya, .inl (cI, 20, .inl y))]) (As := [.int px, .int py]) (rest := []) ⟨hx, hb, hml, hown, hts⟩ (c_X3_requirePlace l dC dI px py hf) (va_cwS 2 hts gX3_move_X3_requirePlace rfl rfl rfl (by decide +kernel) ⟨Nat.le_of_ble_eq_true rfl, Nat.le_of_ble_eq_true rfl⟩) hK hP hD hS [] [] rfl rfl rfl rfl rfl rfl hl.1 rfl (Nat.le_of_ble_eq_true rfl) ⟨Nat.zero_le _, Nat.zero_le _⟩ dX3_move_7 rfl (fun H locs hP hD hS => ?_)
  refine W.eq (g2 := F0 m 10 ls []) rfl ?_
  refine lv_aload_n hx hb dX3_move_10 rfl (lv_at hl 0 rfl) ?_
  refine va_get (D := (dC, dI)) (ci := 3) (v := .ref s0) (C := RX3) (T := TX3) (N := 3) hx hb hts (by decide +kernel) hown hK hP 0 rfl rfl 0 (by decide) (hts (.fieldLink RX3 12 "CircleCells" "sites" "LCircleCells$Sites;") (by decide +kernel)) (fun _ h9 => h9) rfl dX3_move_11 ?_
  refine lv_iload_n hx hb dX3_move_14 rfl (lv_at hl 2 rfl) ?_
  refine lv_iload_n hx hb dX3_move_15 rfl (lv_at hl 3 rfl) ?_
  refine q_cV (As := [.int px, .int py]) (rest := []) ⟨hx, hb, hml, hown, hts⟩ (c_X2_numberAt l dC dI s0 xa ya cI x y n px py (by omega)) (cwV 2 hts gX3_move_X2_numberAt rfl rfl rfl (by decide +kernel) ⟨Nat.le_of_ble_eq_true rfl, Nat.le_of_ble_eq_true rfl⟩) (q_pV hK hP [1, 2, 3] [0] 2 1 rfl rfl rfl rfl rfl rfl) rfl hl.1 rfl (Nat.le_of_ble_eq_true rfl) ⟨Nat.zero_le _, Nat.zero_le _⟩ dX3_move_16 ?_
  refine lv_istore (lv' := [(4, .int (j_num x y n px py 0)), (0, .ref c0), (1, .int (nI k)), (2, .int px), (3, .int py)]) hx hb dX3_move_19 hl (by decide) rfl (fun ls hl => ?_)
  refine lv_iload hx hb dX3_move_21 (lv_at hl 0 rfl) ?_
  refine lv_iconst (v := (-1)) hx hb dX3_move_23 (by decide) ?_
  refine lv_icmp_eq (tgt := 43) hx hb dX3_move_24 (by decide) (fun c24 => ?_) (fun c24 => ?_)
  · exact absurd c24 hj
  · refine lv_iload hx hb dX3_move_27 (lv_at hl 0 rfl) ?_
    refine lv_iload_n hx hb dX3_move_29 rfl (lv_at hl 2 rfl) ?_
    refine lv_icmp_eq (tgt := 43) hx hb dX3_move_30 (by decide) (fun c30 => ?_) (fun c30 => ?_)
    · exact absurd c30 hj2
    · exact q_throw (own := RX3) (cls := "java/lang/IllegalArgumentException") (text := "another site is there") (ws' := [(c0, .inr (3, [.ref s0, .ref m0, .int st])), (s0, .inr (2, [.ref xa, .ref ya, .int (nI n)])), (xa, .inl (cI, 20, .inl x)), (ya, .inl (cI, 20, .inl y))]) hx hb hst9 hown (by decide +kernel) (by decide) (by decide) hts (by decide +kernel) (by decide +kernel) (by decide +kernel) (by decide +kernel) (by decide +kernel) hE hP hS (hl.1.trans hml.symm) dX3_move_33 dX3_move_36 dX3_move_37 dX3_move_39 dX3_move_42 hout (Nat.le_of_ble_eq_true rfl) (Nat.le_of_ble_eq_true rfl) (Nat.le_of_ble_eq_true rfl) (Nat.le_of_ble_eq_true rfl) hlocks
set_option maxHeartbeats 4000000 in
set_option maxRecDepth 100000 in
theorem c_X3_clear (l : Launch) (dC : Nat → ClassId) (dI : Nat → Nat → Nat) (c0 m0 s0 xa ya : Nat) (cI : ClassId) (x y : Nat → Int32) (st : Int32) (n : Nat) : Met l yX3_clear wsX3_clear ({ frames := 1, cells := 0, slots := 0, locals := 20 }) (q_Pm (dC, dI) [.ref c0] [(c0, .inr (3, [.ref s0, .ref m0, .int st])), (s0, .inr (2, [.ref xa, .ref ya, .int (nI n)])), (xa, .inl (cI, 20, .inl x)), (ya, .inl (cI, 20, .inl y))] [(cI, .int)]) (q_Qm (dC, dI) (q_in [(c0, .inr (3, [.ref s0, .ref m0, .int st])), (s0, .inr (2, [.ref xa, .ref ya, .int (nI n)])), (xa, .inl (cI, 20, .inl x)), (ya, .inl (cI, 20, .inl y))]) none [(c0, .inr (3, [.ref s0, .ref m0, .int 1])), (s0, .inr (2, [.ref xa, .ref ya, .int (nI 0)])), (xa, .inl (cI, 20, .inl x)), (ya, .inl (cI, 20, .inl y))]) 0 0 (q_in [(c0, .inr (3, [.ref s0, .ref m0, .int st])), (s0, .inr (2, [.ref xa, .ref ya, .int (nI n)])), (xa, .inl (cI, 20, .inl x)), (ya, .inl (cI, 20, .inl y))]) := by
  refine Met.ofW (cc := cX3_clear) (maxL := 1) (ret := none) (by decide) rfl ?_
  intro p e s m args below meth c s₁ B hml hv
  obtain ⟨rfl, hP, hK, hD0⟩ := hv
  have hx := B.exec
  have hb := B.bytes
  have hr := B.returns
  have hts := atoms_spec (ws := wsX3_clear) B.pre
  have hown : s.vm.findClass RX3 = some m.cls := findClass_of_methodNamed B.named
  have hlocks := B.notSynchronized
  have hD := q_inD hD0
  generalize hAe : q_in [(c0, .inr (3, [.ref s0, .ref m0, .int st])), (s0, .inr (2, [.ref xa, .ref ya, .int (nI n)])), (xa, .inl (cI, 20, .inl x)), (ya, .inl (cI, 20, .inl y))] = A at hD ⊢
  have hS : va_S A s.heap s.heap [] := va_S.rf
  have hP : va_P (dC, dI) vwCl [(c0, .inr (3, [.ref s0, .ref m0, .int st])), (s0, .inr (2, [.ref xa, .ref ya, .int (nI n)])), (xa, .inl (cI, 20, .inl x)), (ya, .inl (cI, 20, .inl y))] s.heap := hP
  have hl := lv_entry ([.ref c0]) (n := 1) (Nat.le_of_ble_eq_true rfl)
  rw [lg_entry_eq]
  generalize (lg_sl ([.ref c0]) ++ List.replicate (1 - (lg_sl ([.ref c0])).length) Slot.unset).toArray = ls at hl ⊢
  have hl : lv_has ls 1 [(0, .ref c0)] := hl
  refine lv_aload_n hx hb dX3_clear_0 rfl (lv_at hl 0 rfl) ?_
  refine lv_iconst (v := 1) hx hb dX3_clear_1 (by decide) ?_
  refine va_put (D := (dC, dI)) (ci := 3) (v := .int 1) (ty := .boolean) (C := RX3) (T := TX3) (N := 3) hx hb hts (by decide +kernel) tyX3 tyX3_ok nmX3 hown hK hP hD hS 0 rfl rfl 2 (by decide) (hts (.fieldLink RX3 25 "CircleCells" "stale" "Z") (by decide +kernel)) (fun _ h9 => h9) rfl (by decide +kernel) rfl rfl (Nat.le_of_ble_eq_true rfl) dX3_clear_2 (fun H locs hP hD hS => ?_)
  have hP : va_P (dC, dI) vwCl [(c0, .inr (3, [.ref s0, .ref m0, .int 1])), (s0, .inr (2, [.ref xa, .ref ya, .int (nI n)])), (xa, .inl (cI, 20, .inl x)), (ya, .inl (cI, 20, .inl y))] H := hP
  have hD : va_D A [(c0, .inr (3, [.ref s0, .ref m0, .int 1])), (s0, .inr (2, [.ref xa, .ref ya, .int (nI n)])), (xa, .inl (cI, 20, .inl x)), (ya, .inl (cI, 20, .inl y))] := hD
  refine lv_aload_n hx hb dX3_clear_5 rfl (lv_at hl 0 rfl) ?_
  refine va_get (D := (dC, dI)) (ci := 3) (v := .ref s0) (C := RX3) (T := TX3) (N := 3) hx hb hts (by decide +kernel) hown hK hP 0 rfl rfl 0 (by decide) (hts (.fieldLink RX3 12 "CircleCells" "sites" "LCircleCells$Sites;") (by decide +kernel)) (fun _ h9 => h9) rfl dX3_clear_6 ?_
  refine q_mV (wc' := [(s0, .inr (2, [.ref xa, .ref ya, .int (nI 0)])), (xa, .inl (cI, 20, .inl x)), (ya, .inl (cI, 20, .inl y))]) (wsN := [(c0, .inr (3, [.ref s0, .ref m0, .int 1])), (s0, .inr (2, [.ref xa, .ref ya, .int (nI 0)])), (xa, .inl (cI, 20, .inl x)), (ya, .inl (cI, 20, .inl y))]) (As := []) (rest := []) ⟨hx, hb, hml, hown, hts⟩ (c_X2_dropAll l dC dI s0 xa ya cI x y (nI n)) (cwV 0 hts gX3_clear_X2_dropAll rfl rfl rfl (by decide +kernel) ⟨Nat.le_of_ble_eq_true rfl, Nat.le_of_ble_eq_true rfl⟩) hK hP hD hS [1, 2, 3] [0] 2 1 rfl rfl rfl rfl rfl rfl rfl rfl rfl hl.1 rfl (Nat.le_of_ble_eq_true rfl) ⟨Nat.zero_le _, Nat.zero_le _⟩ dX3_clear_9 rfl (fun H locs hP hD hS => ?_)
  refine W.eq (g2 := F0 m 12 ls []) rfl ?_
  exact W.vret hx hb hr (q_retm hP hS) hS.2.2 dX3_clear_12
set_option maxHeartbeats 4000000 in
set_option maxRecDepth 100000 in
theorem c_X3_where (l : Launch) (dC : Nat → ClassId) (dI : Nat → Nat → Nat) (c0 m0 s0 xa ya : Nat) (cI : ClassId) (x y : Nat → Int32) (st : Int32) (n : Nat) (k : Nat) (t : Int32) (lk : k < n) (ln : n ≤ 20) (ht : t = 0 ∨ t = 1) : Met l yX3_where wsX3_where ({ frames := 1, cells := 0, slots := 0, locals := 21 }) (q_Pm (dC, dI) [.ref c0, .int (nI k), .int t] [(c0, .inr (3, [.ref s0, .ref m0, .int st])), (s0, .inr (2, [.ref xa, .ref ya, .int (nI n)])), (xa, .inl (cI, 20, .inl x)), (ya, .inl (cI, 20, .inl y))] [(cI, .int)]) (q_Qm (dC, dI) (q_in [(c0, .inr (3, [.ref s0, .ref m0, .int st])), (s0, .inr (2, [.ref xa, .ref ya, .int (nI n)])), (xa, .inl (cI, 20, .inl x)), (ya, .inl (cI, 20, .inl y))]) (some (.int (if t = 0 then x k else y k))) [(c0, .inr (3, [.ref s0, .ref m0, .int st])), (s0, .inr (2, [.ref xa, .ref ya, .int (nI n)])), (xa, .inl (cI, 20, .inl x)), (ya, .inl (cI, 20, .inl y))]) 0 0 (q_in [(c0, .inr (3, [.ref s0, .ref m0, .int st])), (s0, .inr (2, [.ref xa, .ref ya, .int (nI n)])), (xa, .inl (cI, 20, .inl x)), (ya, .inl (cI, 20, .inl y))]) := by
  refine Met.ofW (cc := cX3_where) (maxL := 3) (ret := (some .int)) (by decide) rfl ?_
  intro p e s m args below meth c s₁ B hml hv
  obtain ⟨rfl, hP, hK, hD0⟩ := hv
  have hx := B.exec
  have hb := B.bytes
  have hr := B.returns
  have hts := atoms_spec (ws := wsX3_where) B.pre
  have hown : s.vm.findClass RX3 = some m.cls := findClass_of_methodNamed B.named
  have hlocks := B.notSynchronized
  have hD := q_inD hD0
  generalize hAe : q_in [(c0, .inr (3, [.ref s0, .ref m0, .int st])), (s0, .inr (2, [.ref xa, .ref ya, .int (nI n)])), (xa, .inl (cI, 20, .inl x)), (ya, .inl (cI, 20, .inl y))] = A at hD ⊢
  have hS : va_S A s.heap s.heap [] := va_S.rf
  have hP : va_P (dC, dI) vwCl [(c0, .inr (3, [.ref s0, .ref m0, .int st])), (s0, .inr (2, [.ref xa, .ref ya, .int (nI n)])), (xa, .inl (cI, 20, .inl x)), (ya, .inl (cI, 20, .inl y))] s.heap := hP
  have hl := lv_entry ([.ref c0, .int (nI k), .int t]) (n := 3) (Nat.le_of_ble_eq_true rfl)
  rw [lg_entry_eq]
  generalize (lg_sl ([.ref c0, .int (nI k), .int t]) ++ List.replicate (3 - (lg_sl ([.ref c0, .int (nI k), .int t])).length) Slot.unset).toArray = ls at hl ⊢
  have hl : lv_has ls 3 [(0, .ref c0), (1, .int (nI k)), (2, .int t)] := hl
  refine lv_aload_n hx hb dX3_where_0 rfl (lv_at hl 0 rfl) ?_
  refine lv_iload_n hx hb dX3_where_1 rfl (lv_at hl 1 rfl) ?_
  refine q_mV (wc' := [(c0, .inr (3, [.ref s0, .ref m0, .int st])), (s0, .inr (2, [.ref xa, .ref ya, .int (nI n)]))]) (wsN := [(c0, .inr (3, [.ref s0, .ref m0, .int st])), (s0, .inr (2, [.ref xa, .ref ya, .int (nI n)])), (xa, .inl (cI, 20, .inl x)), (ya, .inl (cI, 20, .inl y))]) (As := [.int (nI k)]) (rest := []) ⟨hx, hb, hml, hown, hts⟩ (c_X3_requireSite l dC dI c0 m0 s0 xa ya st n (nI k) (r_out_k lk (by omega))) (cwV 1 hts gX3_where_X3_requireSite rfl rfl rfl (by decide +kernel) ⟨Nat.le_of_ble_eq_true rfl, Nat.le_of_ble_eq_true rfl⟩) hK hP hD hS [0, 1] [] 3 0 rfl rfl rfl rfl rfl rfl rfl rfl rfl hl.1 rfl (Nat.le_of_ble_eq_true rfl) ⟨Nat.zero_le _, Nat.zero_le _⟩ dX3_where_2 rfl (fun H locs hP hD hS => ?_)
  refine W.eq (g2 := F0 m 5 ls []) rfl ?_
  refine lv_iload_n hx hb dX3_where_5 rfl (lv_at hl 2 rfl) ?_
  refine lv_if_eq (tgt := 24) hx hb dX3_where_6 (by decide) (fun c6 => ?_) (fun c6 => ?_)
  · refine lv_iload_n hx hb dX3_where_24 rfl (lv_at hl 2 rfl) ?_
    refine lv_if_ne (tgt := 40) hx hb dX3_where_25 (by decide) (fun c25 => ?_) (fun c25 => ?_)
    · rw [if_neg c25]
      refine lv_aload_n hx hb dX3_where_40 rfl (lv_at hl 0 rfl) ?_
      refine va_get (D := (dC, dI)) (ci := 3) (v := .ref s0) (C := RX3) (T := TX3) (N := 3) hx hb hts (by decide +kernel) hown hK hP 0 rfl rfl 0 (by decide) (hts (.fieldLink RX3 12 "CircleCells" "sites" "LCircleCells$Sites;") (by decide +kernel)) (fun _ h9 => h9) rfl dX3_where_41 ?_
      refine va_get (D := (dC, dI)) (ci := 2) (v := .ref ya) (C := RX2) (T := TX2) (N := 3) hx hb hts (by decide +kernel) hown hK hP 1 rfl rfl 1 (by decide) (hts (.fieldLink RX3 78 "CircleCells$Sites" "y" "[I") (by decide +kernel)) (fun _ h9 => h9) rfl dX3_where_44 ?_
      refine lv_iload_n hx hb dX3_where_47 rfl (lv_at hl 1 rfl) ?_
      refine q_iald hx hb hK hP 3 0 rfl rfl (k) rfl (by omega) (by decide) dX3_where_48 ?_
      exact W.iret (v := y k) hx hb hr (q_retm hP hS) hS.2.2 dX3_where_49
    · rw [if_pos c25]
      refine lv_aload_n hx hb dX3_where_28 rfl (lv_at hl 0 rfl) ?_
      refine va_get (D := (dC, dI)) (ci := 3) (v := .ref s0) (C := RX3) (T := TX3) (N := 3) hx hb hts (by decide +kernel) hown hK hP 0 rfl rfl 0 (by decide) (hts (.fieldLink RX3 12 "CircleCells" "sites" "LCircleCells$Sites;") (by decide +kernel)) (fun _ h9 => h9) rfl dX3_where_29 ?_
      refine va_get (D := (dC, dI)) (ci := 2) (v := .ref xa) (C := RX2) (T := TX2) (N := 3) hx hb hts (by decide +kernel) hown hK hP 1 rfl rfl 0 (by decide) (hts (.fieldLink RX3 74 "CircleCells$Sites" "x" "[I") (by decide +kernel)) (fun _ h9 => h9) rfl dX3_where_32 ?_
      refine lv_iload_n hx hb dX3_where_35 rfl (lv_at hl 1 rfl) ?_
      refine q_iald hx hb hK hP 2 0 rfl rfl (k) rfl (by omega) (by decide) dX3_where_36 ?_
      refine lv_goto (tgt := 49) hx hb dX3_where_37 (by decide) ?_
      exact W.iret (v := x k) hx hb hr (q_retm hP hS) hS.2.2 dX3_where_49
  · refine lv_iload_n hx hb dX3_where_9 rfl (lv_at hl 2 rfl) ?_
    refine lv_iconst (v := 1) hx hb dX3_where_10 (by decide) ?_
    refine lv_icmp_eq (tgt := 24) hx hb dX3_where_11 (by decide) (fun c11 => ?_) (fun c11 => ?_)
    · refine lv_iload_n hx hb dX3_where_24 rfl (lv_at hl 2 rfl) ?_
      refine lv_if_ne (tgt := 40) hx hb dX3_where_25 (by decide) (fun c25 => ?_) (fun c25 => ?_)
      · rw [if_neg c25]
        refine lv_aload_n hx hb dX3_where_40 rfl (lv_at hl 0 rfl) ?_
        refine va_get (D := (dC, dI)) (ci := 3) (v := .ref s0) (C := RX3) (T := TX3) (N := 3) hx hb hts (by decide +kernel) hown hK hP 0 rfl rfl 0 (by decide) (hts (.fieldLink RX3 12 "CircleCells" "sites" "LCircleCells$Sites;") (by decide +kernel)) (fun _ h9 => h9) rfl dX3_where_41 ?_
        refine va_get (D := (dC, dI)) (ci := 2) (v := .ref ya) (C := RX2) (T := TX2) (N := 3) hx hb hts (by decide +kernel) hown hK hP 1 rfl rfl 1 (by decide) (hts (.fieldLink RX3 78 "CircleCells$Sites" "y" "[I") (by decide +kernel)) (fun _ h9 => h9) rfl dX3_where_44 ?_
        refine lv_iload_n hx hb dX3_where_47 rfl (lv_at hl 1 rfl) ?_
        refine q_iald hx hb hK hP 3 0 rfl rfl (k) rfl (by omega) (by decide) dX3_where_48 ?_
        exact W.iret (v := y k) hx hb hr (q_retm hP hS) hS.2.2 dX3_where_49
      · rw [if_pos c25]
        refine lv_aload_n hx hb dX3_where_28 rfl (lv_at hl 0 rfl) ?_
        refine va_get (D := (dC, dI)) (ci := 3) (v := .ref s0) (C := RX3) (T := TX3) (N := 3) hx hb hts (by decide +kernel) hown hK hP 0 rfl rfl 0 (by decide) (hts (.fieldLink RX3 12 "CircleCells" "sites" "LCircleCells$Sites;") (by decide +kernel)) (fun _ h9 => h9) rfl dX3_where_29 ?_
        refine va_get (D := (dC, dI)) (ci := 2) (v := .ref xa) (C := RX2) (T := TX2) (N := 3) hx hb hts (by decide +kernel) hown hK hP 1 rfl rfl 0 (by decide) (hts (.fieldLink RX3 74 "CircleCells$Sites" "x" "[I") (by decide +kernel)) (fun _ h9 => h9) rfl dX3_where_32 ?_
        refine lv_iload_n hx hb dX3_where_35 rfl (lv_at hl 1 rfl) ?_
        refine q_iald hx hb hK hP 2 0 rfl rfl (k) rfl (by omega) (by decide) dX3_where_36 ?_
        refine lv_goto (tgt := 49) hx hb dX3_where_37 (by decide) ?_
        exact W.iret (v := x k) hx hb hr (q_retm hP hS) hS.2.2 dX3_where_49
    · exact absurd (ht.resolve_left c6) c11
set_option maxHeartbeats 4000000 in
set_option maxRecDepth 100000 in
theorem t1_X3_where (l : Launch) (hst9 : l.stackTraces = false) (dC : Nat → ClassId) (dI : Nat → Nat → Nat) (c0 m0 s0 xa ya : Nat) (cI : ClassId) (x y : Nat → Int32) (st : Int32) (n : Nat) (w t : Int32) (hf : r_out w (nI n) = true) : vx_Met l yX3_where wsX3_where ({ frames := 7, cells := 1, slots := 6, locals := 103 }) (q_Px (dC, dI) [.ref c0, .int w, .int t] [(c0, .inr (3, [.ref s0, .ref m0, .int st])), (s0, .inr (2, [.ref xa, .ref ya, .int (nI n)])), (xa, .inl (cI, 20, .inl x)), (ya, .inl (cI, 20, .inl y))] [(cI, .int)]) q_no (q_XX (dC, dI) (q_in [(c0, .inr (3, [.ref s0, .ref m0, .int st])), (s0, .inr (2, [.ref xa, .ref ya, .int (nI n)])), (xa, .inl (cI, 20, .inl x)), (ya, .inl (cI, 20, .inl y))]) q_IA [(c0, .inr (3, [.ref s0, .ref m0, .int st])), (s0, .inr (2, [.ref xa, .ref ya, .int (nI n)])), (xa, .inl (cI, 20, .inl x)), (ya, .inl (cI, 20, .inl y))]) 1 6 (q_in [(c0, .inr (3, [.ref s0, .ref m0, .int st])), (s0, .inr (2, [.ref xa, .ref ya, .int (nI n)])), (xa, .inl (cI, 20, .inl x)), (ya, .inl (cI, 20, .inl y))]) := by
  refine vx_ofW (cc := cX3_where) (maxL := 3) (ret := (some .int)) (by decide) rfl ?_
  intro p e s m args below meth c s₁ B hml hout hv
  obtain ⟨rfl, hP, hK, hD0, hE⟩ := hv
  have hx := B.exec
  have hb := B.bytes
  have hr := B.returns
  have hts := atoms_spec (ws := wsX3_where) B.pre
  have hown : s.vm.findClass RX3 = some m.cls := findClass_of_methodNamed B.named
  have hlocks := B.notSynchronized
  have hD := q_inD hD0
  generalize hAe : q_in [(c0, .inr (3, [.ref s0, .ref m0, .int st])), (s0, .inr (2, [.ref xa, .ref ya, .int (nI n)])), (xa, .inl (cI, 20, .inl x)), (ya, .inl (cI, 20, .inl y))] = A at hD hE ⊢
  have hS : va_S A s.heap s.heap [] := va_S.rf
  have hP : va_P (dC, dI) vwCl [(c0, .inr (3, [.ref s0, .ref m0, .int st])), (s0, .inr (2, [.ref xa, .ref ya, .int (nI n)])), (xa, .inl (cI, 20, .inl x)), (ya, .inl (cI, 20, .inl y))] s.heap := hP
  have hl := lv_entry ([.ref c0, .int w, .int t]) (n := 3) (Nat.le_of_ble_eq_true rfl)
  rw [lg_entry_eq]
  generalize (lg_sl ([.ref c0, .int w, .int t]) ++ List.replicate (3 - (lg_sl ([.ref c0, .int w, .int t])).length) Slot.unset).toArray = ls at hl ⊢
  have hl : lv_has ls 3 [(0, .ref c0), (1, .int w), (2, .int t)] := hl
  refine lv_aload_n hx hb dX3_where_0 rfl (lv_at hl 0 rfl) ?_
  refine lv_iload_n hx hb dX3_where_1 rfl (lv_at hl 1 rfl) ?_
  refine q_tV (en := q_IA) (wc' := [(c0, .inr (3, [.ref s0, .ref m0, .int st])), (s0, .inr (2, [.ref xa, .ref ya, .int (nI n)]))]) (wsN := [(c0, .inr (3, [.ref s0, .ref m0, .int st])), (s0, .inr (2, [.ref xa, .ref ya, .int (nI n)])), (xa, .inl (cI, 20, .inl x)), (ya, .inl (cI, 20, .inl y))]) (As := [.int w]) (rest := []) ⟨hx, hb, hml, hown, hts⟩ (t1_X3_requireSite l hst9 dC dI c0 m0 s0 xa ya st n w hf) (cwV 1 hts gX3_where_X3_requireSite rfl rfl rfl (by decide +kernel) ⟨Nat.le_of_ble_eq_true rfl, Nat.le_of_ble_eq_true rfl⟩) hE hK hP hD hS [0, 1] [] 3 0 rfl rfl rfl rfl rfl rfl rfl rfl rfl hl.1 rfl (Nat.le_of_ble_eq_true rfl) ⟨Nat.le_of_ble_eq_true rfl, Nat.le_of_ble_eq_true rfl⟩ dX3_where_2 rfl (fun H locs q9 ce hP hD hS hq9 hcv hcl => ?_)
  exact q_tout hP hS hq9 hcv hcl hout hlocks
set_option maxHeartbeats 4000000 in
set_option maxRecDepth 100000 in
theorem t2_X3_where (l : Launch) (hst9 : l.stackTraces = false) (dC : Nat → ClassId) (dI : Nat → Nat → Nat) (c0 m0 s0 xa ya : Nat) (cI : ClassId) (x y : Nat → Int32) (st : Int32) (n : Nat) (k : Nat) (t : Int32) (lk : k < n) (ln : n ≤ 20) (ht : ¬ t = 0) (ht1 : ¬ t = 1) : vx_Met l yX3_where wsX3_where ({ frames := 6, cells := 1, slots := 6, locals := 82 }) (q_Px (dC, dI) [.ref c0, .int (nI k), .int t] [(c0, .inr (3, [.ref s0, .ref m0, .int st])), (s0, .inr (2, [.ref xa, .ref ya, .int (nI n)])), (xa, .inl (cI, 20, .inl x)), (ya, .inl (cI, 20, .inl y))] [(cI, .int)]) q_no (q_XX (dC, dI) (q_in [(c0, .inr (3, [.ref s0, .ref m0, .int st])), (s0, .inr (2, [.ref xa, .ref ya, .int (nI n)])), (xa, .inl (cI, 20, .inl x)), (ya, .inl (cI, 20, .inl y))]) q_IA [(c0, .inr (3, [.ref s0, .ref m0, .int st])), (s0, .inr (2, [.ref xa, .ref ya, .int (nI n)])), (xa, .inl (cI, 20, .inl x)), (ya, .inl (cI, 20, .inl y))]) 1 6 (q_in [(c0, .inr (3, [.ref s0, .ref m0, .int st])), (s0, .inr (2, [.ref xa, .ref ya, .int (nI n)])), (xa, .inl (cI, 20, .inl x)), (ya, .inl (cI, 20, .inl y))]) := by
  refine vx_ofW (cc := cX3_where) (maxL := 3) (ret := (some .int)) (by decide) rfl ?_
  intro p e s m args below meth c s₁ B hml hout hv
  obtain ⟨rfl, hP, hK, hD0, hE⟩ := hv
  have hx := B.exec
  have hb := B.bytes
  have hr := B.returns
  have hts := atoms_spec (ws := wsX3_where) B.pre
  have hown : s.vm.findClass RX3 = some m.cls := findClass_of_methodNamed B.named
  have hlocks := B.notSynchronized
  have hD := q_inD hD0
  generalize hAe : q_in [(c0, .inr (3, [.ref s0, .ref m0, .int st])), (s0, .inr (2, [.ref xa, .ref ya, .int (nI n)])), (xa, .inl (cI, 20, .inl x)), (ya, .inl (cI, 20, .inl y))] = A at hD hE ⊢
  have hS : va_S A s.heap s.heap [] := va_S.rf
  have hP : va_P (dC, dI) vwCl [(c0, .inr (3, [.ref s0, .ref m0, .int st])), (s0, .inr (2, [.ref xa, .ref ya, .int (nI n)])), (xa, .inl (cI, 20, .inl x)), (ya, .inl (cI, 20, .inl y))] s.heap := hP
  have hl := lv_entry ([.ref c0, .int (nI k), .int t]) (n := 3) (Nat.le_of_ble_eq_true rfl)
  rw [lg_entry_eq]
  generalize (lg_sl ([.ref c0, .int (nI k), .int t]) ++ List.replicate (3 - (lg_sl ([.ref c0, .int (nI k), .int t])).length) Slot.unset).toArray = ls at hl ⊢
  have hl : lv_has ls 3 [(0, .ref c0), (1, .int (nI k)), (2, .int t)] := hl
  refine lv_aload_n hx hb dX3_where_0 rfl (lv_at hl 0 rfl) ?_
  refine lv_iload_n hx hb dX3_where_1 rfl (lv_at hl 1 rfl) ?_
  refine q_mV (wc' := [(c0, .inr (3, [.ref s0, .ref m0, .int st])), (s0, .inr (2, [.ref xa, .ref ya, .int (nI n)]))]) (wsN := [(c0, .inr (3, [.ref s0, .ref m0, .int st])), (s0, .inr (2, [.ref xa, .ref ya, .int (nI n)])), (xa, .inl (cI, 20, .inl x)), (ya, .inl (cI, 20, .inl y))]) (As := [.int (nI k)]) (rest := []) ⟨hx, hb, hml, hown, hts⟩ (c_X3_requireSite l dC dI c0 m0 s0 xa ya st n (nI k) (r_out_k lk (by omega))) (cwV 1 hts gX3_where_X3_requireSite rfl rfl rfl (by decide +kernel) ⟨Nat.le_of_ble_eq_true rfl, Nat.le_of_ble_eq_true rfl⟩) hK hP hD hS [0, 1] [] 3 0 rfl rfl rfl rfl rfl rfl rfl rfl rfl hl.1 rfl (Nat.le_of_ble_eq_true rfl) ⟨Nat.zero_le _, Nat.zero_le _⟩ dX3_where_2 rfl (fun H locs hP hD hS => ?_)
  refine W.eq (g2 := F0 m 5 ls []) rfl ?_
  refine lv_iload_n hx hb dX3_where_5 rfl (lv_at hl 2 rfl) ?_
  refine lv_if_eq (tgt := 24) hx hb dX3_where_6 (by decide) (fun c6 => ?_) (fun c6 => ?_)
  · exact absurd c6 ht
  · refine lv_iload_n hx hb dX3_where_9 rfl (lv_at hl 2 rfl) ?_
    refine lv_iconst (v := 1) hx hb dX3_where_10 (by decide) ?_
    refine lv_icmp_eq (tgt := 24) hx hb dX3_where_11 (by decide) (fun c11 => ?_) (fun c11 => ?_)
    · exact absurd c11 ht1
    · exact q_throw (own := RX3) (cls := "java/lang/IllegalArgumentException") (text := "what is 0 or 1") (ws' := [(c0, .inr (3, [.ref s0, .ref m0, .int st])), (s0, .inr (2, [.ref xa, .ref ya, .int (nI n)])), (xa, .inl (cI, 20, .inl x)), (ya, .inl (cI, 20, .inl y))]) hx hb hst9 hown (by decide +kernel) (by decide) (by decide) hts (by decide +kernel) (by decide +kernel) (by decide +kernel) (by decide +kernel) (by decide +kernel) hE hP hS (hl.1.trans hml.symm) dX3_where_14 dX3_where_17 dX3_where_18 dX3_where_20 dX3_where_23 hout (Nat.le_of_ble_eq_true rfl) (Nat.le_of_ble_eq_true rfl) (Nat.le_of_ble_eq_true rfl) (Nat.le_of_ble_eq_true rfl) hlocks
set_option maxHeartbeats 4000000 in
set_option maxRecDepth 100000 in
theorem c_X3_cells (l : Launch) (dC : Nat → ClassId) (dI : Nat → Nat → Nat) (c0 m0 s0 g0 ra sa oa ma xa ya : Nat) (cI : ClassId) (x y : Nat → Int32) (st : Int32) (z : (Int32 × Int32 × Int64 × Int64 × Int64) × (Nat → Nat) × (Nat → Nat) × (Nat → Int32) × Nat) (rm : Nat → Int32) (rc n : Nat) (ln : n ≤ 20) (lr : ∀ j, z.2.1 j < 20) (ls0 : z.2.2.1 0 = 0) (R : ((Int32 × Int32 × Int64 × Int64 × Int64) × (Nat → Nat) × (Nat → Nat) × (Nat → Int32) × Nat) × (Nat → Int32) × Nat) (hR : j_refr x y n st z rm rc = R) : Met l yX3_cells wsX3_cells ({ frames := 6, cells := 0, slots := 0, locals := 137 }) (q_Pm (dC, dI) [.ref c0] [(c0, .inr (3, [.ref s0, .ref m0, .int st])), (m0, .inr (1, [.ref s0, .ref g0, .ref ra, .ref sa, .ref oa, .int (nI z.2.2.2.2), .ref ma, .int (nI rc)])), (g0, .inr (0, [.int z.1.1, .int z.1.2.1, .long z.1.2.2.1, .long z.1.2.2.2.1, .long z.1.2.2.2.2])), (s0, .inr (2, [.ref xa, .ref ya, .int (nI n)])), (xa, .inl (cI, 20, .inl x)), (ya, .inl (cI, 20, .inl y)), (ra, .inl (cI, 105, .inl (fun j9 => nI (z.2.1 j9)))), (sa, .inl (cI, 36, .inl (fun j9 => nI (z.2.2.1 j9)))), (oa, .inl (cI, 400, .inl z.2.2.2.1)), (ma, .inl (cI, 20, .inl rm))] [(cI, .int)]) (q_Qm (dC, dI) (q_in [(c0, .inr (3, [.ref s0, .ref m0, .int st])), (m0, .inr (1, [.ref s0, .ref g0, .ref ra, .ref sa, .ref oa, .int (nI z.2.2.2.2), .ref ma, .int (nI rc)])), (g0, .inr (0, [.int z.1.1, .int z.1.2.1, .long z.1.2.2.1, .long z.1.2.2.2.1, .long z.1.2.2.2.2])), (s0, .inr (2, [.ref xa, .ref ya, .int (nI n)])), (xa, .inl (cI, 20, .inl x)), (ya, .inl (cI, 20, .inl y)), (ra, .inl (cI, 105, .inl (fun j9 => nI (z.2.1 j9)))), (sa, .inl (cI, 36, .inl (fun j9 => nI (z.2.2.1 j9)))), (oa, .inl (cI, 400, .inl z.2.2.2.1)), (ma, .inl (cI, 20, .inl rm))]) (some (.int (nI R.1.2.2.2.2))) [(c0, .inr (3, [.ref s0, .ref m0, .int 0])), (m0, .inr (1, [.ref s0, .ref g0, .ref ra, .ref sa, .ref oa, .int (nI R.1.2.2.2.2), .ref ma, .int (nI R.2.2)])), (g0, .inr (0, [.int R.1.1.1, .int R.1.1.2.1, .long R.1.1.2.2.1, .long R.1.1.2.2.2.1, .long R.1.1.2.2.2.2])), (s0, .inr (2, [.ref xa, .ref ya, .int (nI n)])), (xa, .inl (cI, 20, .inl x)), (ya, .inl (cI, 20, .inl y)), (ra, .inl (cI, 105, .inl (fun j9 => nI (R.1.2.1 j9)))), (sa, .inl (cI, 36, .inl (fun j9 => nI (R.1.2.2.1 j9)))), (oa, .inl (cI, 400, .inl R.1.2.2.2.1)), (ma, .inl (cI, 20, .inl R.2.1))]) 0 0 (q_in [(c0, .inr (3, [.ref s0, .ref m0, .int st])), (m0, .inr (1, [.ref s0, .ref g0, .ref ra, .ref sa, .ref oa, .int (nI z.2.2.2.2), .ref ma, .int (nI rc)])), (g0, .inr (0, [.int z.1.1, .int z.1.2.1, .long z.1.2.2.1, .long z.1.2.2.2.1, .long z.1.2.2.2.2])), (s0, .inr (2, [.ref xa, .ref ya, .int (nI n)])), (xa, .inl (cI, 20, .inl x)), (ya, .inl (cI, 20, .inl y)), (ra, .inl (cI, 105, .inl (fun j9 => nI (z.2.1 j9)))), (sa, .inl (cI, 36, .inl (fun j9 => nI (z.2.2.1 j9)))), (oa, .inl (cI, 400, .inl z.2.2.2.1)), (ma, .inl (cI, 20, .inl rm))]) := by
  refine Met.ofW (cc := cX3_cells) (maxL := 1) (ret := (some .int)) (by decide) rfl ?_
  intro p e s m args below meth c s₁ B hml hv
  obtain ⟨rfl, hP, hK, hD0⟩ := hv
  have hx := B.exec
  have hb := B.bytes
  have hr := B.returns
  have hts := atoms_spec (ws := wsX3_cells) B.pre
  have hown : s.vm.findClass RX3 = some m.cls := findClass_of_methodNamed B.named
  have hlocks := B.notSynchronized
  have hD := q_inD hD0
  generalize hAe : q_in [(c0, .inr (3, [.ref s0, .ref m0, .int st])), (m0, .inr (1, [.ref s0, .ref g0, .ref ra, .ref sa, .ref oa, .int (nI z.2.2.2.2), .ref ma, .int (nI rc)])), (g0, .inr (0, [.int z.1.1, .int z.1.2.1, .long z.1.2.2.1, .long z.1.2.2.2.1, .long z.1.2.2.2.2])), (s0, .inr (2, [.ref xa, .ref ya, .int (nI n)])), (xa, .inl (cI, 20, .inl x)), (ya, .inl (cI, 20, .inl y)), (ra, .inl (cI, 105, .inl (fun j9 => nI (z.2.1 j9)))), (sa, .inl (cI, 36, .inl (fun j9 => nI (z.2.2.1 j9)))), (oa, .inl (cI, 400, .inl z.2.2.2.1)), (ma, .inl (cI, 20, .inl rm))] = A at hD ⊢
  have hS : va_S A s.heap s.heap [] := va_S.rf
  have hP : va_P (dC, dI) vwCl [(c0, .inr (3, [.ref s0, .ref m0, .int st])), (m0, .inr (1, [.ref s0, .ref g0, .ref ra, .ref sa, .ref oa, .int (nI z.2.2.2.2), .ref ma, .int (nI rc)])), (g0, .inr (0, [.int z.1.1, .int z.1.2.1, .long z.1.2.2.1, .long z.1.2.2.2.1, .long z.1.2.2.2.2])), (s0, .inr (2, [.ref xa, .ref ya, .int (nI n)])), (xa, .inl (cI, 20, .inl x)), (ya, .inl (cI, 20, .inl y)), (ra, .inl (cI, 105, .inl (fun j9 => nI (z.2.1 j9)))), (sa, .inl (cI, 36, .inl (fun j9 => nI (z.2.2.1 j9)))), (oa, .inl (cI, 400, .inl z.2.2.2.1)), (ma, .inl (cI, 20, .inl rm))] s.heap := hP
  have hl := lv_entry ([.ref c0]) (n := 1) (Nat.le_of_ble_eq_true rfl)
  rw [lg_entry_eq]
  generalize (lg_sl ([.ref c0]) ++ List.replicate (1 - (lg_sl ([.ref c0])).length) Slot.unset).toArray = ls at hl ⊢
  have hl : lv_has ls 1 [(0, .ref c0)] := hl
  refine lv_aload_n hx hb dX3_cells_0 rfl (lv_at hl 0 rfl) ?_
  obtain ⟨r1, hr1⟩ : ∃ r : ((Int32 × Int32 × Int64 × Int64 × Int64) × (Nat → Nat) × (Nat → Nat) × (Nat → Int32) × Nat) × (Nat → Int32) × Nat, j_refr x y n st z rm rc = r := ⟨_, rfl⟩
  refine q_mV (wc' := [(c0, .inr (3, [.ref s0, .ref m0, .int 0])), (m0, .inr (1, [.ref s0, .ref g0, .ref ra, .ref sa, .ref oa, .int (nI r1.1.2.2.2.2), .ref ma, .int (nI r1.2.2)])), (g0, .inr (0, [.int r1.1.1.1, .int r1.1.1.2.1, .long r1.1.1.2.2.1, .long r1.1.1.2.2.2.1, .long r1.1.1.2.2.2.2])), (s0, .inr (2, [.ref xa, .ref ya, .int (nI n)])), (xa, .inl (cI, 20, .inl x)), (ya, .inl (cI, 20, .inl y)), (ra, .inl (cI, 105, .inl (fun j9 => nI (r1.1.2.1 j9)))), (sa, .inl (cI, 36, .inl (fun j9 => nI (r1.1.2.2.1 j9)))), (oa, .inl (cI, 400, .inl r1.1.2.2.2.1)), (ma, .inl (cI, 20, .inl r1.2.1))]) (wsN := [(c0, .inr (3, [.ref s0, .ref m0, .int 0])), (m0, .inr (1, [.ref s0, .ref g0, .ref ra, .ref sa, .ref oa, .int (nI r1.1.2.2.2.2), .ref ma, .int (nI r1.2.2)])), (g0, .inr (0, [.int r1.1.1.1, .int r1.1.1.2.1, .long r1.1.1.2.2.1, .long r1.1.1.2.2.2.1, .long r1.1.1.2.2.2.2])), (s0, .inr (2, [.ref xa, .ref ya, .int (nI n)])), (xa, .inl (cI, 20, .inl x)), (ya, .inl (cI, 20, .inl y)), (ra, .inl (cI, 105, .inl (fun j9 => nI (r1.1.2.1 j9)))), (sa, .inl (cI, 36, .inl (fun j9 => nI (r1.1.2.2.1 j9)))), (oa, .inl (cI, 400, .inl r1.1.2.2.2.1)), (ma, .inl (cI, 20, .inl r1.2.1))]) (As := []) (rest := []) ⟨hx, hb, hml, hown, hts⟩ (c_X3_refresh l dC dI c0 m0 s0 g0 ra sa oa ma xa ya cI x y st (by omega) rm rc n (by omega) lr ls0 r1 hr1) (cwV 0 hts gX3_cells_X3_refresh rfl rfl rfl (by decide +kernel) ⟨Nat.le_of_ble_eq_true rfl, Nat.le_of_ble_eq_true rfl⟩) hK hP hD hS [0, 1, 2, 3, 4, 5, 6, 7, 8, 9] [0] 3 0 rfl rfl rfl rfl rfl rfl rfl rfl rfl hl.1 rfl (Nat.le_of_ble_eq_true rfl) ⟨Nat.zero_le _, Nat.zero_le _⟩ dX3_cells_1 rfl (fun H locs hP hD hS => ?_)
  refine W.eq (g2 := F0 m 4 ls []) rfl ?_
  rw [hr1] at hR
  subst hR
  refine lv_aload_n hx hb dX3_cells_4 rfl (lv_at hl 0 rfl) ?_
  refine va_get (D := (dC, dI)) (ci := 3) (v := .ref m0) (C := RX3) (T := TX3) (N := 3) hx hb hts (by decide +kernel) hown hK hP 0 rfl rfl 1 (by decide) (hts (.fieldLink RX3 21 "CircleCells" "mosaic" "LCircleCells$Mosaic;") (by decide +kernel)) (fun _ h9 => h9) rfl dX3_cells_5 ?_
  refine va_get (D := (dC, dI)) (ci := 1) (v := .int (nI r1.1.2.2.2.2)) (C := RX1) (T := TX1) (N := 8) hx hb hts (by decide +kernel) hown hK hP 1 rfl rfl 5 (by decide) (hts (.fieldLink RX3 84 "CircleCells$Mosaic" "cellCount" "I") (by decide +kernel)) (fun _ h9 => h9) rfl dX3_cells_8 ?_
  exact W.iret (v := nI r1.1.2.2.2.2) hx hb hr (q_retm hP hS) hS.2.2 dX3_cells_11
set_option maxHeartbeats 4000000 in
set_option maxRecDepth 100000 in
theorem c_X3_cell (l : Launch) (dC : Nat → ClassId) (dI : Nat → Nat → Nat) (c0 m0 s0 g0 ra sa oa ma xa ya : Nat) (cI : ClassId) (x y : Nat → Int32) (st : Int32) (z : (Int32 × Int32 × Int64 × Int64 × Int64) × (Nat → Nat) × (Nat → Nat) × (Nat → Int32) × Nat) (rm : Nat → Int32) (rc n : Nat) (k : Nat) (i : Int32) (ln : n ≤ 20) (lr : ∀ j, z.2.1 j < 20) (ls0 : z.2.2.1 0 = 0) (hst : j_st (j_refr x y n st z rm rc)) (lk : k < (j_refr x y n st z rm rc).1.2.2.2.2) (hi : i = -1 ∨ r_out i (nI ((j_refr x y n st z rm rc).1.2.2.1 (k + 1) - (j_refr x y n st z rm rc).1.2.2.1 k)) = false) (R : ((Int32 × Int32 × Int64 × Int64 × Int64) × (Nat → Nat) × (Nat → Nat) × (Nat → Int32) × Nat) × (Nat → Int32) × Nat) (hR : j_refr x y n st z rm rc = R) : Met l yX3_cell wsX3_cell ({ frames := 6, cells := 0, slots := 0, locals := 137 }) (q_Pm (dC, dI) [.ref c0, .int (nI k), .int i] [(c0, .inr (3, [.ref s0, .ref m0, .int st])), (m0, .inr (1, [.ref s0, .ref g0, .ref ra, .ref sa, .ref oa, .int (nI z.2.2.2.2), .ref ma, .int (nI rc)])), (g0, .inr (0, [.int z.1.1, .int z.1.2.1, .long z.1.2.2.1, .long z.1.2.2.2.1, .long z.1.2.2.2.2])), (s0, .inr (2, [.ref xa, .ref ya, .int (nI n)])), (xa, .inl (cI, 20, .inl x)), (ya, .inl (cI, 20, .inl y)), (ra, .inl (cI, 105, .inl (fun j9 => nI (z.2.1 j9)))), (sa, .inl (cI, 36, .inl (fun j9 => nI (z.2.2.1 j9)))), (oa, .inl (cI, 400, .inl z.2.2.2.1)), (ma, .inl (cI, 20, .inl rm))] [(cI, .int)]) (q_Qm (dC, dI) (q_in [(c0, .inr (3, [.ref s0, .ref m0, .int st])), (m0, .inr (1, [.ref s0, .ref g0, .ref ra, .ref sa, .ref oa, .int (nI z.2.2.2.2), .ref ma, .int (nI rc)])), (g0, .inr (0, [.int z.1.1, .int z.1.2.1, .long z.1.2.2.1, .long z.1.2.2.2.1, .long z.1.2.2.2.2])), (s0, .inr (2, [.ref xa, .ref ya, .int (nI n)])), (xa, .inl (cI, 20, .inl x)), (ya, .inl (cI, 20, .inl y)), (ra, .inl (cI, 105, .inl (fun j9 => nI (z.2.1 j9)))), (sa, .inl (cI, 36, .inl (fun j9 => nI (z.2.2.1 j9)))), (oa, .inl (cI, 400, .inl z.2.2.2.1)), (ma, .inl (cI, 20, .inl rm))]) (some (.int (j_celV (nI k) i R))) [(c0, .inr (3, [.ref s0, .ref m0, .int 0])), (m0, .inr (1, [.ref s0, .ref g0, .ref ra, .ref sa, .ref oa, .int (nI R.1.2.2.2.2), .ref ma, .int (nI R.2.2)])), (g0, .inr (0, [.int R.1.1.1, .int R.1.1.2.1, .long R.1.1.2.2.1, .long R.1.1.2.2.2.1, .long R.1.1.2.2.2.2])), (s0, .inr (2, [.ref xa, .ref ya, .int (nI n)])), (xa, .inl (cI, 20, .inl x)), (ya, .inl (cI, 20, .inl y)), (ra, .inl (cI, 105, .inl (fun j9 => nI (R.1.2.1 j9)))), (sa, .inl (cI, 36, .inl (fun j9 => nI (R.1.2.2.1 j9)))), (oa, .inl (cI, 400, .inl R.1.2.2.2.1)), (ma, .inl (cI, 20, .inl R.2.1))]) 0 0 (q_in [(c0, .inr (3, [.ref s0, .ref m0, .int st])), (m0, .inr (1, [.ref s0, .ref g0, .ref ra, .ref sa, .ref oa, .int (nI z.2.2.2.2), .ref ma, .int (nI rc)])), (g0, .inr (0, [.int z.1.1, .int z.1.2.1, .long z.1.2.2.1, .long z.1.2.2.2.1, .long z.1.2.2.2.2])), (s0, .inr (2, [.ref xa, .ref ya, .int (nI n)])), (xa, .inl (cI, 20, .inl x)), (ya, .inl (cI, 20, .inl y)), (ra, .inl (cI, 105, .inl (fun j9 => nI (z.2.1 j9)))), (sa, .inl (cI, 36, .inl (fun j9 => nI (z.2.2.1 j9)))), (oa, .inl (cI, 400, .inl z.2.2.2.1)), (ma, .inl (cI, 20, .inl rm))]) := by
  refine Met.ofW (cc := cX3_cell) (maxL := 4) (ret := (some .int)) (by decide) rfl ?_
  intro p e s m args below meth c s₁ B hml hv
  obtain ⟨rfl, hP, hK, hD0⟩ := hv
  have hx := B.exec
  have hb := B.bytes
  have hr := B.returns
  have hts := atoms_spec (ws := wsX3_cell) B.pre
  have hown : s.vm.findClass RX3 = some m.cls := findClass_of_methodNamed B.named
  have hlocks := B.notSynchronized
  have hD := q_inD hD0
  generalize hAe : q_in [(c0, .inr (3, [.ref s0, .ref m0, .int st])), (m0, .inr (1, [.ref s0, .ref g0, .ref ra, .ref sa, .ref oa, .int (nI z.2.2.2.2), .ref ma, .int (nI rc)])), (g0, .inr (0, [.int z.1.1, .int z.1.2.1, .long z.1.2.2.1, .long z.1.2.2.2.1, .long z.1.2.2.2.2])), (s0, .inr (2, [.ref xa, .ref ya, .int (nI n)])), (xa, .inl (cI, 20, .inl x)), (ya, .inl (cI, 20, .inl y)), (ra, .inl (cI, 105, .inl (fun j9 => nI (z.2.1 j9)))), (sa, .inl (cI, 36, .inl (fun j9 => nI (z.2.2.1 j9)))), (oa, .inl (cI, 400, .inl z.2.2.2.1)), (ma, .inl (cI, 20, .inl rm))] = A at hD ⊢
  have hS : va_S A s.heap s.heap [] := va_S.rf
  have hP : va_P (dC, dI) vwCl [(c0, .inr (3, [.ref s0, .ref m0, .int st])), (m0, .inr (1, [.ref s0, .ref g0, .ref ra, .ref sa, .ref oa, .int (nI z.2.2.2.2), .ref ma, .int (nI rc)])), (g0, .inr (0, [.int z.1.1, .int z.1.2.1, .long z.1.2.2.1, .long z.1.2.2.2.1, .long z.1.2.2.2.2])), (s0, .inr (2, [.ref xa, .ref ya, .int (nI n)])), (xa, .inl (cI, 20, .inl x)), (ya, .inl (cI, 20, .inl y)), (ra, .inl (cI, 105, .inl (fun j9 => nI (z.2.1 j9)))), (sa, .inl (cI, 36, .inl (fun j9 => nI (z.2.2.1 j9)))), (oa, .inl (cI, 400, .inl z.2.2.2.1)), (ma, .inl (cI, 20, .inl rm))] s.heap := hP
  have hl := lv_entry ([.ref c0, .int (nI k), .int i]) (n := 4) (Nat.le_of_ble_eq_true rfl)
  rw [lg_entry_eq]
  generalize (lg_sl ([.ref c0, .int (nI k), .int i]) ++ List.replicate (4 - (lg_sl ([.ref c0, .int (nI k), .int i])).length) Slot.unset).toArray = ls at hl ⊢
  have hl : lv_has ls 4 [(0, .ref c0), (1, .int (nI k)), (2, .int i)] := hl
  refine lv_aload_n hx hb dX3_cell_0 rfl (lv_at hl 0 rfl) ?_
  obtain ⟨r1, hr1⟩ : ∃ r : ((Int32 × Int32 × Int64 × Int64 × Int64) × (Nat → Nat) × (Nat → Nat) × (Nat → Int32) × Nat) × (Nat → Int32) × Nat, j_refr x y n st z rm rc = r := ⟨_, rfl⟩
  refine q_mV (wc' := [(c0, .inr (3, [.ref s0, .ref m0, .int 0])), (m0, .inr (1, [.ref s0, .ref g0, .ref ra, .ref sa, .ref oa, .int (nI r1.1.2.2.2.2), .ref ma, .int (nI r1.2.2)])), (g0, .inr (0, [.int r1.1.1.1, .int r1.1.1.2.1, .long r1.1.1.2.2.1, .long r1.1.1.2.2.2.1, .long r1.1.1.2.2.2.2])), (s0, .inr (2, [.ref xa, .ref ya, .int (nI n)])), (xa, .inl (cI, 20, .inl x)), (ya, .inl (cI, 20, .inl y)), (ra, .inl (cI, 105, .inl (fun j9 => nI (r1.1.2.1 j9)))), (sa, .inl (cI, 36, .inl (fun j9 => nI (r1.1.2.2.1 j9)))), (oa, .inl (cI, 400, .inl r1.1.2.2.2.1)), (ma, .inl (cI, 20, .inl r1.2.1))]) (wsN := [(c0, .inr (3, [.ref s0, .ref m0, .int 0])), (m0, .inr (1, [.ref s0, .ref g0, .ref ra, .ref sa, .ref oa, .int (nI r1.1.2.2.2.2), .ref ma, .int (nI r1.2.2)])), (g0, .inr (0, [.int r1.1.1.1, .int r1.1.1.2.1, .long r1.1.1.2.2.1, .long r1.1.1.2.2.2.1, .long r1.1.1.2.2.2.2])), (s0, .inr (2, [.ref xa, .ref ya, .int (nI n)])), (xa, .inl (cI, 20, .inl x)), (ya, .inl (cI, 20, .inl y)), (ra, .inl (cI, 105, .inl (fun j9 => nI (r1.1.2.1 j9)))), (sa, .inl (cI, 36, .inl (fun j9 => nI (r1.1.2.2.1 j9)))), (oa, .inl (cI, 400, .inl r1.1.2.2.2.1)), (ma, .inl (cI, 20, .inl r1.2.1))]) (As := []) (rest := []) ⟨hx, hb, hml, hown, hts⟩ (c_X3_refresh l dC dI c0 m0 s0 g0 ra sa oa ma xa ya cI x y st (by omega) rm rc n (by omega) lr ls0 r1 hr1) (cwV 0 hts gX3_cell_X3_refresh rfl rfl rfl (by decide +kernel) ⟨Nat.le_of_ble_eq_true rfl, Nat.le_of_ble_eq_true rfl⟩) hK hP hD hS [0, 1, 2, 3, 4, 5, 6, 7, 8, 9] [0] 3 0 rfl rfl rfl rfl rfl rfl rfl rfl rfl hl.1 rfl (Nat.le_of_ble_eq_true rfl) ⟨Nat.zero_le _, Nat.zero_le _⟩ dX3_cell_1 rfl (fun H locs hP hD hS => ?_)
  refine W.eq (g2 := F0 m 4 ls []) rfl ?_
  rw [hr1] at hR hst lk hi
  subst hR
  have hk9 := hst.2.2.1 k lk
  have hq9 := hst.2.1
  refine lv_aload_n hx hb dX3_cell_4 rfl (lv_at hl 0 rfl) ?_
  refine lv_iload_n hx hb dX3_cell_5 rfl (lv_at hl 1 rfl) ?_
  refine q_mV (wc' := [(c0, .inr (3, [.ref s0, .ref m0, .int 0])), (m0, .inr (1, [.ref s0, .ref g0, .ref ra, .ref sa, .ref oa, .int (nI r1.1.2.2.2.2), .ref ma, .int (nI r1.2.2)]))]) (wsN := [(c0, .inr (3, [.ref s0, .ref m0, .int 0])), (m0, .inr (1, [.ref s0, .ref g0, .ref ra, .ref sa, .ref oa, .int (nI r1.1.2.2.2.2), .ref ma, .int (nI r1.2.2)])), (g0, .inr (0, [.int r1.1.1.1, .int r1.1.1.2.1, .long r1.1.1.2.2.1, .long r1.1.1.2.2.2.1, .long r1.1.1.2.2.2.2])), (s0, .inr (2, [.ref xa, .ref ya, .int (nI n)])), (xa, .inl (cI, 20, .inl x)), (ya, .inl (cI, 20, .inl y)), (ra, .inl (cI, 105, .inl (fun j9 => nI (r1.1.2.1 j9)))), (sa, .inl (cI, 36, .inl (fun j9 => nI (r1.1.2.2.1 j9)))), (oa, .inl (cI, 400, .inl r1.1.2.2.2.1)), (ma, .inl (cI, 20, .inl r1.2.1))]) (As := [.int (nI k)]) (rest := []) ⟨hx, hb, hml, hown, hts⟩ (c_X3_requireCell l dC dI c0 m0 s0 g0 ra sa oa ma 0 (nI r1.2.2) r1.1.2.2.2.2 (nI k) (r_out_k lk (by omega))) (cwV 1 hts gX3_cell_X3_requireCell rfl rfl rfl (by decide +kernel) ⟨Nat.le_of_ble_eq_true rfl, Nat.le_of_ble_eq_true rfl⟩) hK hP hD hS [0, 1] [] 3 0 rfl rfl rfl rfl rfl rfl rfl rfl rfl hl.1 rfl (Nat.le_of_ble_eq_true rfl) ⟨Nat.zero_le _, Nat.zero_le _⟩ dX3_cell_6 rfl (fun H locs hP hD hS => ?_)
  refine W.eq (g2 := F0 m 9 ls []) rfl ?_
  refine lv_aload_n hx hb dX3_cell_9 rfl (lv_at hl 0 rfl) ?_
  refine va_get (D := (dC, dI)) (ci := 3) (v := .ref m0) (C := RX3) (T := TX3) (N := 3) hx hb hts (by decide +kernel) hown hK hP 0 rfl rfl 1 (by decide) (hts (.fieldLink RX3 21 "CircleCells" "mosaic" "LCircleCells$Mosaic;") (by decide +kernel)) (fun _ h9 => h9) rfl dX3_cell_10 ?_
  refine lv_iload_n hx hb dX3_cell_13 rfl (lv_at hl 1 rfl) ?_
  refine q_cV (As := [.int (nI k)]) (rest := []) ⟨hx, hb, hml, hown, hts⟩ (c_X1_sideCount l dC dI m0 s0 g0 ra sa oa ma cI (nI r1.1.2.2.2.2) (nI r1.2.2) r1.1.2.2.1 k (by omega) (by omega)) (cwV 1 hts gX3_cell_X1_sideCount rfl rfl rfl (by decide +kernel) ⟨Nat.le_of_ble_eq_true rfl, Nat.le_of_ble_eq_true rfl⟩) (q_pV hK hP [1, 7] [0] 1 1 rfl rfl rfl rfl rfl rfl) rfl hl.1 rfl (Nat.le_of_ble_eq_true rfl) ⟨Nat.zero_le _, Nat.zero_le _⟩ dX3_cell_14 ?_
  refine lv_istore_n (lv' := [(3, .int (nI (r1.1.2.2.1 (k + 1) - r1.1.2.2.1 k))), (0, .ref c0), (1, .int (nI k)), (2, .int i)]) hx hb dX3_cell_17 rfl hl (by decide) rfl (fun ls hl => ?_)
  refine lv_iload_n hx hb dX3_cell_18 rfl (lv_at hl 3 rfl) ?_
  refine lv_iconst (v := (-1)) hx hb dX3_cell_19 (by decide) ?_
  refine lv_icmp_ne (tgt := 25) hx hb dX3_cell_20 (by decide) (fun c20 => ?_) (fun c20 => ?_)
  · have hi := hi.resolve_left c20
    rw [j_celV, if_neg c20, nI_clamp (by omega)]
    obtain ⟨t, ht, rfl⟩ := r_out_f (by omega) hi
    rw [nI_clamp (by omega)]
    refine lv_iload_n hx hb dX3_cell_25 rfl (lv_at hl 3 rfl) ?_
    refine lv_iload_n hx hb dX3_cell_26 rfl (lv_at hl 0 rfl) ?_
    refine q_mS (wc' := []) (wsN := [(c0, .inr (3, [.ref s0, .ref m0, .int 0])), (m0, .inr (1, [.ref s0, .ref g0, .ref ra, .ref sa, .ref oa, .int (nI r1.1.2.2.2.2), .ref ma, .int (nI r1.2.2)])), (g0, .inr (0, [.int r1.1.1.1, .int r1.1.1.2.1, .long r1.1.1.2.2.1, .long r1.1.1.2.2.2.1, .long r1.1.1.2.2.2.2])), (s0, .inr (2, [.ref xa, .ref ya, .int (nI n)])), (xa, .inl (cI, 20, .inl x)), (ya, .inl (cI, 20, .inl y)), (ra, .inl (cI, 105, .inl (fun j9 => nI (r1.1.2.1 j9)))), (sa, .inl (cI, 36, .inl (fun j9 => nI (r1.1.2.2.1 j9)))), (oa, .inl (cI, 400, .inl r1.1.2.2.2.1)), (ma, .inl (cI, 20, .inl r1.2.1))]) (As := [.int (nI t), .int (nI (r1.1.2.2.1 (k + 1) - r1.1.2.2.1 k))]) (rest := []) ⟨hx, hb, hml, hown, hts⟩ (c_X3_requireIndex l dC dI (nI t) (nI (r1.1.2.2.1 (k + 1) - r1.1.2.2.1 k)) hi) (va_cwS 2 hts gX3_cell_X3_requireIndex rfl rfl rfl (by decide +kernel) ⟨Nat.le_of_ble_eq_true rfl, Nat.le_of_ble_eq_true rfl⟩) hK hP hD hS [] [] rfl rfl rfl rfl rfl rfl hl.1 rfl (Nat.le_of_ble_eq_true rfl) ⟨Nat.zero_le _, Nat.zero_le _⟩ dX3_cell_27 rfl (fun H locs hP hD hS => ?_)
    refine W.eq (g2 := F0 m 30 ls []) rfl ?_
    refine lv_aload_n hx hb dX3_cell_30 rfl (lv_at hl 1 rfl) ?_
    refine va_get (D := (dC, dI)) (ci := 3) (v := .ref m0) (C := RX3) (T := TX3) (N := 3) hx hb hts (by decide +kernel) hown hK hP 0 rfl rfl 1 (by decide) (hts (.fieldLink RX3 21 "CircleCells" "mosaic" "LCircleCells$Mosaic;") (by decide +kernel)) (fun _ h9 => h9) rfl dX3_cell_31 ?_
    refine lv_iload_n hx hb dX3_cell_34 rfl (lv_at hl 2 rfl) ?_
    refine lv_iload_n hx hb dX3_cell_35 rfl (lv_at hl 3 rfl) ?_
    refine q_cV (As := [.int (nI k), .int (nI t)]) (rest := []) ⟨hx, hb, hml, hown, hts⟩ (c_X1_siteOf l dC dI m0 s0 g0 ra sa oa ma cI (nI r1.1.2.2.2.2) (nI r1.2.2) r1.1.2.1 r1.1.2.2.1 k t (by omega) (by omega)) (cwV 2 hts gX3_cell_X1_siteOf rfl rfl rfl (by decide +kernel) ⟨Nat.le_of_ble_eq_true rfl, Nat.le_of_ble_eq_true rfl⟩) (q_pV hK hP [1, 6, 7] [0] 1 1 rfl rfl rfl rfl rfl rfl) rfl hl.1 rfl (Nat.le_of_ble_eq_true rfl) ⟨Nat.zero_le _, Nat.zero_le _⟩ dX3_cell_36 ?_
    exact W.iret (v := nI (r1.1.2.1 (r1.1.2.2.1 k + t))) hx hb hr (q_retm hP hS) hS.2.2 dX3_cell_39
  · rw [j_celV, if_pos c20, nI_clamp (by omega)]
    refine lv_iload_n hx hb dX3_cell_23 rfl (lv_at hl 0 rfl) ?_
    exact W.iret (v := nI (r1.1.2.2.1 (k + 1) - r1.1.2.2.1 k)) hx hb hr (q_retm hP hS) hS.2.2 dX3_cell_24
set_option maxHeartbeats 4000000 in
set_option maxRecDepth 100000 in
theorem t1_X3_cell (l : Launch) (hst9 : l.stackTraces = false) (dC : Nat → ClassId) (dI : Nat → Nat → Nat) (c0 m0 s0 g0 ra sa oa ma xa ya : Nat) (cI : ClassId) (x y : Nat → Int32) (st : Int32) (z : (Int32 × Int32 × Int64 × Int64 × Int64) × (Nat → Nat) × (Nat → Nat) × (Nat → Int32) × Nat) (rm : Nat → Int32) (rc n : Nat) (w i : Int32) (ln : n ≤ 20) (lr : ∀ j, z.2.1 j < 20) (ls0 : z.2.2.1 0 = 0) (hf : r_out w (nI (j_refr x y n st z rm rc).1.2.2.2.2) = true) (R : ((Int32 × Int32 × Int64 × Int64 × Int64) × (Nat → Nat) × (Nat → Nat) × (Nat → Int32) × Nat) × (Nat → Int32) × Nat) (hR : j_refr x y n st z rm rc = R) : vx_Met l yX3_cell wsX3_cell ({ frames := 7, cells := 1, slots := 6, locals := 137 }) (q_Px (dC, dI) [.ref c0, .int w, .int i] [(c0, .inr (3, [.ref s0, .ref m0, .int st])), (m0, .inr (1, [.ref s0, .ref g0, .ref ra, .ref sa, .ref oa, .int (nI z.2.2.2.2), .ref ma, .int (nI rc)])), (g0, .inr (0, [.int z.1.1, .int z.1.2.1, .long z.1.2.2.1, .long z.1.2.2.2.1, .long z.1.2.2.2.2])), (s0, .inr (2, [.ref xa, .ref ya, .int (nI n)])), (xa, .inl (cI, 20, .inl x)), (ya, .inl (cI, 20, .inl y)), (ra, .inl (cI, 105, .inl (fun j9 => nI (z.2.1 j9)))), (sa, .inl (cI, 36, .inl (fun j9 => nI (z.2.2.1 j9)))), (oa, .inl (cI, 400, .inl z.2.2.2.1)), (ma, .inl (cI, 20, .inl rm))] [(cI, .int)]) q_no (q_XX (dC, dI) (q_in [(c0, .inr (3, [.ref s0, .ref m0, .int st])), (m0, .inr (1, [.ref s0, .ref g0, .ref ra, .ref sa, .ref oa, .int (nI z.2.2.2.2), .ref ma, .int (nI rc)])), (g0, .inr (0, [.int z.1.1, .int z.1.2.1, .long z.1.2.2.1, .long z.1.2.2.2.1, .long z.1.2.2.2.2])), (s0, .inr (2, [.ref xa, .ref ya, .int (nI n)])), (xa, .inl (cI, 20, .inl x)), (ya, .inl (cI, 20, .inl y)), (ra, .inl (cI, 105, .inl (fun j9 => nI (z.2.1 j9)))), (sa, .inl (cI, 36, .inl (fun j9 => nI (z.2.2.1 j9)))), (oa, .inl (cI, 400, .inl z.2.2.2.1)), (ma, .inl (cI, 20, .inl rm))]) q_NE [(c0, .inr (3, [.ref s0, .ref m0, .int 0])), (m0, .inr (1, [.ref s0, .ref g0, .ref ra, .ref sa, .ref oa, .int (nI R.1.2.2.2.2), .ref ma, .int (nI R.2.2)])), (g0, .inr (0, [.int R.1.1.1, .int R.1.1.2.1, .long R.1.1.2.2.1, .long R.1.1.2.2.2.1, .long R.1.1.2.2.2.2])), (s0, .inr (2, [.ref xa, .ref ya, .int (nI n)])), (xa, .inl (cI, 20, .inl x)), (ya, .inl (cI, 20, .inl y)), (ra, .inl (cI, 105, .inl (fun j9 => nI (R.1.2.1 j9)))), (sa, .inl (cI, 36, .inl (fun j9 => nI (R.1.2.2.1 j9)))), (oa, .inl (cI, 400, .inl R.1.2.2.2.1)), (ma, .inl (cI, 20, .inl R.2.1))]) 1 6 (q_in [(c0, .inr (3, [.ref s0, .ref m0, .int st])), (m0, .inr (1, [.ref s0, .ref g0, .ref ra, .ref sa, .ref oa, .int (nI z.2.2.2.2), .ref ma, .int (nI rc)])), (g0, .inr (0, [.int z.1.1, .int z.1.2.1, .long z.1.2.2.1, .long z.1.2.2.2.1, .long z.1.2.2.2.2])), (s0, .inr (2, [.ref xa, .ref ya, .int (nI n)])), (xa, .inl (cI, 20, .inl x)), (ya, .inl (cI, 20, .inl y)), (ra, .inl (cI, 105, .inl (fun j9 => nI (z.2.1 j9)))), (sa, .inl (cI, 36, .inl (fun j9 => nI (z.2.2.1 j9)))), (oa, .inl (cI, 400, .inl z.2.2.2.1)), (ma, .inl (cI, 20, .inl rm))]) := by
  refine vx_ofW (cc := cX3_cell) (maxL := 4) (ret := (some .int)) (by decide) rfl ?_
  intro p e s m args below meth c s₁ B hml hout hv
  obtain ⟨rfl, hP, hK, hD0, hE⟩ := hv
  have hx := B.exec
  have hb := B.bytes
  have hr := B.returns
  have hts := atoms_spec (ws := wsX3_cell) B.pre
  have hown : s.vm.findClass RX3 = some m.cls := findClass_of_methodNamed B.named
  have hlocks := B.notSynchronized
  have hD := q_inD hD0
  generalize hAe : q_in [(c0, .inr (3, [.ref s0, .ref m0, .int st])), (m0, .inr (1, [.ref s0, .ref g0, .ref ra, .ref sa, .ref oa, .int (nI z.2.2.2.2), .ref ma, .int (nI rc)])), (g0, .inr (0, [.int z.1.1, .int z.1.2.1, .long z.1.2.2.1, .long z.1.2.2.2.1, .long z.1.2.2.2.2])), (s0, .inr (2, [.ref xa, .ref ya, .int (nI n)])), (xa, .inl (cI, 20, .inl x)), (ya, .inl (cI, 20, .inl y)), (ra, .inl (cI, 105, .inl (fun j9 => nI (z.2.1 j9)))), (sa, .inl (cI, 36, .inl (fun j9 => nI (z.2.2.1 j9)))), (oa, .inl (cI, 400, .inl z.2.2.2.1)), (ma, .inl (cI, 20, .inl rm))] = A at hD hE ⊢
  have hS : va_S A s.heap s.heap [] := va_S.rf
  have hP : va_P (dC, dI) vwCl [(c0, .inr (3, [.ref s0, .ref m0, .int st])), (m0, .inr (1, [.ref s0, .ref g0, .ref ra, .ref sa, .ref oa, .int (nI z.2.2.2.2), .ref ma, .int (nI rc)])), (g0, .inr (0, [.int z.1.1, .int z.1.2.1, .long z.1.2.2.1, .long z.1.2.2.2.1, .long z.1.2.2.2.2])), (s0, .inr (2, [.ref xa, .ref ya, .int (nI n)])), (xa, .inl (cI, 20, .inl x)), (ya, .inl (cI, 20, .inl y)), (ra, .inl (cI, 105, .inl (fun j9 => nI (z.2.1 j9)))), (sa, .inl (cI, 36, .inl (fun j9 => nI (z.2.2.1 j9)))), (oa, .inl (cI, 400, .inl z.2.2.2.1)), (ma, .inl (cI, 20, .inl rm))] s.heap := hP
  have hl := lv_entry ([.ref c0, .int w, .int i]) (n := 4) (Nat.le_of_ble_eq_true rfl)
  rw [lg_entry_eq]
  generalize (lg_sl ([.ref c0, .int w, .int i]) ++ List.replicate (4 - (lg_sl ([.ref c0, .int w, .int i])).length) Slot.unset).toArray = ls at hl ⊢
  have hl : lv_has ls 4 [(0, .ref c0), (1, .int w), (2, .int i)] := hl
  refine lv_aload_n hx hb dX3_cell_0 rfl (lv_at hl 0 rfl) ?_
  obtain ⟨r1, hr1⟩ : ∃ r : ((Int32 × Int32 × Int64 × Int64 × Int64) × (Nat → Nat) × (Nat → Nat) × (Nat → Int32) × Nat) × (Nat → Int32) × Nat, j_refr x y n st z rm rc = r := ⟨_, rfl⟩
  refine q_mV (wc' := [(c0, .inr (3, [.ref s0, .ref m0, .int 0])), (m0, .inr (1, [.ref s0, .ref g0, .ref ra, .ref sa, .ref oa, .int (nI r1.1.2.2.2.2), .ref ma, .int (nI r1.2.2)])), (g0, .inr (0, [.int r1.1.1.1, .int r1.1.1.2.1, .long r1.1.1.2.2.1, .long r1.1.1.2.2.2.1, .long r1.1.1.2.2.2.2])), (s0, .inr (2, [.ref xa, .ref ya, .int (nI n)])), (xa, .inl (cI, 20, .inl x)), (ya, .inl (cI, 20, .inl y)), (ra, .inl (cI, 105, .inl (fun j9 => nI (r1.1.2.1 j9)))), (sa, .inl (cI, 36, .inl (fun j9 => nI (r1.1.2.2.1 j9)))), (oa, .inl (cI, 400, .inl r1.1.2.2.2.1)), (ma, .inl (cI, 20, .inl r1.2.1))]) (wsN := [(c0, .inr (3, [.ref s0, .ref m0, .int 0])), (m0, .inr (1, [.ref s0, .ref g0, .ref ra, .ref sa, .ref oa, .int (nI r1.1.2.2.2.2), .ref ma, .int (nI r1.2.2)])), (g0, .inr (0, [.int r1.1.1.1, .int r1.1.1.2.1, .long r1.1.1.2.2.1, .long r1.1.1.2.2.2.1, .long r1.1.1.2.2.2.2])), (s0, .inr (2, [.ref xa, .ref ya, .int (nI n)])), (xa, .inl (cI, 20, .inl x)), (ya, .inl (cI, 20, .inl y)), (ra, .inl (cI, 105, .inl (fun j9 => nI (r1.1.2.1 j9)))), (sa, .inl (cI, 36, .inl (fun j9 => nI (r1.1.2.2.1 j9)))), (oa, .inl (cI, 400, .inl r1.1.2.2.2.1)), (ma, .inl (cI, 20, .inl r1.2.1))]) (As := []) (rest := []) ⟨hx, hb, hml, hown, hts⟩ (c_X3_refresh l dC dI c0 m0 s0 g0 ra sa oa ma xa ya cI x y st (by omega) rm rc n (by omega) lr ls0 r1 hr1) (cwV 0 hts gX3_cell_X3_refresh rfl rfl rfl (by decide +kernel) ⟨Nat.le_of_ble_eq_true rfl, Nat.le_of_ble_eq_true rfl⟩) hK hP hD hS [0, 1, 2, 3, 4, 5, 6, 7, 8, 9] [0] 3 0 rfl rfl rfl rfl rfl rfl rfl rfl rfl hl.1 rfl (Nat.le_of_ble_eq_true rfl) ⟨Nat.zero_le _, Nat.zero_le _⟩ dX3_cell_1 rfl (fun H locs hP hD hS => ?_)
  refine W.eq (g2 := F0 m 4 ls []) rfl ?_
  rw [hr1] at hR hf
  subst hR
  refine lv_aload_n hx hb dX3_cell_4 rfl (lv_at hl 0 rfl) ?_
  refine lv_iload_n hx hb dX3_cell_5 rfl (lv_at hl 1 rfl) ?_
  refine q_tV (en := q_NE) (wc' := [(c0, .inr (3, [.ref s0, .ref m0, .int 0])), (m0, .inr (1, [.ref s0, .ref g0, .ref ra, .ref sa, .ref oa, .int (nI r1.1.2.2.2.2), .ref ma, .int (nI r1.2.2)]))]) (wsN := [(c0, .inr (3, [.ref s0, .ref m0, .int 0])), (m0, .inr (1, [.ref s0, .ref g0, .ref ra, .ref sa, .ref oa, .int (nI r1.1.2.2.2.2), .ref ma, .int (nI r1.2.2)])), (g0, .inr (0, [.int r1.1.1.1, .int r1.1.1.2.1, .long r1.1.1.2.2.1, .long r1.1.1.2.2.2.1, .long r1.1.1.2.2.2.2])), (s0, .inr (2, [.ref xa, .ref ya, .int (nI n)])), (xa, .inl (cI, 20, .inl x)), (ya, .inl (cI, 20, .inl y)), (ra, .inl (cI, 105, .inl (fun j9 => nI (r1.1.2.1 j9)))), (sa, .inl (cI, 36, .inl (fun j9 => nI (r1.1.2.2.1 j9)))), (oa, .inl (cI, 400, .inl r1.1.2.2.2.1)), (ma, .inl (cI, 20, .inl r1.2.1))]) (As := [.int w]) (rest := []) ⟨hx, hb, hml, hown, hts⟩ (t1_X3_requireCell l hst9 dC dI c0 m0 s0 g0 ra sa oa ma 0 (nI r1.2.2) r1.1.2.2.2.2 w hf) (cwV 1 hts gX3_cell_X3_requireCell rfl rfl rfl (by decide +kernel) ⟨Nat.le_of_ble_eq_true rfl, Nat.le_of_ble_eq_true rfl⟩) hE hK hP hD hS [0, 1] [] 3 0 rfl rfl rfl rfl rfl rfl rfl rfl rfl hl.1 rfl (Nat.le_of_ble_eq_true rfl) ⟨Nat.le_of_ble_eq_true rfl, Nat.le_of_ble_eq_true rfl⟩ dX3_cell_6 rfl (fun H locs q9 ce hP hD hS hq9 hcv hcl => ?_)
  exact q_tout hP hS hq9 hcv hcl hout hlocks
set_option maxHeartbeats 4000000 in
set_option maxRecDepth 100000 in
theorem t2_X3_cell (l : Launch) (hst9 : l.stackTraces = false) (dC : Nat → ClassId) (dI : Nat → Nat → Nat) (c0 m0 s0 g0 ra sa oa ma xa ya : Nat) (cI : ClassId) (x y : Nat → Int32) (st : Int32) (z : (Int32 × Int32 × Int64 × Int64 × Int64) × (Nat → Nat) × (Nat → Nat) × (Nat → Int32) × Nat) (rm : Nat → Int32) (rc n : Nat) (k : Nat) (i : Int32) (ln : n ≤ 20) (lr : ∀ j, z.2.1 j < 20) (ls0 : z.2.2.1 0 = 0) (hst : j_st (j_refr x y n st z rm rc)) (lk : k < (j_refr x y n st z rm rc).1.2.2.2.2) (hi1 : ¬ i = -1) (hi : r_out i (nI ((j_refr x y n st z rm rc).1.2.2.1 (k + 1) - (j_refr x y n st z rm rc).1.2.2.1 k)) = true) (R : ((Int32 × Int32 × Int64 × Int64 × Int64) × (Nat → Nat) × (Nat → Nat) × (Nat → Int32) × Nat) × (Nat → Int32) × Nat) (hR : j_refr x y n st z rm rc = R) : vx_Met l yX3_cell wsX3_cell ({ frames := 7, cells := 1, slots := 6, locals := 137 }) (q_Px (dC, dI) [.ref c0, .int (nI k), .int i] [(c0, .inr (3, [.ref s0, .ref m0, .int st])), (m0, .inr (1, [.ref s0, .ref g0, .ref ra, .ref sa, .ref oa, .int (nI z.2.2.2.2), .ref ma, .int (nI rc)])), (g0, .inr (0, [.int z.1.1, .int z.1.2.1, .long z.1.2.2.1, .long z.1.2.2.2.1, .long z.1.2.2.2.2])), (s0, .inr (2, [.ref xa, .ref ya, .int (nI n)])), (xa, .inl (cI, 20, .inl x)), (ya, .inl (cI, 20, .inl y)), (ra, .inl (cI, 105, .inl (fun j9 => nI (z.2.1 j9)))), (sa, .inl (cI, 36, .inl (fun j9 => nI (z.2.2.1 j9)))), (oa, .inl (cI, 400, .inl z.2.2.2.1)), (ma, .inl (cI, 20, .inl rm))] [(cI, .int)]) q_no (q_XX (dC, dI) (q_in [(c0, .inr (3, [.ref s0, .ref m0, .int st])), (m0, .inr (1, [.ref s0, .ref g0, .ref ra, .ref sa, .ref oa, .int (nI z.2.2.2.2), .ref ma, .int (nI rc)])), (g0, .inr (0, [.int z.1.1, .int z.1.2.1, .long z.1.2.2.1, .long z.1.2.2.2.1, .long z.1.2.2.2.2])), (s0, .inr (2, [.ref xa, .ref ya, .int (nI n)])), (xa, .inl (cI, 20, .inl x)), (ya, .inl (cI, 20, .inl y)), (ra, .inl (cI, 105, .inl (fun j9 => nI (z.2.1 j9)))), (sa, .inl (cI, 36, .inl (fun j9 => nI (z.2.2.1 j9)))), (oa, .inl (cI, 400, .inl z.2.2.2.1)), (ma, .inl (cI, 20, .inl rm))]) q_IO [(c0, .inr (3, [.ref s0, .ref m0, .int 0])), (m0, .inr (1, [.ref s0, .ref g0, .ref ra, .ref sa, .ref oa, .int (nI R.1.2.2.2.2), .ref ma, .int (nI R.2.2)])), (g0, .inr (0, [.int R.1.1.1, .int R.1.1.2.1, .long R.1.1.2.2.1, .long R.1.1.2.2.2.1, .long R.1.1.2.2.2.2])), (s0, .inr (2, [.ref xa, .ref ya, .int (nI n)])), (xa, .inl (cI, 20, .inl x)), (ya, .inl (cI, 20, .inl y)), (ra, .inl (cI, 105, .inl (fun j9 => nI (R.1.2.1 j9)))), (sa, .inl (cI, 36, .inl (fun j9 => nI (R.1.2.2.1 j9)))), (oa, .inl (cI, 400, .inl R.1.2.2.2.1)), (ma, .inl (cI, 20, .inl R.2.1))]) 1 6 (q_in [(c0, .inr (3, [.ref s0, .ref m0, .int st])), (m0, .inr (1, [.ref s0, .ref g0, .ref ra, .ref sa, .ref oa, .int (nI z.2.2.2.2), .ref ma, .int (nI rc)])), (g0, .inr (0, [.int z.1.1, .int z.1.2.1, .long z.1.2.2.1, .long z.1.2.2.2.1, .long z.1.2.2.2.2])), (s0, .inr (2, [.ref xa, .ref ya, .int (nI n)])), (xa, .inl (cI, 20, .inl x)), (ya, .inl (cI, 20, .inl y)), (ra, .inl (cI, 105, .inl (fun j9 => nI (z.2.1 j9)))), (sa, .inl (cI, 36, .inl (fun j9 => nI (z.2.2.1 j9)))), (oa, .inl (cI, 400, .inl z.2.2.2.1)), (ma, .inl (cI, 20, .inl rm))]) := by
  refine vx_ofW (cc := cX3_cell) (maxL := 4) (ret := (some .int)) (by decide) rfl ?_
  intro p e s m args below meth c s₁ B hml hout hv
  obtain ⟨rfl, hP, hK, hD0, hE⟩ := hv
  have hx := B.exec
  have hb := B.bytes
  have hr := B.returns
  have hts := atoms_spec (ws := wsX3_cell) B.pre
  have hown : s.vm.findClass RX3 = some m.cls := findClass_of_methodNamed B.named
  have hlocks := B.notSynchronized
  have hD := q_inD hD0
  generalize hAe : q_in [(c0, .inr (3, [.ref s0, .ref m0, .int st])), (m0, .inr (1, [.ref s0, .ref g0, .ref ra, .ref sa, .ref oa, .int (nI z.2.2.2.2), .ref ma, .int (nI rc)])), (g0, .inr (0, [.int z.1.1, .int z.1.2.1, .long z.1.2.2.1, .long z.1.2.2.2.1, .long z.1.2.2.2.2])), (s0, .inr (2, [.ref xa, .ref ya, .int (nI n)])), (xa, .inl (cI, 20, .inl x)), (ya, .inl (cI, 20, .inl y)), (ra, .inl (cI, 105, .inl (fun j9 => nI (z.2.1 j9)))), (sa, .inl (cI, 36, .inl (fun j9 => nI (z.2.2.1 j9)))), (oa, .inl (cI, 400, .inl z.2.2.2.1)), (ma, .inl (cI, 20, .inl rm))] = A at hD hE ⊢
  have hS : va_S A s.heap s.heap [] := va_S.rf
  have hP : va_P (dC, dI) vwCl [(c0, .inr (3, [.ref s0, .ref m0, .int st])), (m0, .inr (1, [.ref s0, .ref g0, .ref ra, .ref sa, .ref oa, .int (nI z.2.2.2.2), .ref ma, .int (nI rc)])), (g0, .inr (0, [.int z.1.1, .int z.1.2.1, .long z.1.2.2.1, .long z.1.2.2.2.1, .long z.1.2.2.2.2])), (s0, .inr (2, [.ref xa, .ref ya, .int (nI n)])), (xa, .inl (cI, 20, .inl x)), (ya, .inl (cI, 20, .inl y)), (ra, .inl (cI, 105, .inl (fun j9 => nI (z.2.1 j9)))), (sa, .inl (cI, 36, .inl (fun j9 => nI (z.2.2.1 j9)))), (oa, .inl (cI, 400, .inl z.2.2.2.1)), (ma, .inl (cI, 20, .inl rm))] s.heap := hP
  have hl := lv_entry ([.ref c0, .int (nI k), .int i]) (n := 4) (Nat.le_of_ble_eq_true rfl)
  rw [lg_entry_eq]
  generalize (lg_sl ([.ref c0, .int (nI k), .int i]) ++ List.replicate (4 - (lg_sl ([.ref c0, .int (nI k), .int i])).length) Slot.unset).toArray = ls at hl ⊢
  have hl : lv_has ls 4 [(0, .ref c0), (1, .int (nI k)), (2, .int i)] := hl
  refine lv_aload_n hx hb dX3_cell_0 rfl (lv_at hl 0 rfl) ?_
  obtain ⟨r1, hr1⟩ : ∃ r : ((Int32 × Int32 × Int64 × Int64 × Int64) × (Nat → Nat) × (Nat → Nat) × (Nat → Int32) × Nat) × (Nat → Int32) × Nat, j_refr x y n st z rm rc = r := ⟨_, rfl⟩
  refine q_mV (wc' := [(c0, .inr (3, [.ref s0, .ref m0, .int 0])), (m0, .inr (1, [.ref s0, .ref g0, .ref ra, .ref sa, .ref oa, .int (nI r1.1.2.2.2.2), .ref ma, .int (nI r1.2.2)])), (g0, .inr (0, [.int r1.1.1.1, .int r1.1.1.2.1, .long r1.1.1.2.2.1, .long r1.1.1.2.2.2.1, .long r1.1.1.2.2.2.2])), (s0, .inr (2, [.ref xa, .ref ya, .int (nI n)])), (xa, .inl (cI, 20, .inl x)), (ya, .inl (cI, 20, .inl y)), (ra, .inl (cI, 105, .inl (fun j9 => nI (r1.1.2.1 j9)))), (sa, .inl (cI, 36, .inl (fun j9 => nI (r1.1.2.2.1 j9)))), (oa, .inl (cI, 400, .inl r1.1.2.2.2.1)), (ma, .inl (cI, 20, .inl r1.2.1))]) (wsN := [(c0, .inr (3, [.ref s0, .ref m0, .int 0])), (m0, .inr (1, [.ref s0, .ref g0, .ref ra, .ref sa, .ref oa, .int (nI r1.1.2.2.2.2), .ref ma, .int (nI r1.2.2)])), (g0, .inr (0, [.int r1.1.1.1, .int r1.1.1.2.1, .long r1.1.1.2.2.1, .long r1.1.1.2.2.2.1, .long r1.1.1.2.2.2.2])), (s0, .inr (2, [.ref xa, .ref ya, .int (nI n)])), (xa, .inl (cI, 20, .inl x)), (ya, .inl (cI, 20, .inl y)), (ra, .inl (cI, 105, .inl (fun j9 => nI (r1.1.2.1 j9)))), (sa, .inl (cI, 36, .inl (fun j9 => nI (r1.1.2.2.1 j9)))), (oa, .inl (cI, 400, .inl r1.1.2.2.2.1)), (ma, .inl (cI, 20, .inl r1.2.1))]) (As := []) (rest := []) ⟨hx, hb, hml, hown, hts⟩ (c_X3_refresh l dC dI c0 m0 s0 g0 ra sa oa ma xa ya cI x y st (by omega) rm rc n (by omega) lr ls0 r1 hr1) (cwV 0 hts gX3_cell_X3_refresh rfl rfl rfl (by decide +kernel) ⟨Nat.le_of_ble_eq_true rfl, Nat.le_of_ble_eq_true rfl⟩) hK hP hD hS [0, 1, 2, 3, 4, 5, 6, 7, 8, 9] [0] 3 0 rfl rfl rfl rfl rfl rfl rfl rfl rfl hl.1 rfl (Nat.le_of_ble_eq_true rfl) ⟨Nat.zero_le _, Nat.zero_le _⟩ dX3_cell_1 rfl (fun H locs hP hD hS => ?_)
  refine W.eq (g2 := F0 m 4 ls []) rfl ?_
  rw [hr1] at hR hst lk hi
  subst hR
  have hk9 := hst.2.2.1 k lk
  have hq9 := hst.2.1
  refine lv_aload_n hx hb dX3_cell_4 rfl (lv_at hl 0 rfl) ?_
  refine lv_iload_n hx hb dX3_cell_5 rfl (lv_at hl 1 rfl) ?_
  refine q_mV (wc' := [(c0, .inr (3, [.ref s0, .ref m0, .int 0])), (m0, .inr (1, [.ref s0, .ref g0, .ref ra, .ref sa, .ref oa, .int (nI r1.1.2.2.2.2), .ref ma, .int (nI r1.2.2)]))]) (wsN := [(c0, .inr (3, [.ref s0, .ref m0, .int 0])), (m0, .inr (1, [.ref s0, .ref g0, .ref ra, .ref sa, .ref oa, .int (nI r1.1.2.2.2.2), .ref ma, .int (nI r1.2.2)])), (g0, .inr (0, [.int r1.1.1.1, .int r1.1.1.2.1, .long r1.1.1.2.2.1, .long r1.1.1.2.2.2.1, .long r1.1.1.2.2.2.2])), (s0, .inr (2, [.ref xa, .ref ya, .int (nI n)])), (xa, .inl (cI, 20, .inl x)), (ya, .inl (cI, 20, .inl y)), (ra, .inl (cI, 105, .inl (fun j9 => nI (r1.1.2.1 j9)))), (sa, .inl (cI, 36, .inl (fun j9 => nI (r1.1.2.2.1 j9)))), (oa, .inl (cI, 400, .inl r1.1.2.2.2.1)), (ma, .inl (cI, 20, .inl r1.2.1))]) (As := [.int (nI k)]) (rest := []) ⟨hx, hb, hml, hown, hts⟩ (c_X3_requireCell l dC dI c0 m0 s0 g0 ra sa oa ma 0 (nI r1.2.2) r1.1.2.2.2.2 (nI k) (r_out_k lk (by omega))) (cwV 1 hts gX3_cell_X3_requireCell rfl rfl rfl (by decide +kernel) ⟨Nat.le_of_ble_eq_true rfl, Nat.le_of_ble_eq_true rfl⟩) hK hP hD hS [0, 1] [] 3 0 rfl rfl rfl rfl rfl rfl rfl rfl rfl hl.1 rfl (Nat.le_of_ble_eq_true rfl) ⟨Nat.zero_le _, Nat.zero_le _⟩ dX3_cell_6 rfl (fun H locs hP hD hS => ?_)
  refine W.eq (g2 := F0 m 9 ls []) rfl ?_
  refine lv_aload_n hx hb dX3_cell_9 rfl (lv_at hl 0 rfl) ?_
  refine va_get (D := (dC, dI)) (ci := 3) (v := .ref m0) (C := RX3) (T := TX3) (N := 3) hx hb hts (by decide +kernel) hown hK hP 0 rfl rfl 1 (by decide) (hts (.fieldLink RX3 21 "CircleCells" "mosaic" "LCircleCells$Mosaic;") (by decide +kernel)) (fun _ h9 => h9) rfl dX3_cell_10 ?_
  refine lv_iload_n hx hb dX3_cell_13 rfl (lv_at hl 1 rfl) ?_
  refine q_cV (As := [.int (nI k)]) (rest := []) ⟨hx, hb, hml, hown, hts⟩ (c_X1_sideCount l dC dI m0 s0 g0 ra sa oa ma cI (nI r1.1.2.2.2.2) (nI r1.2.2) r1.1.2.2.1 k (by omega) (by omega)) (cwV 1 hts gX3_cell_X1_sideCount rfl rfl rfl (by decide +kernel) ⟨Nat.le_of_ble_eq_true rfl, Nat.le_of_ble_eq_true rfl⟩) (q_pV hK hP [1, 7] [0] 1 1 rfl rfl rfl rfl rfl rfl) rfl hl.1 rfl (Nat.le_of_ble_eq_true rfl) ⟨Nat.zero_le _, Nat.zero_le _⟩ dX3_cell_14 ?_
  refine lv_istore_n (lv' := [(3, .int (nI (r1.1.2.2.1 (k + 1) - r1.1.2.2.1 k))), (0, .ref c0), (1, .int (nI k)), (2, .int i)]) hx hb dX3_cell_17 rfl hl (by decide) rfl (fun ls hl => ?_)
  refine lv_iload_n hx hb dX3_cell_18 rfl (lv_at hl 3 rfl) ?_
  refine lv_iconst (v := (-1)) hx hb dX3_cell_19 (by decide) ?_
  refine lv_icmp_ne (tgt := 25) hx hb dX3_cell_20 (by decide) (fun c20 => ?_) (fun c20 => ?_)
  · refine lv_iload_n hx hb dX3_cell_25 rfl (lv_at hl 3 rfl) ?_
    refine lv_iload_n hx hb dX3_cell_26 rfl (lv_at hl 0 rfl) ?_
    refine q_tS (en := q_IO) (wc' := []) (wsN := [(c0, .inr (3, [.ref s0, .ref m0, .int 0])), (m0, .inr (1, [.ref s0, .ref g0, .ref ra, .ref sa, .ref oa, .int (nI r1.1.2.2.2.2), .ref ma, .int (nI r1.2.2)])), (g0, .inr (0, [.int r1.1.1.1, .int r1.1.1.2.1, .long r1.1.1.2.2.1, .long r1.1.1.2.2.2.1, .long r1.1.1.2.2.2.2])), (s0, .inr (2, [.ref xa, .ref ya, .int (nI n)])), (xa, .inl (cI, 20, .inl x)), (ya, .inl (cI, 20, .inl y)), (ra, .inl (cI, 105, .inl (fun j9 => nI (r1.1.2.1 j9)))), (sa, .inl (cI, 36, .inl (fun j9 => nI (r1.1.2.2.1 j9)))), (oa, .inl (cI, 400, .inl r1.1.2.2.2.1)), (ma, .inl (cI, 20, .inl r1.2.1))]) (As := [.int i, .int (nI (r1.1.2.2.1 (k + 1) - r1.1.2.2.1 k))]) (rest := []) ⟨hx, hb, hml, hown, hts⟩ (t1_X3_requireIndex l hst9 dC dI i (nI (r1.1.2.2.1 (k + 1) - r1.1.2.2.1 k)) hi) (va_cwS 2 hts gX3_cell_X3_requireIndex rfl rfl rfl (by decide +kernel) ⟨Nat.le_of_ble_eq_true rfl, Nat.le_of_ble_eq_true rfl⟩) hE hK hP hD hS [] [] rfl rfl rfl rfl rfl rfl hl.1 rfl (Nat.le_of_ble_eq_true rfl) ⟨Nat.le_of_ble_eq_true rfl, Nat.le_of_ble_eq_true rfl⟩ dX3_cell_27 rfl (fun H locs q9 ce hP hD hS hq9 hcv hcl => ?_)
    exact q_tout hP hS hq9 hcv hcl hout hlocks
  · exact absurd c20 hi1
set_option maxHeartbeats 4000000 in
set_option maxRecDepth 100000 in
theorem c_X3_beside (l : Launch) (dC : Nat → ClassId) (dI : Nat → Nat → Nat) (c0 m0 s0 g0 ra sa oa ma xa ya : Nat) (cI : ClassId) (x y : Nat → Int32) (st : Int32) (z : (Int32 × Int32 × Int64 × Int64 × Int64) × (Nat → Nat) × (Nat → Nat) × (Nat → Int32) × Nat) (rm : Nat → Int32) (rc n : Nat) (k t : Nat) (ln : n ≤ 20) (lr : ∀ j, z.2.1 j < 20) (ls0 : z.2.2.1 0 = 0) (hst : j_st (j_refr x y n st z rm rc)) (lk : k < (j_refr x y n st z rm rc).1.2.2.2.2) (hi : t < (j_refr x y n st z rm rc).1.2.2.1 (k + 1) - (j_refr x y n st z rm rc).1.2.2.1 k) (R : ((Int32 × Int32 × Int64 × Int64 × Int64) × (Nat → Nat) × (Nat → Nat) × (Nat → Int32) × Nat) × (Nat → Int32) × Nat) (hR : j_refr x y n st z rm rc = R) : Met l yX3_beside wsX3_beside ({ frames := 6, cells := 0, slots := 0, locals := 137 }) (q_Pm (dC, dI) [.ref c0, .int (nI k), .int (nI t)] [(c0, .inr (3, [.ref s0, .ref m0, .int st])), (m0, .inr (1, [.ref s0, .ref g0, .ref ra, .ref sa, .ref oa, .int (nI z.2.2.2.2), .ref ma, .int (nI rc)])), (g0, .inr (0, [.int z.1.1, .int z.1.2.1, .long z.1.2.2.1, .long z.1.2.2.2.1, .long z.1.2.2.2.2])), (s0, .inr (2, [.ref xa, .ref ya, .int (nI n)])), (xa, .inl (cI, 20, .inl x)), (ya, .inl (cI, 20, .inl y)), (ra, .inl (cI, 105, .inl (fun j9 => nI (z.2.1 j9)))), (sa, .inl (cI, 36, .inl (fun j9 => nI (z.2.2.1 j9)))), (oa, .inl (cI, 400, .inl z.2.2.2.1)), (ma, .inl (cI, 20, .inl rm))] [(cI, .int)]) (q_Qm (dC, dI) (q_in [(c0, .inr (3, [.ref s0, .ref m0, .int st])), (m0, .inr (1, [.ref s0, .ref g0, .ref ra, .ref sa, .ref oa, .int (nI z.2.2.2.2), .ref ma, .int (nI rc)])), (g0, .inr (0, [.int z.1.1, .int z.1.2.1, .long z.1.2.2.1, .long z.1.2.2.2.1, .long z.1.2.2.2.2])), (s0, .inr (2, [.ref xa, .ref ya, .int (nI n)])), (xa, .inl (cI, 20, .inl x)), (ya, .inl (cI, 20, .inl y)), (ra, .inl (cI, 105, .inl (fun j9 => nI (z.2.1 j9)))), (sa, .inl (cI, 36, .inl (fun j9 => nI (z.2.2.1 j9)))), (oa, .inl (cI, 400, .inl z.2.2.2.1)), (ma, .inl (cI, 20, .inl rm))]) (some (.int (j_besV (nI k) (nI t) R))) [(c0, .inr (3, [.ref s0, .ref m0, .int 0])), (m0, .inr (1, [.ref s0, .ref g0, .ref ra, .ref sa, .ref oa, .int (nI R.1.2.2.2.2), .ref ma, .int (nI R.2.2)])), (g0, .inr (0, [.int R.1.1.1, .int R.1.1.2.1, .long R.1.1.2.2.1, .long R.1.1.2.2.2.1, .long R.1.1.2.2.2.2])), (s0, .inr (2, [.ref xa, .ref ya, .int (nI n)])), (xa, .inl (cI, 20, .inl x)), (ya, .inl (cI, 20, .inl y)), (ra, .inl (cI, 105, .inl (fun j9 => nI (R.1.2.1 j9)))), (sa, .inl (cI, 36, .inl (fun j9 => nI (R.1.2.2.1 j9)))), (oa, .inl (cI, 400, .inl R.1.2.2.2.1)), (ma, .inl (cI, 20, .inl R.2.1))]) 0 0 (q_in [(c0, .inr (3, [.ref s0, .ref m0, .int st])), (m0, .inr (1, [.ref s0, .ref g0, .ref ra, .ref sa, .ref oa, .int (nI z.2.2.2.2), .ref ma, .int (nI rc)])), (g0, .inr (0, [.int z.1.1, .int z.1.2.1, .long z.1.2.2.1, .long z.1.2.2.2.1, .long z.1.2.2.2.2])), (s0, .inr (2, [.ref xa, .ref ya, .int (nI n)])), (xa, .inl (cI, 20, .inl x)), (ya, .inl (cI, 20, .inl y)), (ra, .inl (cI, 105, .inl (fun j9 => nI (z.2.1 j9)))), (sa, .inl (cI, 36, .inl (fun j9 => nI (z.2.2.1 j9)))), (oa, .inl (cI, 400, .inl z.2.2.2.1)), (ma, .inl (cI, 20, .inl rm))]) := by
  refine Met.ofW (cc := cX3_beside) (maxL := 3) (ret := (some .int)) (by decide) rfl ?_
  intro p e s m args below meth c s₁ B hml hv
  obtain ⟨rfl, hP, hK, hD0⟩ := hv
  have hx := B.exec
  have hb := B.bytes
  have hr := B.returns
  have hts := atoms_spec (ws := wsX3_beside) B.pre
  have hown : s.vm.findClass RX3 = some m.cls := findClass_of_methodNamed B.named
  have hlocks := B.notSynchronized
  have hD := q_inD hD0
  generalize hAe : q_in [(c0, .inr (3, [.ref s0, .ref m0, .int st])), (m0, .inr (1, [.ref s0, .ref g0, .ref ra, .ref sa, .ref oa, .int (nI z.2.2.2.2), .ref ma, .int (nI rc)])), (g0, .inr (0, [.int z.1.1, .int z.1.2.1, .long z.1.2.2.1, .long z.1.2.2.2.1, .long z.1.2.2.2.2])), (s0, .inr (2, [.ref xa, .ref ya, .int (nI n)])), (xa, .inl (cI, 20, .inl x)), (ya, .inl (cI, 20, .inl y)), (ra, .inl (cI, 105, .inl (fun j9 => nI (z.2.1 j9)))), (sa, .inl (cI, 36, .inl (fun j9 => nI (z.2.2.1 j9)))), (oa, .inl (cI, 400, .inl z.2.2.2.1)), (ma, .inl (cI, 20, .inl rm))] = A at hD ⊢
  have hS : va_S A s.heap s.heap [] := va_S.rf
  have hP : va_P (dC, dI) vwCl [(c0, .inr (3, [.ref s0, .ref m0, .int st])), (m0, .inr (1, [.ref s0, .ref g0, .ref ra, .ref sa, .ref oa, .int (nI z.2.2.2.2), .ref ma, .int (nI rc)])), (g0, .inr (0, [.int z.1.1, .int z.1.2.1, .long z.1.2.2.1, .long z.1.2.2.2.1, .long z.1.2.2.2.2])), (s0, .inr (2, [.ref xa, .ref ya, .int (nI n)])), (xa, .inl (cI, 20, .inl x)), (ya, .inl (cI, 20, .inl y)), (ra, .inl (cI, 105, .inl (fun j9 => nI (z.2.1 j9)))), (sa, .inl (cI, 36, .inl (fun j9 => nI (z.2.2.1 j9)))), (oa, .inl (cI, 400, .inl z.2.2.2.1)), (ma, .inl (cI, 20, .inl rm))] s.heap := hP
  have hl := lv_entry ([.ref c0, .int (nI k), .int (nI t)]) (n := 3) (Nat.le_of_ble_eq_true rfl)
  rw [lg_entry_eq]
  generalize (lg_sl ([.ref c0, .int (nI k), .int (nI t)]) ++ List.replicate (3 - (lg_sl ([.ref c0, .int (nI k), .int (nI t)])).length) Slot.unset).toArray = ls at hl ⊢
  have hl : lv_has ls 3 [(0, .ref c0), (1, .int (nI k)), (2, .int (nI t))] := hl
  refine lv_aload_n hx hb dX3_beside_0 rfl (lv_at hl 0 rfl) ?_
  obtain ⟨r1, hr1⟩ : ∃ r : ((Int32 × Int32 × Int64 × Int64 × Int64) × (Nat → Nat) × (Nat → Nat) × (Nat → Int32) × Nat) × (Nat → Int32) × Nat, j_refr x y n st z rm rc = r := ⟨_, rfl⟩
  refine q_mV (wc' := [(c0, .inr (3, [.ref s0, .ref m0, .int 0])), (m0, .inr (1, [.ref s0, .ref g0, .ref ra, .ref sa, .ref oa, .int (nI r1.1.2.2.2.2), .ref ma, .int (nI r1.2.2)])), (g0, .inr (0, [.int r1.1.1.1, .int r1.1.1.2.1, .long r1.1.1.2.2.1, .long r1.1.1.2.2.2.1, .long r1.1.1.2.2.2.2])), (s0, .inr (2, [.ref xa, .ref ya, .int (nI n)])), (xa, .inl (cI, 20, .inl x)), (ya, .inl (cI, 20, .inl y)), (ra, .inl (cI, 105, .inl (fun j9 => nI (r1.1.2.1 j9)))), (sa, .inl (cI, 36, .inl (fun j9 => nI (r1.1.2.2.1 j9)))), (oa, .inl (cI, 400, .inl r1.1.2.2.2.1)), (ma, .inl (cI, 20, .inl r1.2.1))]) (wsN := [(c0, .inr (3, [.ref s0, .ref m0, .int 0])), (m0, .inr (1, [.ref s0, .ref g0, .ref ra, .ref sa, .ref oa, .int (nI r1.1.2.2.2.2), .ref ma, .int (nI r1.2.2)])), (g0, .inr (0, [.int r1.1.1.1, .int r1.1.1.2.1, .long r1.1.1.2.2.1, .long r1.1.1.2.2.2.1, .long r1.1.1.2.2.2.2])), (s0, .inr (2, [.ref xa, .ref ya, .int (nI n)])), (xa, .inl (cI, 20, .inl x)), (ya, .inl (cI, 20, .inl y)), (ra, .inl (cI, 105, .inl (fun j9 => nI (r1.1.2.1 j9)))), (sa, .inl (cI, 36, .inl (fun j9 => nI (r1.1.2.2.1 j9)))), (oa, .inl (cI, 400, .inl r1.1.2.2.2.1)), (ma, .inl (cI, 20, .inl r1.2.1))]) (As := []) (rest := []) ⟨hx, hb, hml, hown, hts⟩ (c_X3_refresh l dC dI c0 m0 s0 g0 ra sa oa ma xa ya cI x y st (by omega) rm rc n (by omega) lr ls0 r1 hr1) (cwV 0 hts gX3_beside_X3_refresh rfl rfl rfl (by decide +kernel) ⟨Nat.le_of_ble_eq_true rfl, Nat.le_of_ble_eq_true rfl⟩) hK hP hD hS [0, 1, 2, 3, 4, 5, 6, 7, 8, 9] [0] 3 0 rfl rfl rfl rfl rfl rfl rfl rfl rfl hl.1 rfl (Nat.le_of_ble_eq_true rfl) ⟨Nat.zero_le _, Nat.zero_le _⟩ dX3_beside_1 rfl (fun H locs hP hD hS => ?_)
  refine W.eq (g2 := F0 m 4 ls []) rfl ?_
  rw [hr1] at hR hst lk hi
  subst hR
  have hk9 := hst.2.2.1 k lk
  have hq9 := hst.2.1
  refine lv_aload_n hx hb dX3_beside_4 rfl (lv_at hl 0 rfl) ?_
  refine lv_iload_n hx hb dX3_beside_5 rfl (lv_at hl 1 rfl) ?_
  refine q_mV (wc' := [(c0, .inr (3, [.ref s0, .ref m0, .int 0])), (m0, .inr (1, [.ref s0, .ref g0, .ref ra, .ref sa, .ref oa, .int (nI r1.1.2.2.2.2), .ref ma, .int (nI r1.2.2)]))]) (wsN := [(c0, .inr (3, [.ref s0, .ref m0, .int 0])), (m0, .inr (1, [.ref s0, .ref g0, .ref ra, .ref sa, .ref oa, .int (nI r1.1.2.2.2.2), .ref ma, .int (nI r1.2.2)])), (g0, .inr (0, [.int r1.1.1.1, .int r1.1.1.2.1, .long r1.1.1.2.2.1, .long r1.1.1.2.2.2.1, .long r1.1.1.2.2.2.2])), (s0, .inr (2, [.ref xa, .ref ya, .int (nI n)])), (xa, .inl (cI, 20, .inl x)), (ya, .inl (cI, 20, .inl y)), (ra, .inl (cI, 105, .inl (fun j9 => nI (r1.1.2.1 j9)))), (sa, .inl (cI, 36, .inl (fun j9 => nI (r1.1.2.2.1 j9)))), (oa, .inl (cI, 400, .inl r1.1.2.2.2.1)), (ma, .inl (cI, 20, .inl r1.2.1))]) (As := [.int (nI k)]) (rest := []) ⟨hx, hb, hml, hown, hts⟩ (c_X3_requireCell l dC dI c0 m0 s0 g0 ra sa oa ma 0 (nI r1.2.2) r1.1.2.2.2.2 (nI k) (r_out_k lk (by omega))) (cwV 1 hts gX3_beside_X3_requireCell rfl rfl rfl (by decide +kernel) ⟨Nat.le_of_ble_eq_true rfl, Nat.le_of_ble_eq_true rfl⟩) hK hP hD hS [0, 1] [] 3 0 rfl rfl rfl rfl rfl rfl rfl rfl rfl hl.1 rfl (Nat.le_of_ble_eq_true rfl) ⟨Nat.zero_le _, Nat.zero_le _⟩ dX3_beside_6 rfl (fun H locs hP hD hS => ?_)
  refine W.eq (g2 := F0 m 9 ls []) rfl ?_
  refine lv_iload_n hx hb dX3_beside_9 rfl (lv_at hl 2 rfl) ?_
  refine lv_aload_n hx hb dX3_beside_10 rfl (lv_at hl 0 rfl) ?_
  refine va_get (D := (dC, dI)) (ci := 3) (v := .ref m0) (C := RX3) (T := TX3) (N := 3) hx hb hts (by decide +kernel) hown hK hP 0 rfl rfl 1 (by decide) (hts (.fieldLink RX3 21 "CircleCells" "mosaic" "LCircleCells$Mosaic;") (by decide +kernel)) (fun _ h9 => h9) rfl dX3_beside_11 ?_
  refine lv_iload_n hx hb dX3_beside_14 rfl (lv_at hl 1 rfl) ?_
  refine q_cV (As := [.int (nI k)]) (rest := [.int (nI t)]) ⟨hx, hb, hml, hown, hts⟩ (c_X1_sideCount l dC dI m0 s0 g0 ra sa oa ma cI (nI r1.1.2.2.2.2) (nI r1.2.2) r1.1.2.2.1 k (by omega) (by omega)) (cwV 1 hts gX3_beside_X1_sideCount rfl rfl rfl (by decide +kernel) ⟨Nat.le_of_ble_eq_true rfl, Nat.le_of_ble_eq_true rfl⟩) (q_pV hK hP [1, 7] [0] 1 1 rfl rfl rfl rfl rfl rfl) rfl hl.1 rfl (Nat.le_of_ble_eq_true rfl) ⟨Nat.zero_le _, Nat.zero_le _⟩ dX3_beside_15 ?_
  refine q_mS (wc' := []) (wsN := [(c0, .inr (3, [.ref s0, .ref m0, .int 0])), (m0, .inr (1, [.ref s0, .ref g0, .ref ra, .ref sa, .ref oa, .int (nI r1.1.2.2.2.2), .ref ma, .int (nI r1.2.2)])), (g0, .inr (0, [.int r1.1.1.1, .int r1.1.1.2.1, .long r1.1.1.2.2.1, .long r1.1.1.2.2.2.1, .long r1.1.1.2.2.2.2])), (s0, .inr (2, [.ref xa, .ref ya, .int (nI n)])), (xa, .inl (cI, 20, .inl x)), (ya, .inl (cI, 20, .inl y)), (ra, .inl (cI, 105, .inl (fun j9 => nI (r1.1.2.1 j9)))), (sa, .inl (cI, 36, .inl (fun j9 => nI (r1.1.2.2.1 j9)))), (oa, .inl (cI, 400, .inl r1.1.2.2.2.1)), (ma, .inl (cI, 20, .inl r1.2.1))]) (As := [.int (nI t), .int (nI (r1.1.2.2.1 (k + 1) - r1.1.2.2.1 k))]) (rest := []) ⟨hx, hb, hml, hown, hts⟩ (c_X3_requireIndex l dC dI (nI t) (nI (r1.1.2.2.1 (k + 1) - r1.1.2.2.1 k)) (r_out_k hi (by omega))) (va_cwS 2 hts gX3_beside_X3_requireIndex rfl rfl rfl (by decide +kernel) ⟨Nat.le_of_ble_eq_true rfl, Nat.le_of_ble_eq_true rfl⟩) hK hP hD hS [] [] rfl rfl rfl rfl rfl rfl hl.1 rfl (Nat.le_of_ble_eq_true rfl) ⟨Nat.zero_le _, Nat.zero_le _⟩ dX3_beside_18 rfl (fun H locs hP hD hS => ?_)
  refine W.eq (g2 := F0 m 21 ls []) rfl ?_
  refine lv_aload_n hx hb dX3_beside_21 rfl (lv_at hl 0 rfl) ?_
  refine va_get (D := (dC, dI)) (ci := 3) (v := .ref m0) (C := RX3) (T := TX3) (N := 3) hx hb hts (by decide +kernel) hown hK hP 0 rfl rfl 1 (by decide) (hts (.fieldLink RX3 21 "CircleCells" "mosaic" "LCircleCells$Mosaic;") (by decide +kernel)) (fun _ h9 => h9) rfl dX3_beside_22 ?_
  refine lv_iload_n hx hb dX3_beside_25 rfl (lv_at hl 1 rfl) ?_
  refine lv_iload_n hx hb dX3_beside_26 rfl (lv_at hl 2 rfl) ?_
  refine q_cV (As := [.int (nI k), .int (nI t)]) (rest := []) ⟨hx, hb, hml, hown, hts⟩ (c_X1_across l dC dI m0 s0 g0 ra sa oa ma cI (nI r1.1.2.2.2.2) (nI r1.2.2) r1.1.2.1 r1.1.2.2.1 r1.1.2.2.2.1 k t (by omega) (by omega) (by omega) hst.1) (cwV 2 hts gX3_beside_X1_across rfl rfl rfl (by decide +kernel) ⟨Nat.le_of_ble_eq_true rfl, Nat.le_of_ble_eq_true rfl⟩) (q_pV hK hP [1, 6, 7, 8] [0] 1 1 rfl rfl rfl rfl rfl rfl) rfl hl.1 rfl (Nat.le_of_ble_eq_true rfl) ⟨Nat.zero_le _, Nat.zero_le _⟩ dX3_beside_27 ?_
  rw [j_besV, nI_clamp (show k < 2 ^ 31 by omega), nI_clamp (show t < 2 ^ 31 by omega)]
  exact W.iret (v := r1.1.2.2.2.1 (j_after r1.1.2.1 r1.1.2.2.1 k t * 20 + r1.1.2.1 (r1.1.2.2.1 k + t))) hx hb hr (q_retm hP hS) hS.2.2 dX3_beside_30
set_option maxHeartbeats 4000000 in
set_option maxRecDepth 100000 in
theorem t1_X3_beside (l : Launch) (hst9 : l.stackTraces = false) (dC : Nat → ClassId) (dI : Nat → Nat → Nat) (c0 m0 s0 g0 ra sa oa ma xa ya : Nat) (cI : ClassId) (x y : Nat → Int32) (st : Int32) (z : (Int32 × Int32 × Int64 × Int64 × Int64) × (Nat → Nat) × (Nat → Nat) × (Nat → Int32) × Nat) (rm : Nat → Int32) (rc n : Nat) (w i : Int32) (ln : n ≤ 20) (lr : ∀ j, z.2.1 j < 20) (ls0 : z.2.2.1 0 = 0) (hf : r_out w (nI (j_refr x y n st z rm rc).1.2.2.2.2) = true) (R : ((Int32 × Int32 × Int64 × Int64 × Int64) × (Nat → Nat) × (Nat → Nat) × (Nat → Int32) × Nat) × (Nat → Int32) × Nat) (hR : j_refr x y n st z rm rc = R) : vx_Met l yX3_beside wsX3_beside ({ frames := 7, cells := 1, slots := 6, locals := 137 }) (q_Px (dC, dI) [.ref c0, .int w, .int i] [(c0, .inr (3, [.ref s0, .ref m0, .int st])), (m0, .inr (1, [.ref s0, .ref g0, .ref ra, .ref sa, .ref oa, .int (nI z.2.2.2.2), .ref ma, .int (nI rc)])), (g0, .inr (0, [.int z.1.1, .int z.1.2.1, .long z.1.2.2.1, .long z.1.2.2.2.1, .long z.1.2.2.2.2])), (s0, .inr (2, [.ref xa, .ref ya, .int (nI n)])), (xa, .inl (cI, 20, .inl x)), (ya, .inl (cI, 20, .inl y)), (ra, .inl (cI, 105, .inl (fun j9 => nI (z.2.1 j9)))), (sa, .inl (cI, 36, .inl (fun j9 => nI (z.2.2.1 j9)))), (oa, .inl (cI, 400, .inl z.2.2.2.1)), (ma, .inl (cI, 20, .inl rm))] [(cI, .int)]) q_no (q_XX (dC, dI) (q_in [(c0, .inr (3, [.ref s0, .ref m0, .int st])), (m0, .inr (1, [.ref s0, .ref g0, .ref ra, .ref sa, .ref oa, .int (nI z.2.2.2.2), .ref ma, .int (nI rc)])), (g0, .inr (0, [.int z.1.1, .int z.1.2.1, .long z.1.2.2.1, .long z.1.2.2.2.1, .long z.1.2.2.2.2])), (s0, .inr (2, [.ref xa, .ref ya, .int (nI n)])), (xa, .inl (cI, 20, .inl x)), (ya, .inl (cI, 20, .inl y)), (ra, .inl (cI, 105, .inl (fun j9 => nI (z.2.1 j9)))), (sa, .inl (cI, 36, .inl (fun j9 => nI (z.2.2.1 j9)))), (oa, .inl (cI, 400, .inl z.2.2.2.1)), (ma, .inl (cI, 20, .inl rm))]) q_NE [(c0, .inr (3, [.ref s0, .ref m0, .int 0])), (m0, .inr (1, [.ref s0, .ref g0, .ref ra, .ref sa, .ref oa, .int (nI R.1.2.2.2.2), .ref ma, .int (nI R.2.2)])), (g0, .inr (0, [.int R.1.1.1, .int R.1.1.2.1, .long R.1.1.2.2.1, .long R.1.1.2.2.2.1, .long R.1.1.2.2.2.2])), (s0, .inr (2, [.ref xa, .ref ya, .int (nI n)])), (xa, .inl (cI, 20, .inl x)), (ya, .inl (cI, 20, .inl y)), (ra, .inl (cI, 105, .inl (fun j9 => nI (R.1.2.1 j9)))), (sa, .inl (cI, 36, .inl (fun j9 => nI (R.1.2.2.1 j9)))), (oa, .inl (cI, 400, .inl R.1.2.2.2.1)), (ma, .inl (cI, 20, .inl R.2.1))]) 1 6 (q_in [(c0, .inr (3, [.ref s0, .ref m0, .int st])), (m0, .inr (1, [.ref s0, .ref g0, .ref ra, .ref sa, .ref oa, .int (nI z.2.2.2.2), .ref ma, .int (nI rc)])), (g0, .inr (0, [.int z.1.1, .int z.1.2.1, .long z.1.2.2.1, .long z.1.2.2.2.1, .long z.1.2.2.2.2])), (s0, .inr (2, [.ref xa, .ref ya, .int (nI n)])), (xa, .inl (cI, 20, .inl x)), (ya, .inl (cI, 20, .inl y)), (ra, .inl (cI, 105, .inl (fun j9 => nI (z.2.1 j9)))), (sa, .inl (cI, 36, .inl (fun j9 => nI (z.2.2.1 j9)))), (oa, .inl (cI, 400, .inl z.2.2.2.1)), (ma, .inl (cI, 20, .inl rm))]) := by
  refine vx_ofW (cc := cX3_beside) (maxL := 3) (ret := (some .int)) (by decide) rfl ?_
  intro p e s m args below meth c s₁ B hml hout hv
  obtain ⟨rfl, hP, hK, hD0, hE⟩ := hv
  have hx := B.exec
  have hb := B.bytes
  have hr := B.returns
  have hts := atoms_spec (ws := wsX3_beside) B.pre
  have hown : s.vm.findClass RX3 = some m.cls := findClass_of_methodNamed B.named
  have hlocks := B.notSynchronized
  have hD := q_inD hD0
  generalize hAe : q_in [(c0, .inr (3, [.ref s0, .ref m0, .int st])), (m0, .inr (1, [.ref s0, .ref g0, .ref ra, .ref sa, .ref oa, .int (nI z.2.2.2.2), .ref ma, .int (nI rc)])), (g0, .inr (0, [.int z.1.1, .int z.1.2.1, .long z.1.2.2.1, .long z.1.2.2.2.1, .long z.1.2.2.2.2])), (s0, .inr (2, [.ref xa, .ref ya, .int (nI n)])), (xa, .inl (cI, 20, .inl x)), (ya, .inl (cI, 20, .inl y)), (ra, .inl (cI, 105, .inl (fun j9 => nI (z.2.1 j9)))), (sa, .inl (cI, 36, .inl (fun j9 => nI (z.2.2.1 j9)))), (oa, .inl (cI, 400, .inl z.2.2.2.1)), (ma, .inl (cI, 20, .inl rm))] = A at hD hE ⊢
  have hS : va_S A s.heap s.heap [] := va_S.rf
  have hP : va_P (dC, dI) vwCl [(c0, .inr (3, [.ref s0, .ref m0, .int st])), (m0, .inr (1, [.ref s0, .ref g0, .ref ra, .ref sa, .ref oa, .int (nI z.2.2.2.2), .ref ma, .int (nI rc)])), (g0, .inr (0, [.int z.1.1, .int z.1.2.1, .long z.1.2.2.1, .long z.1.2.2.2.1, .long z.1.2.2.2.2])), (s0, .inr (2, [.ref xa, .ref ya, .int (nI n)])), (xa, .inl (cI, 20, .inl x)), (ya, .inl (cI, 20, .inl y)), (ra, .inl (cI, 105, .inl (fun j9 => nI (z.2.1 j9)))), (sa, .inl (cI, 36, .inl (fun j9 => nI (z.2.2.1 j9)))), (oa, .inl (cI, 400, .inl z.2.2.2.1)), (ma, .inl (cI, 20, .inl rm))] s.heap := hP
  have hl := lv_entry ([.ref c0, .int w, .int i]) (n := 3) (Nat.le_of_ble_eq_true rfl)
  rw [lg_entry_eq]
  generalize (lg_sl ([.ref c0, .int w, .int i]) ++ List.replicate (3 - (lg_sl ([.ref c0, .int w, .int i])).length) Slot.unset).toArray = ls at hl ⊢
  have hl : lv_has ls 3 [(0, .ref c0), (1, .int w), (2, .int i)] := hl
  refine lv_aload_n hx hb dX3_beside_0 rfl (lv_at hl 0 rfl) ?_
  obtain ⟨r1, hr1⟩ : ∃ r : ((Int32 × Int32 × Int64 × Int64 × Int64) × (Nat → Nat) × (Nat → Nat) × (Nat → Int32) × Nat) × (Nat → Int32) × Nat, j_refr x y n st z rm rc = r := ⟨_, rfl⟩
  refine q_mV (wc' := [(c0, .inr (3, [.ref s0, .ref m0, .int 0])), (m0, .inr (1, [.ref s0, .ref g0, .ref ra, .ref sa, .ref oa, .int (nI r1.1.2.2.2.2), .ref ma, .int (nI r1.2.2)])), (g0, .inr (0, [.int r1.1.1.1, .int r1.1.1.2.1, .long r1.1.1.2.2.1, .long r1.1.1.2.2.2.1, .long r1.1.1.2.2.2.2])), (s0, .inr (2, [.ref xa, .ref ya, .int (nI n)])), (xa, .inl (cI, 20, .inl x)), (ya, .inl (cI, 20, .inl y)), (ra, .inl (cI, 105, .inl (fun j9 => nI (r1.1.2.1 j9)))), (sa, .inl (cI, 36, .inl (fun j9 => nI (r1.1.2.2.1 j9)))), (oa, .inl (cI, 400, .inl r1.1.2.2.2.1)), (ma, .inl (cI, 20, .inl r1.2.1))]) (wsN := [(c0, .inr (3, [.ref s0, .ref m0, .int 0])), (m0, .inr (1, [.ref s0, .ref g0, .ref ra, .ref sa, .ref oa, .int (nI r1.1.2.2.2.2), .ref ma, .int (nI r1.2.2)])), (g0, .inr (0, [.int r1.1.1.1, .int r1.1.1.2.1, .long r1.1.1.2.2.1, .long r1.1.1.2.2.2.1, .long r1.1.1.2.2.2.2])), (s0, .inr (2, [.ref xa, .ref ya, .int (nI n)])), (xa, .inl (cI, 20, .inl x)), (ya, .inl (cI, 20, .inl y)), (ra, .inl (cI, 105, .inl (fun j9 => nI (r1.1.2.1 j9)))), (sa, .inl (cI, 36, .inl (fun j9 => nI (r1.1.2.2.1 j9)))), (oa, .inl (cI, 400, .inl r1.1.2.2.2.1)), (ma, .inl (cI, 20, .inl r1.2.1))]) (As := []) (rest := []) ⟨hx, hb, hml, hown, hts⟩ (c_X3_refresh l dC dI c0 m0 s0 g0 ra sa oa ma xa ya cI x y st (by omega) rm rc n (by omega) lr ls0 r1 hr1) (cwV 0 hts gX3_beside_X3_refresh rfl rfl rfl (by decide +kernel) ⟨Nat.le_of_ble_eq_true rfl, Nat.le_of_ble_eq_true rfl⟩) hK hP hD hS [0, 1, 2, 3, 4, 5, 6, 7, 8, 9] [0] 3 0 rfl rfl rfl rfl rfl rfl rfl rfl rfl hl.1 rfl (Nat.le_of_ble_eq_true rfl) ⟨Nat.zero_le _, Nat.zero_le _⟩ dX3_beside_1 rfl (fun H locs hP hD hS => ?_)
  refine W.eq (g2 := F0 m 4 ls []) rfl ?_
  rw [hr1] at hR hf
  subst hR
  refine lv_aload_n hx hb dX3_beside_4 rfl (lv_at hl 0 rfl) ?_
  refine lv_iload_n hx hb dX3_beside_5 rfl (lv_at hl 1 rfl) ?_
  refine q_tV (en := q_NE) (wc' := [(c0, .inr (3, [.ref s0, .ref m0, .int 0])), (m0, .inr (1, [.ref s0, .ref g0, .ref ra, .ref sa, .ref oa, .int (nI r1.1.2.2.2.2), .ref ma, .int (nI r1.2.2)]))]) (wsN := [(c0, .inr (3, [.ref s0, .ref m0, .int 0])), (m0, .inr (1, [.ref s0, .ref g0, .ref ra, .ref sa, .ref oa, .int (nI r1.1.2.2.2.2), .ref ma, .int (nI r1.2.2)])), (g0, .inr (0, [.int r1.1.1.1, .int r1.1.1.2.1, .long r1.1.1.2.2.1, .long r1.1.1.2.2.2.1, .long r1.1.1.2.2.2.2])), (s0, .inr (2, [.ref xa, .ref ya, .int (nI n)])), (xa, .inl (cI, 20, .inl x)), (ya, .inl (cI, 20, .inl y)), (ra, .inl (cI, 105, .inl (fun j9 => nI (r1.1.2.1 j9)))), (sa, .inl (cI, 36, .inl (fun j9 => nI (r1.1.2.2.1 j9)))), (oa, .inl (cI, 400, .inl r1.1.2.2.2.1)), (ma, .inl (cI, 20, .inl r1.2.1))]) (As := [.int w]) (rest := []) ⟨hx, hb, hml, hown, hts⟩ (t1_X3_requireCell l hst9 dC dI c0 m0 s0 g0 ra sa oa ma 0 (nI r1.2.2) r1.1.2.2.2.2 w hf) (cwV 1 hts gX3_beside_X3_requireCell rfl rfl rfl (by decide +kernel) ⟨Nat.le_of_ble_eq_true rfl, Nat.le_of_ble_eq_true rfl⟩) hE hK hP hD hS [0, 1] [] 3 0 rfl rfl rfl rfl rfl rfl rfl rfl rfl hl.1 rfl (Nat.le_of_ble_eq_true rfl) ⟨Nat.le_of_ble_eq_true rfl, Nat.le_of_ble_eq_true rfl⟩ dX3_beside_6 rfl (fun H locs q9 ce hP hD hS hq9 hcv hcl => ?_)
  exact q_tout hP hS hq9 hcv hcl hout hlocks
set_option maxHeartbeats 4000000 in
set_option maxRecDepth 100000 in
theorem t2_X3_beside (l : Launch) (hst9 : l.stackTraces = false) (dC : Nat → ClassId) (dI : Nat → Nat → Nat) (c0 m0 s0 g0 ra sa oa ma xa ya : Nat) (cI : ClassId) (x y : Nat → Int32) (st : Int32) (z : (Int32 × Int32 × Int64 × Int64 × Int64) × (Nat → Nat) × (Nat → Nat) × (Nat → Int32) × Nat) (rm : Nat → Int32) (rc n : Nat) (k : Nat) (i : Int32) (ln : n ≤ 20) (lr : ∀ j, z.2.1 j < 20) (ls0 : z.2.2.1 0 = 0) (hst : j_st (j_refr x y n st z rm rc)) (lk : k < (j_refr x y n st z rm rc).1.2.2.2.2) (hi : r_out i (nI ((j_refr x y n st z rm rc).1.2.2.1 (k + 1) - (j_refr x y n st z rm rc).1.2.2.1 k)) = true) (R : ((Int32 × Int32 × Int64 × Int64 × Int64) × (Nat → Nat) × (Nat → Nat) × (Nat → Int32) × Nat) × (Nat → Int32) × Nat) (hR : j_refr x y n st z rm rc = R) : vx_Met l yX3_beside wsX3_beside ({ frames := 7, cells := 1, slots := 6, locals := 137 }) (q_Px (dC, dI) [.ref c0, .int (nI k), .int i] [(c0, .inr (3, [.ref s0, .ref m0, .int st])), (m0, .inr (1, [.ref s0, .ref g0, .ref ra, .ref sa, .ref oa, .int (nI z.2.2.2.2), .ref ma, .int (nI rc)])), (g0, .inr (0, [.int z.1.1, .int z.1.2.1, .long z.1.2.2.1, .long z.1.2.2.2.1, .long z.1.2.2.2.2])), (s0, .inr (2, [.ref xa, .ref ya, .int (nI n)])), (xa, .inl (cI, 20, .inl x)), (ya, .inl (cI, 20, .inl y)), (ra, .inl (cI, 105, .inl (fun j9 => nI (z.2.1 j9)))), (sa, .inl (cI, 36, .inl (fun j9 => nI (z.2.2.1 j9)))), (oa, .inl (cI, 400, .inl z.2.2.2.1)), (ma, .inl (cI, 20, .inl rm))] [(cI, .int)]) q_no (q_XX (dC, dI) (q_in [(c0, .inr (3, [.ref s0, .ref m0, .int st])), (m0, .inr (1, [.ref s0, .ref g0, .ref ra, .ref sa, .ref oa, .int (nI z.2.2.2.2), .ref ma, .int (nI rc)])), (g0, .inr (0, [.int z.1.1, .int z.1.2.1, .long z.1.2.2.1, .long z.1.2.2.2.1, .long z.1.2.2.2.2])), (s0, .inr (2, [.ref xa, .ref ya, .int (nI n)])), (xa, .inl (cI, 20, .inl x)), (ya, .inl (cI, 20, .inl y)), (ra, .inl (cI, 105, .inl (fun j9 => nI (z.2.1 j9)))), (sa, .inl (cI, 36, .inl (fun j9 => nI (z.2.2.1 j9)))), (oa, .inl (cI, 400, .inl z.2.2.2.1)), (ma, .inl (cI, 20, .inl rm))]) q_IO [(c0, .inr (3, [.ref s0, .ref m0, .int 0])), (m0, .inr (1, [.ref s0, .ref g0, .ref ra, .ref sa, .ref oa, .int (nI R.1.2.2.2.2), .ref ma, .int (nI R.2.2)])), (g0, .inr (0, [.int R.1.1.1, .int R.1.1.2.1, .long R.1.1.2.2.1, .long R.1.1.2.2.2.1, .long R.1.1.2.2.2.2])), (s0, .inr (2, [.ref xa, .ref ya, .int (nI n)])), (xa, .inl (cI, 20, .inl x)), (ya, .inl (cI, 20, .inl y)), (ra, .inl (cI, 105, .inl (fun j9 => nI (R.1.2.1 j9)))), (sa, .inl (cI, 36, .inl (fun j9 => nI (R.1.2.2.1 j9)))), (oa, .inl (cI, 400, .inl R.1.2.2.2.1)), (ma, .inl (cI, 20, .inl R.2.1))]) 1 6 (q_in [(c0, .inr (3, [.ref s0, .ref m0, .int st])), (m0, .inr (1, [.ref s0, .ref g0, .ref ra, .ref sa, .ref oa, .int (nI z.2.2.2.2), .ref ma, .int (nI rc)])), (g0, .inr (0, [.int z.1.1, .int z.1.2.1, .long z.1.2.2.1, .long z.1.2.2.2.1, .long z.1.2.2.2.2])), (s0, .inr (2, [.ref xa, .ref ya, .int (nI n)])), (xa, .inl (cI, 20, .inl x)), (ya, .inl (cI, 20, .inl y)), (ra, .inl (cI, 105, .inl (fun j9 => nI (z.2.1 j9)))), (sa, .inl (cI, 36, .inl (fun j9 => nI (z.2.2.1 j9)))), (oa, .inl (cI, 400, .inl z.2.2.2.1)), (ma, .inl (cI, 20, .inl rm))]) := by
  refine vx_ofW (cc := cX3_beside) (maxL := 3) (ret := (some .int)) (by decide) rfl ?_
  intro p e s m args below meth c s₁ B hml hout hv
  obtain ⟨rfl, hP, hK, hD0, hE⟩ := hv
  have hx := B.exec
  have hb := B.bytes
  have hr := B.returns
  have hts := atoms_spec (ws := wsX3_beside) B.pre
  have hown : s.vm.findClass RX3 = some m.cls := findClass_of_methodNamed B.named
  have hlocks := B.notSynchronized
  have hD := q_inD hD0
  generalize hAe : q_in [(c0, .inr (3, [.ref s0, .ref m0, .int st])), (m0, .inr (1, [.ref s0, .ref g0, .ref ra, .ref sa, .ref oa, .int (nI z.2.2.2.2), .ref ma, .int (nI rc)])), (g0, .inr (0, [.int z.1.1, .int z.1.2.1, .long z.1.2.2.1, .long z.1.2.2.2.1, .long z.1.2.2.2.2])), (s0, .inr (2, [.ref xa, .ref ya, .int (nI n)])), (xa, .inl (cI, 20, .inl x)), (ya, .inl (cI, 20, .inl y)), (ra, .inl (cI, 105, .inl (fun j9 => nI (z.2.1 j9)))), (sa, .inl (cI, 36, .inl (fun j9 => nI (z.2.2.1 j9)))), (oa, .inl (cI, 400, .inl z.2.2.2.1)), (ma, .inl (cI, 20, .inl rm))] = A at hD hE ⊢
  have hS : va_S A s.heap s.heap [] := va_S.rf
  have hP : va_P (dC, dI) vwCl [(c0, .inr (3, [.ref s0, .ref m0, .int st])), (m0, .inr (1, [.ref s0, .ref g0, .ref ra, .ref sa, .ref oa, .int (nI z.2.2.2.2), .ref ma, .int (nI rc)])), (g0, .inr (0, [.int z.1.1, .int z.1.2.1, .long z.1.2.2.1, .long z.1.2.2.2.1, .long z.1.2.2.2.2])), (s0, .inr (2, [.ref xa, .ref ya, .int (nI n)])), (xa, .inl (cI, 20, .inl x)), (ya, .inl (cI, 20, .inl y)), (ra, .inl (cI, 105, .inl (fun j9 => nI (z.2.1 j9)))), (sa, .inl (cI, 36, .inl (fun j9 => nI (z.2.2.1 j9)))), (oa, .inl (cI, 400, .inl z.2.2.2.1)), (ma, .inl (cI, 20, .inl rm))] s.heap := hP
  have hl := lv_entry ([.ref c0, .int (nI k), .int i]) (n := 3) (Nat.le_of_ble_eq_true rfl)
  rw [lg_entry_eq]
  generalize (lg_sl ([.ref c0, .int (nI k), .int i]) ++ List.replicate (3 - (lg_sl ([.ref c0, .int (nI k), .int i])).length) Slot.unset).toArray = ls at hl ⊢
  have hl : lv_has ls 3 [(0, .ref c0), (1, .int (nI k)), (2, .int i)] := hl
  refine lv_aload_n hx hb dX3_beside_0 rfl (lv_at hl 0 rfl) ?_
  obtain ⟨r1, hr1⟩ : ∃ r : ((Int32 × Int32 × Int64 × Int64 × Int64) × (Nat → Nat) × (Nat → Nat) × (Nat → Int32) × Nat) × (Nat → Int32) × Nat, j_refr x y n st z rm rc = r := ⟨_, rfl⟩
  refine q_mV (wc' := [(c0, .inr (3, [.ref s0, .ref m0, .int 0])), (m0, .inr (1, [.ref s0, .ref g0, .ref ra, .ref sa, .ref oa, .int (nI r1.1.2.2.2.2), .ref ma, .int (nI r1.2.2)])), (g0, .inr (0, [.int r1.1.1.1, .int r1.1.1.2.1, .long r1.1.1.2.2.1, .long r1.1.1.2.2.2.1, .long r1.1.1.2.2.2.2])), (s0, .inr (2, [.ref xa, .ref ya, .int (nI n)])), (xa, .inl (cI, 20, .inl x)), (ya, .inl (cI, 20, .inl y)), (ra, .inl (cI, 105, .inl (fun j9 => nI (r1.1.2.1 j9)))), (sa, .inl (cI, 36, .inl (fun j9 => nI (r1.1.2.2.1 j9)))), (oa, .inl (cI, 400, .inl r1.1.2.2.2.1)), (ma, .inl (cI, 20, .inl r1.2.1))]) (wsN := [(c0, .inr (3, [.ref s0, .ref m0, .int 0])), (m0, .inr (1, [.ref s0, .ref g0, .ref ra, .ref sa, .ref oa, .int (nI r1.1.2.2.2.2), .ref ma, .int (nI r1.2.2)])), (g0, .inr (0, [.int r1.1.1.1, .int r1.1.1.2.1, .long r1.1.1.2.2.1, .long r1.1.1.2.2.2.1, .long r1.1.1.2.2.2.2])), (s0, .inr (2, [.ref xa, .ref ya, .int (nI n)])), (xa, .inl (cI, 20, .inl x)), (ya, .inl (cI, 20, .inl y)), (ra, .inl (cI, 105, .inl (fun j9 => nI (r1.1.2.1 j9)))), (sa, .inl (cI, 36, .inl (fun j9 => nI (r1.1.2.2.1 j9)))), (oa, .inl (cI, 400, .inl r1.1.2.2.2.1)), (ma, .inl (cI, 20, .inl r1.2.1))]) (As := []) (rest := []) ⟨hx, hb, hml, hown, hts⟩ (c_X3_refresh l dC dI c0 m0 s0 g0 ra sa oa ma xa ya cI x y st (by omega) rm rc n (by omega) lr ls0 r1 hr1) (cwV 0 hts gX3_beside_X3_refresh rfl rfl rfl (by decide +kernel) ⟨Nat.le_of_ble_eq_true rfl, Nat.le_of_ble_eq_true rfl⟩) hK hP hD hS [0, 1, 2, 3, 4, 5, 6, 7, 8, 9] [0] 3 0 rfl rfl rfl rfl rfl rfl rfl rfl rfl hl.1 rfl (Nat.le_of_ble_eq_true rfl) ⟨Nat.zero_le _, Nat.zero_le _⟩ dX3_beside_1 rfl (fun H locs hP hD hS => ?_)
  refine W.eq (g2 := F0 m 4 ls []) rfl ?_
  rw [hr1] at hR hst lk hi
  subst hR
  have hk9 := hst.2.2.1 k lk
  have hq9 := hst.2.1
  refine lv_aload_n hx hb dX3_beside_4 rfl (lv_at hl 0 rfl) ?_
  refine lv_iload_n hx hb dX3_beside_5 rfl (lv_at hl 1 rfl) ?_
  refine q_mV (wc' := [(c0, .inr (3, [.ref s0, .ref m0, .int 0])), (m0, .inr (1, [.ref s0, .ref g0, .ref ra, .ref sa, .ref oa, .int (nI r1.1.2.2.2.2), .ref ma, .int (nI r1.2.2)]))]) (wsN := [(c0, .inr (3, [.ref s0, .ref m0, .int 0])), (m0, .inr (1, [.ref s0, .ref g0, .ref ra, .ref sa, .ref oa, .int (nI r1.1.2.2.2.2), .ref ma, .int (nI r1.2.2)])), (g0, .inr (0, [.int r1.1.1.1, .int r1.1.1.2.1, .long r1.1.1.2.2.1, .long r1.1.1.2.2.2.1, .long r1.1.1.2.2.2.2])), (s0, .inr (2, [.ref xa, .ref ya, .int (nI n)])), (xa, .inl (cI, 20, .inl x)), (ya, .inl (cI, 20, .inl y)), (ra, .inl (cI, 105, .inl (fun j9 => nI (r1.1.2.1 j9)))), (sa, .inl (cI, 36, .inl (fun j9 => nI (r1.1.2.2.1 j9)))), (oa, .inl (cI, 400, .inl r1.1.2.2.2.1)), (ma, .inl (cI, 20, .inl r1.2.1))]) (As := [.int (nI k)]) (rest := []) ⟨hx, hb, hml, hown, hts⟩ (c_X3_requireCell l dC dI c0 m0 s0 g0 ra sa oa ma 0 (nI r1.2.2) r1.1.2.2.2.2 (nI k) (r_out_k lk (by omega))) (cwV 1 hts gX3_beside_X3_requireCell rfl rfl rfl (by decide +kernel) ⟨Nat.le_of_ble_eq_true rfl, Nat.le_of_ble_eq_true rfl⟩) hK hP hD hS [0, 1] [] 3 0 rfl rfl rfl rfl rfl rfl rfl rfl rfl hl.1 rfl (Nat.le_of_ble_eq_true rfl) ⟨Nat.zero_le _, Nat.zero_le _⟩ dX3_beside_6 rfl (fun H locs hP hD hS => ?_)
  refine W.eq (g2 := F0 m 9 ls []) rfl ?_
  refine lv_iload_n hx hb dX3_beside_9 rfl (lv_at hl 2 rfl) ?_
  refine lv_aload_n hx hb dX3_beside_10 rfl (lv_at hl 0 rfl) ?_
  refine va_get (D := (dC, dI)) (ci := 3) (v := .ref m0) (C := RX3) (T := TX3) (N := 3) hx hb hts (by decide +kernel) hown hK hP 0 rfl rfl 1 (by decide) (hts (.fieldLink RX3 21 "CircleCells" "mosaic" "LCircleCells$Mosaic;") (by decide +kernel)) (fun _ h9 => h9) rfl dX3_beside_11 ?_
  refine lv_iload_n hx hb dX3_beside_14 rfl (lv_at hl 1 rfl) ?_
  refine q_cV (As := [.int (nI k)]) (rest := [.int i]) ⟨hx, hb, hml, hown, hts⟩ (c_X1_sideCount l dC dI m0 s0 g0 ra sa oa ma cI (nI r1.1.2.2.2.2) (nI r1.2.2) r1.1.2.2.1 k (by omega) (by omega)) (cwV 1 hts gX3_beside_X1_sideCount rfl rfl rfl (by decide +kernel) ⟨Nat.le_of_ble_eq_true rfl, Nat.le_of_ble_eq_true rfl⟩) (q_pV hK hP [1, 7] [0] 1 1 rfl rfl rfl rfl rfl rfl) rfl hl.1 rfl (Nat.le_of_ble_eq_true rfl) ⟨Nat.zero_le _, Nat.zero_le _⟩ dX3_beside_15 ?_
  refine q_tS (en := q_IO) (wc' := []) (wsN := [(c0, .inr (3, [.ref s0, .ref m0, .int 0])), (m0, .inr (1, [.ref s0, .ref g0, .ref ra, .ref sa, .ref oa, .int (nI r1.1.2.2.2.2), .ref ma, .int (nI r1.2.2)])), (g0, .inr (0, [.int r1.1.1.1, .int r1.1.1.2.1, .long r1.1.1.2.2.1, .long r1.1.1.2.2.2.1, .long r1.1.1.2.2.2.2])), (s0, .inr (2, [.ref xa, .ref ya, .int (nI n)])), (xa, .inl (cI, 20, .inl x)), (ya, .inl (cI, 20, .inl y)), (ra, .inl (cI, 105, .inl (fun j9 => nI (r1.1.2.1 j9)))), (sa, .inl (cI, 36, .inl (fun j9 => nI (r1.1.2.2.1 j9)))), (oa, .inl (cI, 400, .inl r1.1.2.2.2.1)), (ma, .inl (cI, 20, .inl r1.2.1))]) (As := [.int i, .int (nI (r1.1.2.2.1 (k + 1) - r1.1.2.2.1 k))]) (rest := []) ⟨hx, hb, hml, hown, hts⟩ (t1_X3_requireIndex l hst9 dC dI i (nI (r1.1.2.2.1 (k + 1) - r1.1.2.2.1 k)) hi) (va_cwS 2 hts gX3_beside_X3_requireIndex rfl rfl rfl (by decide +kernel) ⟨Nat.le_of_ble_eq_true rfl, Nat.le_of_ble_eq_true rfl⟩) hE hK hP hD hS [] [] rfl rfl rfl rfl rfl rfl hl.1 rfl (Nat.le_of_ble_eq_true rfl) ⟨Nat.le_of_ble_eq_true rfl, Nat.le_of_ble_eq_true rfl⟩ dX3_beside_18 rfl (fun H locs q9 ce hP hD hS hq9 hcv hcl => ?_)
  exact q_tout hP hS hq9 hcv hcl hout hlocks
set_option maxHeartbeats 4000000 in
set_option maxRecDepth 100000 in
theorem c_X3_hull (l : Launch) (dC : Nat → ClassId) (dI : Nat → Nat → Nat) (c0 m0 s0 g0 ra sa oa ma xa ya : Nat) (cI : ClassId) (x y : Nat → Int32) (st : Int32) (z : (Int32 × Int32 × Int64 × Int64 × Int64) × (Nat → Nat) × (Nat → Nat) × (Nat → Int32) × Nat) (rm : Nat → Int32) (rc n : Nat) (i : Int32) (ln : n ≤ 20) (lr : ∀ j, z.2.1 j < 20) (ls0 : z.2.2.1 0 = 0) (hst : j_st (j_refr x y n st z rm rc)) (hi : i = -1 ∨ r_out i (nI (j_refr x y n st z rm rc).2.2) = false) (R : ((Int32 × Int32 × Int64 × Int64 × Int64) × (Nat → Nat) × (Nat → Nat) × (Nat → Int32) × Nat) × (Nat → Int32) × Nat) (hR : j_refr x y n st z rm rc = R) : Met l yX3_hull wsX3_hull ({ frames := 6, cells := 0, slots := 0, locals := 137 }) (q_Pm (dC, dI) [.ref c0, .int i] [(c0, .inr (3, [.ref s0, .ref m0, .int st])), (m0, .inr (1, [.ref s0, .ref g0, .ref ra, .ref sa, .ref oa, .int (nI z.2.2.2.2), .ref ma, .int (nI rc)])), (g0, .inr (0, [.int z.1.1, .int z.1.2.1, .long z.1.2.2.1, .long z.1.2.2.2.1, .long z.1.2.2.2.2])), (s0, .inr (2, [.ref xa, .ref ya, .int (nI n)])), (xa, .inl (cI, 20, .inl x)), (ya, .inl (cI, 20, .inl y)), (ra, .inl (cI, 105, .inl (fun j9 => nI (z.2.1 j9)))), (sa, .inl (cI, 36, .inl (fun j9 => nI (z.2.2.1 j9)))), (oa, .inl (cI, 400, .inl z.2.2.2.1)), (ma, .inl (cI, 20, .inl rm))] [(cI, .int)]) (q_Qm (dC, dI) (q_in [(c0, .inr (3, [.ref s0, .ref m0, .int st])), (m0, .inr (1, [.ref s0, .ref g0, .ref ra, .ref sa, .ref oa, .int (nI z.2.2.2.2), .ref ma, .int (nI rc)])), (g0, .inr (0, [.int z.1.1, .int z.1.2.1, .long z.1.2.2.1, .long z.1.2.2.2.1, .long z.1.2.2.2.2])), (s0, .inr (2, [.ref xa, .ref ya, .int (nI n)])), (xa, .inl (cI, 20, .inl x)), (ya, .inl (cI, 20, .inl y)), (ra, .inl (cI, 105, .inl (fun j9 => nI (z.2.1 j9)))), (sa, .inl (cI, 36, .inl (fun j9 => nI (z.2.2.1 j9)))), (oa, .inl (cI, 400, .inl z.2.2.2.1)), (ma, .inl (cI, 20, .inl rm))]) (some (.int (j_hulV i R))) [(c0, .inr (3, [.ref s0, .ref m0, .int 0])), (m0, .inr (1, [.ref s0, .ref g0, .ref ra, .ref sa, .ref oa, .int (nI R.1.2.2.2.2), .ref ma, .int (nI R.2.2)])), (g0, .inr (0, [.int R.1.1.1, .int R.1.1.2.1, .long R.1.1.2.2.1, .long R.1.1.2.2.2.1, .long R.1.1.2.2.2.2])), (s0, .inr (2, [.ref xa, .ref ya, .int (nI n)])), (xa, .inl (cI, 20, .inl x)), (ya, .inl (cI, 20, .inl y)), (ra, .inl (cI, 105, .inl (fun j9 => nI (R.1.2.1 j9)))), (sa, .inl (cI, 36, .inl (fun j9 => nI (R.1.2.2.1 j9)))), (oa, .inl (cI, 400, .inl R.1.2.2.2.1)), (ma, .inl (cI, 20, .inl R.2.1))]) 0 0 (q_in [(c0, .inr (3, [.ref s0, .ref m0, .int st])), (m0, .inr (1, [.ref s0, .ref g0, .ref ra, .ref sa, .ref oa, .int (nI z.2.2.2.2), .ref ma, .int (nI rc)])), (g0, .inr (0, [.int z.1.1, .int z.1.2.1, .long z.1.2.2.1, .long z.1.2.2.2.1, .long z.1.2.2.2.2])), (s0, .inr (2, [.ref xa, .ref ya, .int (nI n)])), (xa, .inl (cI, 20, .inl x)), (ya, .inl (cI, 20, .inl y)), (ra, .inl (cI, 105, .inl (fun j9 => nI (z.2.1 j9)))), (sa, .inl (cI, 36, .inl (fun j9 => nI (z.2.2.1 j9)))), (oa, .inl (cI, 400, .inl z.2.2.2.1)), (ma, .inl (cI, 20, .inl rm))]) := by
  refine Met.ofW (cc := cX3_hull) (maxL := 2) (ret := (some .int)) (by decide) rfl ?_
  intro p e s m args below meth c s₁ B hml hv
  obtain ⟨rfl, hP, hK, hD0⟩ := hv
  have hx := B.exec
  have hb := B.bytes
  have hr := B.returns
  have hts := atoms_spec (ws := wsX3_hull) B.pre
  have hown : s.vm.findClass RX3 = some m.cls := findClass_of_methodNamed B.named
  have hlocks := B.notSynchronized
  have hD := q_inD hD0
  generalize hAe : q_in [(c0, .inr (3, [.ref s0, .ref m0, .int st])), (m0, .inr (1, [.ref s0, .ref g0, .ref ra, .ref sa, .ref oa, .int (nI z.2.2.2.2), .ref ma, .int (nI rc)])), (g0, .inr (0, [.int z.1.1, .int z.1.2.1, .long z.1.2.2.1, .long z.1.2.2.2.1, .long z.1.2.2.2.2])), (s0, .inr (2, [.ref xa, .ref ya, .int (nI n)])), (xa, .inl (cI, 20, .inl x)), (ya, .inl (cI, 20, .inl y)), (ra, .inl (cI, 105, .inl (fun j9 => nI (z.2.1 j9)))), (sa, .inl (cI, 36, .inl (fun j9 => nI (z.2.2.1 j9)))), (oa, .inl (cI, 400, .inl z.2.2.2.1)), (ma, .inl (cI, 20, .inl rm))] = A at hD ⊢
  have hS : va_S A s.heap s.heap [] := va_S.rf
  have hP : va_P (dC, dI) vwCl [(c0, .inr (3, [.ref s0, .ref m0, .int st])), (m0, .inr (1, [.ref s0, .ref g0, .ref ra, .ref sa, .ref oa, .int (nI z.2.2.2.2), .ref ma, .int (nI rc)])), (g0, .inr (0, [.int z.1.1, .int z.1.2.1, .long z.1.2.2.1, .long z.1.2.2.2.1, .long z.1.2.2.2.2])), (s0, .inr (2, [.ref xa, .ref ya, .int (nI n)])), (xa, .inl (cI, 20, .inl x)), (ya, .inl (cI, 20, .inl y)), (ra, .inl (cI, 105, .inl (fun j9 => nI (z.2.1 j9)))), (sa, .inl (cI, 36, .inl (fun j9 => nI (z.2.2.1 j9)))), (oa, .inl (cI, 400, .inl z.2.2.2.1)), (ma, .inl (cI, 20, .inl rm))] s.heap := hP
  have hl := lv_entry ([.ref c0, .int i]) (n := 2) (Nat.le_of_ble_eq_true rfl)
  rw [lg_entry_eq]
  generalize (lg_sl ([.ref c0, .int i]) ++ List.replicate (2 - (lg_sl ([.ref c0, .int i])).length) Slot.unset).toArray = ls at hl ⊢
  have hl : lv_has ls 2 [(0, .ref c0), (1, .int i)] := hl
  refine lv_aload_n hx hb dX3_hull_0 rfl (lv_at hl 0 rfl) ?_
  obtain ⟨r1, hr1⟩ : ∃ r : ((Int32 × Int32 × Int64 × Int64 × Int64) × (Nat → Nat) × (Nat → Nat) × (Nat → Int32) × Nat) × (Nat → Int32) × Nat, j_refr x y n st z rm rc = r := ⟨_, rfl⟩
  refine q_mV (wc' := [(c0, .inr (3, [.ref s0, .ref m0, .int 0])), (m0, .inr (1, [.ref s0, .ref g0, .ref ra, .ref sa, .ref oa, .int (nI r1.1.2.2.2.2), .ref ma, .int (nI r1.2.2)])), (g0, .inr (0, [.int r1.1.1.1, .int r1.1.1.2.1, .long r1.1.1.2.2.1, .long r1.1.1.2.2.2.1, .long r1.1.1.2.2.2.2])), (s0, .inr (2, [.ref xa, .ref ya, .int (nI n)])), (xa, .inl (cI, 20, .inl x)), (ya, .inl (cI, 20, .inl y)), (ra, .inl (cI, 105, .inl (fun j9 => nI (r1.1.2.1 j9)))), (sa, .inl (cI, 36, .inl (fun j9 => nI (r1.1.2.2.1 j9)))), (oa, .inl (cI, 400, .inl r1.1.2.2.2.1)), (ma, .inl (cI, 20, .inl r1.2.1))]) (wsN := [(c0, .inr (3, [.ref s0, .ref m0, .int 0])), (m0, .inr (1, [.ref s0, .ref g0, .ref ra, .ref sa, .ref oa, .int (nI r1.1.2.2.2.2), .ref ma, .int (nI r1.2.2)])), (g0, .inr (0, [.int r1.1.1.1, .int r1.1.1.2.1, .long r1.1.1.2.2.1, .long r1.1.1.2.2.2.1, .long r1.1.1.2.2.2.2])), (s0, .inr (2, [.ref xa, .ref ya, .int (nI n)])), (xa, .inl (cI, 20, .inl x)), (ya, .inl (cI, 20, .inl y)), (ra, .inl (cI, 105, .inl (fun j9 => nI (r1.1.2.1 j9)))), (sa, .inl (cI, 36, .inl (fun j9 => nI (r1.1.2.2.1 j9)))), (oa, .inl (cI, 400, .inl r1.1.2.2.2.1)), (ma, .inl (cI, 20, .inl r1.2.1))]) (As := []) (rest := []) ⟨hx, hb, hml, hown, hts⟩ (c_X3_refresh l dC dI c0 m0 s0 g0 ra sa oa ma xa ya cI x y st (by omega) rm rc n (by omega) lr ls0 r1 hr1) (cwV 0 hts gX3_hull_X3_refresh rfl rfl rfl (by decide +kernel) ⟨Nat.le_of_ble_eq_true rfl, Nat.le_of_ble_eq_true rfl⟩) hK hP hD hS [0, 1, 2, 3, 4, 5, 6, 7, 8, 9] [0] 3 0 rfl rfl rfl rfl rfl rfl rfl rfl rfl hl.1 rfl (Nat.le_of_ble_eq_true rfl) ⟨Nat.zero_le _, Nat.zero_le _⟩ dX3_hull_1 rfl (fun H locs hP hD hS => ?_)
  refine W.eq (g2 := F0 m 4 ls []) rfl ?_
  rw [hr1] at hR hst hi
  subst hR
  have hq9 := hst.2.2.2
  refine lv_iload_n hx hb dX3_hull_4 rfl (lv_at hl 1 rfl) ?_
  refine lv_iconst (v := (-1)) hx hb dX3_hull_5 (by decide) ?_
  refine lv_icmp_ne (tgt := 17) hx hb dX3_hull_6 (by decide) (fun c6 => ?_) (fun c6 => ?_)
  · have hi := hi.resolve_left c6
    rw [j_hulV, if_neg c6]
    obtain ⟨t, ht, rfl⟩ := r_out_f (by omega) hi
    rw [nI_clamp (by omega)]
    refine lv_iload_n hx hb dX3_hull_17 rfl (lv_at hl 1 rfl) ?_
    refine lv_aload_n hx hb dX3_hull_18 rfl (lv_at hl 0 rfl) ?_
    refine va_get (D := (dC, dI)) (ci := 3) (v := .ref m0) (C := RX3) (T := TX3) (N := 3) hx hb hts (by decide +kernel) hown hK hP 0 rfl rfl 1 (by decide) (hts (.fieldLink RX3 21 "CircleCells" "mosaic" "LCircleCells$Mosaic;") (by decide +kernel)) (fun _ h9 => h9) rfl dX3_hull_19 ?_
    refine va_get (D := (dC, dI)) (ci := 1) (v := .int (nI r1.2.2)) (C := RX1) (T := TX1) (N := 8) hx hb hts (by decide +kernel) hown hK hP 1 rfl rfl 7 (by decide) (hts (.fieldLink RX3 115 "CircleCells$Mosaic" "rimCount" "I") (by decide +kernel)) (fun _ h9 => h9) rfl dX3_hull_22 ?_
    refine q_mS (wc' := []) (wsN := [(c0, .inr (3, [.ref s0, .ref m0, .int 0])), (m0, .inr (1, [.ref s0, .ref g0, .ref ra, .ref sa, .ref oa, .int (nI r1.1.2.2.2.2), .ref ma, .int (nI r1.2.2)])), (g0, .inr (0, [.int r1.1.1.1, .int r1.1.1.2.1, .long r1.1.1.2.2.1, .long r1.1.1.2.2.2.1, .long r1.1.1.2.2.2.2])), (s0, .inr (2, [.ref xa, .ref ya, .int (nI n)])), (xa, .inl (cI, 20, .inl x)), (ya, .inl (cI, 20, .inl y)), (ra, .inl (cI, 105, .inl (fun j9 => nI (r1.1.2.1 j9)))), (sa, .inl (cI, 36, .inl (fun j9 => nI (r1.1.2.2.1 j9)))), (oa, .inl (cI, 400, .inl r1.1.2.2.2.1)), (ma, .inl (cI, 20, .inl r1.2.1))]) (As := [.int (nI t), .int (nI r1.2.2)]) (rest := []) ⟨hx, hb, hml, hown, hts⟩ (c_X3_requireIndex l dC dI (nI t) (nI r1.2.2) hi) (va_cwS 2 hts gX3_hull_X3_requireIndex rfl rfl rfl (by decide +kernel) ⟨Nat.le_of_ble_eq_true rfl, Nat.le_of_ble_eq_true rfl⟩) hK hP hD hS [] [] rfl rfl rfl rfl rfl rfl hl.1 rfl (Nat.le_of_ble_eq_true rfl) ⟨Nat.zero_le _, Nat.zero_le _⟩ dX3_hull_25 rfl (fun H locs hP hD hS => ?_)
    refine W.eq (g2 := F0 m 28 ls []) rfl ?_
    refine lv_aload_n hx hb dX3_hull_28 rfl (lv_at hl 0 rfl) ?_
    refine va_get (D := (dC, dI)) (ci := 3) (v := .ref m0) (C := RX3) (T := TX3) (N := 3) hx hb hts (by decide +kernel) hown hK hP 0 rfl rfl 1 (by decide) (hts (.fieldLink RX3 21 "CircleCells" "mosaic" "LCircleCells$Mosaic;") (by decide +kernel)) (fun _ h9 => h9) rfl dX3_hull_29 ?_
    refine va_get (D := (dC, dI)) (ci := 1) (v := .ref ma) (C := RX1) (T := TX1) (N := 8) hx hb hts (by decide +kernel) hown hK hP 1 rfl rfl 6 (by decide) (hts (.fieldLink RX3 118 "CircleCells$Mosaic" "rim" "[I") (by decide +kernel)) (fun _ h9 => h9) rfl dX3_hull_32 ?_
    refine lv_iload_n hx hb dX3_hull_35 rfl (lv_at hl 1 rfl) ?_
    refine q_iald hx hb hK hP 9 0 rfl rfl (t) rfl (by omega) (by decide) dX3_hull_36 ?_
    exact W.iret (v := r1.2.1 t) hx hb hr (q_retm hP hS) hS.2.2 dX3_hull_37
  · rw [j_hulV, if_pos c6]
    refine lv_aload_n hx hb dX3_hull_9 rfl (lv_at hl 0 rfl) ?_
    refine va_get (D := (dC, dI)) (ci := 3) (v := .ref m0) (C := RX3) (T := TX3) (N := 3) hx hb hts (by decide +kernel) hown hK hP 0 rfl rfl 1 (by decide) (hts (.fieldLink RX3 21 "CircleCells" "mosaic" "LCircleCells$Mosaic;") (by decide +kernel)) (fun _ h9 => h9) rfl dX3_hull_10 ?_
    refine va_get (D := (dC, dI)) (ci := 1) (v := .int (nI r1.2.2)) (C := RX1) (T := TX1) (N := 8) hx hb hts (by decide +kernel) hown hK hP 1 rfl rfl 7 (by decide) (hts (.fieldLink RX3 115 "CircleCells$Mosaic" "rimCount" "I") (by decide +kernel)) (fun _ h9 => h9) rfl dX3_hull_13 ?_
    exact W.iret (v := nI r1.2.2) hx hb hr (q_retm hP hS) hS.2.2 dX3_hull_16
set_option maxHeartbeats 4000000 in
set_option maxRecDepth 100000 in
theorem t1_X3_hull (l : Launch) (hst9 : l.stackTraces = false) (dC : Nat → ClassId) (dI : Nat → Nat → Nat) (c0 m0 s0 g0 ra sa oa ma xa ya : Nat) (cI : ClassId) (x y : Nat → Int32) (st : Int32) (z : (Int32 × Int32 × Int64 × Int64 × Int64) × (Nat → Nat) × (Nat → Nat) × (Nat → Int32) × Nat) (rm : Nat → Int32) (rc n : Nat) (i : Int32) (ln : n ≤ 20) (lr : ∀ j, z.2.1 j < 20) (ls0 : z.2.2.1 0 = 0) (hi1 : ¬ i = -1) (hi : r_out i (nI (j_refr x y n st z rm rc).2.2) = true) (R : ((Int32 × Int32 × Int64 × Int64 × Int64) × (Nat → Nat) × (Nat → Nat) × (Nat → Int32) × Nat) × (Nat → Int32) × Nat) (hR : j_refr x y n st z rm rc = R) : vx_Met l yX3_hull wsX3_hull ({ frames := 7, cells := 1, slots := 6, locals := 137 }) (q_Px (dC, dI) [.ref c0, .int i] [(c0, .inr (3, [.ref s0, .ref m0, .int st])), (m0, .inr (1, [.ref s0, .ref g0, .ref ra, .ref sa, .ref oa, .int (nI z.2.2.2.2), .ref ma, .int (nI rc)])), (g0, .inr (0, [.int z.1.1, .int z.1.2.1, .long z.1.2.2.1, .long z.1.2.2.2.1, .long z.1.2.2.2.2])), (s0, .inr (2, [.ref xa, .ref ya, .int (nI n)])), (xa, .inl (cI, 20, .inl x)), (ya, .inl (cI, 20, .inl y)), (ra, .inl (cI, 105, .inl (fun j9 => nI (z.2.1 j9)))), (sa, .inl (cI, 36, .inl (fun j9 => nI (z.2.2.1 j9)))), (oa, .inl (cI, 400, .inl z.2.2.2.1)), (ma, .inl (cI, 20, .inl rm))] [(cI, .int)]) q_no (q_XX (dC, dI) (q_in [(c0, .inr (3, [.ref s0, .ref m0, .int st])), (m0, .inr (1, [.ref s0, .ref g0, .ref ra, .ref sa, .ref oa, .int (nI z.2.2.2.2), .ref ma, .int (nI rc)])), (g0, .inr (0, [.int z.1.1, .int z.1.2.1, .long z.1.2.2.1, .long z.1.2.2.2.1, .long z.1.2.2.2.2])), (s0, .inr (2, [.ref xa, .ref ya, .int (nI n)])), (xa, .inl (cI, 20, .inl x)), (ya, .inl (cI, 20, .inl y)), (ra, .inl (cI, 105, .inl (fun j9 => nI (z.2.1 j9)))), (sa, .inl (cI, 36, .inl (fun j9 => nI (z.2.2.1 j9)))), (oa, .inl (cI, 400, .inl z.2.2.2.1)), (ma, .inl (cI, 20, .inl rm))]) q_IO [(c0, .inr (3, [.ref s0, .ref m0, .int 0])), (m0, .inr (1, [.ref s0, .ref g0, .ref ra, .ref sa, .ref oa, .int (nI R.1.2.2.2.2), .ref ma, .int (nI R.2.2)])), (g0, .inr (0, [.int R.1.1.1, .int R.1.1.2.1, .long R.1.1.2.2.1, .long R.1.1.2.2.2.1, .long R.1.1.2.2.2.2])), (s0, .inr (2, [.ref xa, .ref ya, .int (nI n)])), (xa, .inl (cI, 20, .inl x)), (ya, .inl (cI, 20, .inl y)), (ra, .inl (cI, 105, .inl (fun j9 => nI (R.1.2.1 j9)))), (sa, .inl (cI, 36, .inl (fun j9 => nI (R.1.2.2.1 j9)))), (oa, .inl (cI, 400, .inl R.1.2.2.2.1)), (ma, .inl (cI, 20, .inl R.2.1))]) 1 6 (q_in [(c0, .inr (3, [.ref s0, .ref m0, .int st])), (m0, .inr (1, [.ref s0, .ref g0, .ref ra, .ref sa, .ref oa, .int (nI z.2.2.2.2), .ref ma, .int (nI rc)])), (g0, .inr (0, [.int z.1.1, .int z.1.2.1, .long z.1.2.2.1, .long z.1.2.2.2.1, .long z.1.2.2.2.2])), (s0, .inr (2, [.ref xa, .ref ya, .int (nI n)])), (xa, .inl (cI, 20, .inl x)), (ya, .inl (cI, 20, .inl y)), (ra, .inl (cI, 105, .inl (fun j9 => nI (z.2.1 j9)))), (sa, .inl (cI, 36, .inl (fun j9 => nI (z.2.2.1 j9)))), (oa, .inl (cI, 400, .inl z.2.2.2.1)), (ma, .inl (cI, 20, .inl rm))]) := by
  refine vx_ofW (cc := cX3_hull) (maxL := 2) (ret := (some .int)) (by decide) rfl ?_
  intro p e s m args below meth c s₁ B hml hout hv
  obtain ⟨rfl, hP, hK, hD0, hE⟩ := hv
  have hx := B.exec
  have hb := B.bytes
  have hr := B.returns
  have hts := atoms_spec (ws := wsX3_hull) B.pre
  have hown : s.vm.findClass RX3 = some m.cls := findClass_of_methodNamed B.named
  have hlocks := B.notSynchronized
  have hD := q_inD hD0
  generalize hAe : q_in [(c0, .inr (3, [.ref s0, .ref m0, .int st])), (m0, .inr (1, [.ref s0, .ref g0, .ref ra, .ref sa, .ref oa, .int (nI z.2.2.2.2), .ref ma, .int (nI rc)])), (g0, .inr (0, [.int z.1.1, .int z.1.2.1, .long z.1.2.2.1, .long z.1.2.2.2.1, .long z.1.2.2.2.2])), (s0, .inr (2, [.ref xa, .ref ya, .int (nI n)])), (xa, .inl (cI, 20, .inl x)), (ya, .inl (cI, 20, .inl y)), (ra, .inl (cI, 105, .inl (fun j9 => nI (z.2.1 j9)))), (sa, .inl (cI, 36, .inl (fun j9 => nI (z.2.2.1 j9)))), (oa, .inl (cI, 400, .inl z.2.2.2.1)), (ma, .inl (cI, 20, .inl rm))] = A at hD hE ⊢
  have hS : va_S A s.heap s.heap [] := va_S.rf
  have hP : va_P (dC, dI) vwCl [(c0, .inr (3, [.ref s0, .ref m0, .int st])), (m0, .inr (1, [.ref s0, .ref g0, .ref ra, .ref sa, .ref oa, .int (nI z.2.2.2.2), .ref ma, .int (nI rc)])), (g0, .inr (0, [.int z.1.1, .int z.1.2.1, .long z.1.2.2.1, .long z.1.2.2.2.1, .long z.1.2.2.2.2])), (s0, .inr (2, [.ref xa, .ref ya, .int (nI n)])), (xa, .inl (cI, 20, .inl x)), (ya, .inl (cI, 20, .inl y)), (ra, .inl (cI, 105, .inl (fun j9 => nI (z.2.1 j9)))), (sa, .inl (cI, 36, .inl (fun j9 => nI (z.2.2.1 j9)))), (oa, .inl (cI, 400, .inl z.2.2.2.1)), (ma, .inl (cI, 20, .inl rm))] s.heap := hP
  have hl := lv_entry ([.ref c0, .int i]) (n := 2) (Nat.le_of_ble_eq_true rfl)
  rw [lg_entry_eq]
  generalize (lg_sl ([.ref c0, .int i]) ++ List.replicate (2 - (lg_sl ([.ref c0, .int i])).length) Slot.unset).toArray = ls at hl ⊢
  have hl : lv_has ls 2 [(0, .ref c0), (1, .int i)] := hl
  refine lv_aload_n hx hb dX3_hull_0 rfl (lv_at hl 0 rfl) ?_
  obtain ⟨r1, hr1⟩ : ∃ r : ((Int32 × Int32 × Int64 × Int64 × Int64) × (Nat → Nat) × (Nat → Nat) × (Nat → Int32) × Nat) × (Nat → Int32) × Nat, j_refr x y n st z rm rc = r := ⟨_, rfl⟩
  refine q_mV (wc' := [(c0, .inr (3, [.ref s0, .ref m0, .int 0])), (m0, .inr (1, [.ref s0, .ref g0, .ref ra, .ref sa, .ref oa, .int (nI r1.1.2.2.2.2), .ref ma, .int (nI r1.2.2)])), (g0, .inr (0, [.int r1.1.1.1, .int r1.1.1.2.1, .long r1.1.1.2.2.1, .long r1.1.1.2.2.2.1, .long r1.1.1.2.2.2.2])), (s0, .inr (2, [.ref xa, .ref ya, .int (nI n)])), (xa, .inl (cI, 20, .inl x)), (ya, .inl (cI, 20, .inl y)), (ra, .inl (cI, 105, .inl (fun j9 => nI (r1.1.2.1 j9)))), (sa, .inl (cI, 36, .inl (fun j9 => nI (r1.1.2.2.1 j9)))), (oa, .inl (cI, 400, .inl r1.1.2.2.2.1)), (ma, .inl (cI, 20, .inl r1.2.1))]) (wsN := [(c0, .inr (3, [.ref s0, .ref m0, .int 0])), (m0, .inr (1, [.ref s0, .ref g0, .ref ra, .ref sa, .ref oa, .int (nI r1.1.2.2.2.2), .ref ma, .int (nI r1.2.2)])), (g0, .inr (0, [.int r1.1.1.1, .int r1.1.1.2.1, .long r1.1.1.2.2.1, .long r1.1.1.2.2.2.1, .long r1.1.1.2.2.2.2])), (s0, .inr (2, [.ref xa, .ref ya, .int (nI n)])), (xa, .inl (cI, 20, .inl x)), (ya, .inl (cI, 20, .inl y)), (ra, .inl (cI, 105, .inl (fun j9 => nI (r1.1.2.1 j9)))), (sa, .inl (cI, 36, .inl (fun j9 => nI (r1.1.2.2.1 j9)))), (oa, .inl (cI, 400, .inl r1.1.2.2.2.1)), (ma, .inl (cI, 20, .inl r1.2.1))]) (As := []) (rest := []) ⟨hx, hb, hml, hown, hts⟩ (c_X3_refresh l dC dI c0 m0 s0 g0 ra sa oa ma xa ya cI x y st (by omega) rm rc n (by omega) lr ls0 r1 hr1) (cwV 0 hts gX3_hull_X3_refresh rfl rfl rfl (by decide +kernel) ⟨Nat.le_of_ble_eq_true rfl, Nat.le_of_ble_eq_true rfl⟩) hK hP hD hS [0, 1, 2, 3, 4, 5, 6, 7, 8, 9] [0] 3 0 rfl rfl rfl rfl rfl rfl rfl rfl rfl hl.1 rfl (Nat.le_of_ble_eq_true rfl) ⟨Nat.zero_le _, Nat.zero_le _⟩ dX3_hull_1 rfl (fun H locs hP hD hS => ?_)
  refine W.eq (g2 := F0 m 4 ls []) rfl ?_
  rw [hr1] at hR hi
  subst hR
  refine lv_iload_n hx hb dX3_hull_4 rfl (lv_at hl 1 rfl) ?_
  refine lv_iconst (v := (-1)) hx hb dX3_hull_5 (by decide) ?_
  refine lv_icmp_ne (tgt := 17) hx hb dX3_hull_6 (by decide) (fun c6 => ?_) (fun c6 => ?_)
  · refine lv_iload_n hx hb dX3_hull_17 rfl (lv_at hl 1 rfl) ?_
    refine lv_aload_n hx hb dX3_hull_18 rfl (lv_at hl 0 rfl) ?_
    refine va_get (D := (dC, dI)) (ci := 3) (v := .ref m0) (C := RX3) (T := TX3) (N := 3) hx hb hts (by decide +kernel) hown hK hP 0 rfl rfl 1 (by decide) (hts (.fieldLink RX3 21 "CircleCells" "mosaic" "LCircleCells$Mosaic;") (by decide +kernel)) (fun _ h9 => h9) rfl dX3_hull_19 ?_
    refine va_get (D := (dC, dI)) (ci := 1) (v := .int (nI r1.2.2)) (C := RX1) (T := TX1) (N := 8) hx hb hts (by decide +kernel) hown hK hP 1 rfl rfl 7 (by decide) (hts (.fieldLink RX3 115 "CircleCells$Mosaic" "rimCount" "I") (by decide +kernel)) (fun _ h9 => h9) rfl dX3_hull_22 ?_
    refine q_tS (en := q_IO) (wc' := []) (wsN := [(c0, .inr (3, [.ref s0, .ref m0, .int 0])), (m0, .inr (1, [.ref s0, .ref g0, .ref ra, .ref sa, .ref oa, .int (nI r1.1.2.2.2.2), .ref ma, .int (nI r1.2.2)])), (g0, .inr (0, [.int r1.1.1.1, .int r1.1.1.2.1, .long r1.1.1.2.2.1, .long r1.1.1.2.2.2.1, .long r1.1.1.2.2.2.2])), (s0, .inr (2, [.ref xa, .ref ya, .int (nI n)])), (xa, .inl (cI, 20, .inl x)), (ya, .inl (cI, 20, .inl y)), (ra, .inl (cI, 105, .inl (fun j9 => nI (r1.1.2.1 j9)))), (sa, .inl (cI, 36, .inl (fun j9 => nI (r1.1.2.2.1 j9)))), (oa, .inl (cI, 400, .inl r1.1.2.2.2.1)), (ma, .inl (cI, 20, .inl r1.2.1))]) (As := [.int i, .int (nI r1.2.2)]) (rest := []) ⟨hx, hb, hml, hown, hts⟩ (t1_X3_requireIndex l hst9 dC dI i (nI r1.2.2) hi) (va_cwS 2 hts gX3_hull_X3_requireIndex rfl rfl rfl (by decide +kernel) ⟨Nat.le_of_ble_eq_true rfl, Nat.le_of_ble_eq_true rfl⟩) hE hK hP hD hS [] [] rfl rfl rfl rfl rfl rfl hl.1 rfl (Nat.le_of_ble_eq_true rfl) ⟨Nat.le_of_ble_eq_true rfl, Nat.le_of_ble_eq_true rfl⟩ dX3_hull_25 rfl (fun H locs q9 ce hP hD hS hq9 hcv hcl => ?_)
    exact q_tout hP hS hq9 hcv hcl hout hlocks
  · exact absurd c6 hi1
set_option maxHeartbeats 4000000 in
set_option maxRecDepth 100000 in
theorem c_X3_around (l : Launch) (dC : Nat → ClassId) (dI : Nat → Nat → Nat) (c0 m0 s0 g0 ra sa oa ma xa ya : Nat) (cI : ClassId) (x y : Nat → Int32) (st : Int32) (z : (Int32 × Int32 × Int64 × Int64 × Int64) × (Nat → Nat) × (Nat → Nat) × (Nat → Int32) × Nat) (rm : Nat → Int32) (rc n : Nat) (px py : Int32) (ln : n ≤ 20) (lr : ∀ j, z.2.1 j < 20) (ls0 : z.2.2.1 0 = 0) (hst : j_st (j_refr x y n st z rm rc)) (hf : r_far px py = false) (R : ((Int32 × Int32 × Int64 × Int64 × Int64) × (Nat → Nat) × (Nat → Nat) × (Nat → Int32) × Nat) × (Nat → Int32) × Nat) (hR : j_refr x y n st z rm rc = R) : Met l yX3_around wsX3_around ({ frames := 6, cells := 0, slots := 0, locals := 137 }) (q_Pm (dC, dI) [.ref c0, .int px, .int py] [(c0, .inr (3, [.ref s0, .ref m0, .int st])), (m0, .inr (1, [.ref s0, .ref g0, .ref ra, .ref sa, .ref oa, .int (nI z.2.2.2.2), .ref ma, .int (nI rc)])), (g0, .inr (0, [.int z.1.1, .int z.1.2.1, .long z.1.2.2.1, .long z.1.2.2.2.1, .long z.1.2.2.2.2])), (s0, .inr (2, [.ref xa, .ref ya, .int (nI n)])), (xa, .inl (cI, 20, .inl x)), (ya, .inl (cI, 20, .inl y)), (ra, .inl (cI, 105, .inl (fun j9 => nI (z.2.1 j9)))), (sa, .inl (cI, 36, .inl (fun j9 => nI (z.2.2.1 j9)))), (oa, .inl (cI, 400, .inl z.2.2.2.1)), (ma, .inl (cI, 20, .inl rm))] [(cI, .int)]) (q_Qm (dC, dI) (q_in [(c0, .inr (3, [.ref s0, .ref m0, .int st])), (m0, .inr (1, [.ref s0, .ref g0, .ref ra, .ref sa, .ref oa, .int (nI z.2.2.2.2), .ref ma, .int (nI rc)])), (g0, .inr (0, [.int z.1.1, .int z.1.2.1, .long z.1.2.2.1, .long z.1.2.2.2.1, .long z.1.2.2.2.2])), (s0, .inr (2, [.ref xa, .ref ya, .int (nI n)])), (xa, .inl (cI, 20, .inl x)), (ya, .inl (cI, 20, .inl y)), (ra, .inl (cI, 105, .inl (fun j9 => nI (z.2.1 j9)))), (sa, .inl (cI, 36, .inl (fun j9 => nI (z.2.2.1 j9)))), (oa, .inl (cI, 400, .inl z.2.2.2.1)), (ma, .inl (cI, 20, .inl rm))]) (some (.int (j_first x y R.1.2.1 R.1.2.2.1 R.1.2.2.2.2 px py 0))) [(c0, .inr (3, [.ref s0, .ref m0, .int 0])), (m0, .inr (1, [.ref s0, .ref g0, .ref ra, .ref sa, .ref oa, .int (nI R.1.2.2.2.2), .ref ma, .int (nI R.2.2)])), (g0, .inr (0, [.int R.1.1.1, .int R.1.1.2.1, .long R.1.1.2.2.1, .long R.1.1.2.2.2.1, .long R.1.1.2.2.2.2])), (s0, .inr (2, [.ref xa, .ref ya, .int (nI n)])), (xa, .inl (cI, 20, .inl x)), (ya, .inl (cI, 20, .inl y)), (ra, .inl (cI, 105, .inl (fun j9 => nI (R.1.2.1 j9)))), (sa, .inl (cI, 36, .inl (fun j9 => nI (R.1.2.2.1 j9)))), (oa, .inl (cI, 400, .inl R.1.2.2.2.1)), (ma, .inl (cI, 20, .inl R.2.1))]) 0 0 (q_in [(c0, .inr (3, [.ref s0, .ref m0, .int st])), (m0, .inr (1, [.ref s0, .ref g0, .ref ra, .ref sa, .ref oa, .int (nI z.2.2.2.2), .ref ma, .int (nI rc)])), (g0, .inr (0, [.int z.1.1, .int z.1.2.1, .long z.1.2.2.1, .long z.1.2.2.2.1, .long z.1.2.2.2.2])), (s0, .inr (2, [.ref xa, .ref ya, .int (nI n)])), (xa, .inl (cI, 20, .inl x)), (ya, .inl (cI, 20, .inl y)), (ra, .inl (cI, 105, .inl (fun j9 => nI (z.2.1 j9)))), (sa, .inl (cI, 36, .inl (fun j9 => nI (z.2.2.1 j9)))), (oa, .inl (cI, 400, .inl z.2.2.2.1)), (ma, .inl (cI, 20, .inl rm))]) := by
  refine Met.ofW (cc := cX3_around) (maxL := 3) (ret := (some .int)) (by decide) rfl ?_
  intro p e s m args below meth c s₁ B hml hv
  obtain ⟨rfl, hP, hK, hD0⟩ := hv
  have hx := B.exec
  have hb := B.bytes
  have hr := B.returns
  have hts := atoms_spec (ws := wsX3_around) B.pre
  have hown : s.vm.findClass RX3 = some m.cls := findClass_of_methodNamed B.named
  have hlocks := B.notSynchronized
  have hD := q_inD hD0
  generalize hAe : q_in [(c0, .inr (3, [.ref s0, .ref m0, .int st])), (m0, .inr (1, [.ref s0, .ref g0, .ref ra, .ref sa, .ref oa, .int (nI z.2.2.2.2), .ref ma, .int (nI rc)])), (g0, .inr (0, [.int z.1.1, .int z.1.2.1, .long z.1.2.2.1, .long z.1.2.2.2.1, .long z.1.2.2.2.2])), (s0, .inr (2, [.ref xa, .ref ya, .int (nI n)])), (xa, .inl (cI, 20, .inl x)), (ya, .inl (cI, 20, .inl y)), (ra, .inl (cI, 105, .inl (fun j9 => nI (z.2.1 j9)))), (sa, .inl (cI, 36, .inl (fun j9 => nI (z.2.2.1 j9)))), (oa, .inl (cI, 400, .inl z.2.2.2.1)), (ma, .inl (cI, 20, .inl rm))] = A at hD ⊢
  have hS : va_S A s.heap s.heap [] := va_S.rf
  have hP : va_P (dC, dI) vwCl [(c0, .inr (3, [.ref s0, .ref m0, .int st])), (m0, .inr (1, [.ref s0, .ref g0, .ref ra, .ref sa, .ref oa, .int (nI z.2.2.2.2), .ref ma, .int (nI rc)])), (g0, .inr (0, [.int z.1.1, .int z.1.2.1, .long z.1.2.2.1, .long z.1.2.2.2.1, .long z.1.2.2.2.2])), (s0, .inr (2, [.ref xa, .ref ya, .int (nI n)])), (xa, .inl (cI, 20, .inl x)), (ya, .inl (cI, 20, .inl y)), (ra, .inl (cI, 105, .inl (fun j9 => nI (z.2.1 j9)))), (sa, .inl (cI, 36, .inl (fun j9 => nI (z.2.2.1 j9)))), (oa, .inl (cI, 400, .inl z.2.2.2.1)), (ma, .inl (cI, 20, .inl rm))] s.heap := hP
  have hl := lv_entry ([.ref c0, .int px, .int py]) (n := 3) (Nat.le_of_ble_eq_true rfl)
  rw [lg_entry_eq]
  generalize (lg_sl ([.ref c0, .int px, .int py]) ++ List.replicate (3 - (lg_sl ([.ref c0, .int px, .int py])).length) Slot.unset).toArray = ls at hl ⊢
  have hl : lv_has ls 3 [(0, .ref c0), (1, .int px), (2, .int py)] := hl
  refine lv_iload_n hx hb dX3_around_0 rfl (lv_at hl 1 rfl) ?_
  refine lv_iload_n hx hb dX3_around_1 rfl (lv_at hl 2 rfl) ?_
  refine q_mS (wc' := []) (wsN := [(c0, .inr (3, [.ref s0, .ref m0, .int st])), (m0, .inr (1, [.ref s0, .ref g0, .ref ra, .ref sa, .ref oa, .int (nI z.2.2.2.2), .ref ma, .int (nI rc)])), (g0, .inr (0, [.int z.1.1, .int z.1.2.1, .long z.1.2.2.1, .long z.1.2.2.2.1, .long z.1.2.2.2.2])), (s0, .inr (2, [.ref xa, .ref ya, .int (nI n)])), (xa, .inl (cI, 20, .inl x)), (ya, .inl (cI, 20, .inl y)), (ra, .inl (cI, 105, .inl (fun j9 => nI (z.2.1 j9)))), (sa, .inl (cI, 36, .inl (fun j9 => nI (z.2.2.1 j9)))), (oa, .inl (cI, 400, .inl z.2.2.2.1)), (ma, .inl (cI, 20, .inl rm))]) (As := [.int px, .int py]) (rest := []) ⟨hx, hb, hml, hown, hts⟩ (c_X3_requirePlace l dC dI px py hf) (va_cwS 2 hts gX3_around_X3_requirePlace rfl rfl rfl (by decide +kernel) ⟨Nat.le_of_ble_eq_true rfl, Nat.le_of_ble_eq_true rfl⟩) hK hP hD hS [] [] rfl rfl rfl rfl rfl rfl hl.1 rfl (Nat.le_of_ble_eq_true rfl) ⟨Nat.zero_le _, Nat.zero_le _⟩ dX3_around_2 rfl (fun H locs hP hD hS => ?_)
  refine W.eq (g2 := F0 m 5 ls []) rfl ?_
  refine lv_aload_n hx hb dX3_around_5 rfl (lv_at hl 0 rfl) ?_
  obtain ⟨r1, hr1⟩ : ∃ r : ((Int32 × Int32 × Int64 × Int64 × Int64) × (Nat → Nat) × (Nat → Nat) × (Nat → Int32) × Nat) × (Nat → Int32) × Nat, j_refr x y n st z rm rc = r := ⟨_, rfl⟩
  refine q_mV (wc' := [(c0, .inr (3, [.ref s0, .ref m0, .int 0])), (m0, .inr (1, [.ref s0, .ref g0, .ref ra, .ref sa, .ref oa, .int (nI r1.1.2.2.2.2), .ref ma, .int (nI r1.2.2)])), (g0, .inr (0, [.int r1.1.1.1, .int r1.1.1.2.1, .long r1.1.1.2.2.1, .long r1.1.1.2.2.2.1, .long r1.1.1.2.2.2.2])), (s0, .inr (2, [.ref xa, .ref ya, .int (nI n)])), (xa, .inl (cI, 20, .inl x)), (ya, .inl (cI, 20, .inl y)), (ra, .inl (cI, 105, .inl (fun j9 => nI (r1.1.2.1 j9)))), (sa, .inl (cI, 36, .inl (fun j9 => nI (r1.1.2.2.1 j9)))), (oa, .inl (cI, 400, .inl r1.1.2.2.2.1)), (ma, .inl (cI, 20, .inl r1.2.1))]) (wsN := [(c0, .inr (3, [.ref s0, .ref m0, .int 0])), (m0, .inr (1, [.ref s0, .ref g0, .ref ra, .ref sa, .ref oa, .int (nI r1.1.2.2.2.2), .ref ma, .int (nI r1.2.2)])), (g0, .inr (0, [.int r1.1.1.1, .int r1.1.1.2.1, .long r1.1.1.2.2.1, .long r1.1.1.2.2.2.1, .long r1.1.1.2.2.2.2])), (s0, .inr (2, [.ref xa, .ref ya, .int (nI n)])), (xa, .inl (cI, 20, .inl x)), (ya, .inl (cI, 20, .inl y)), (ra, .inl (cI, 105, .inl (fun j9 => nI (r1.1.2.1 j9)))), (sa, .inl (cI, 36, .inl (fun j9 => nI (r1.1.2.2.1 j9)))), (oa, .inl (cI, 400, .inl r1.1.2.2.2.1)), (ma, .inl (cI, 20, .inl r1.2.1))]) (As := []) (rest := []) ⟨hx, hb, hml, hown, hts⟩ (c_X3_refresh l dC dI c0 m0 s0 g0 ra sa oa ma xa ya cI x y st (by omega) rm rc n (by omega) lr ls0 r1 hr1) (cwV 0 hts gX3_around_X3_refresh rfl rfl rfl (by decide +kernel) ⟨Nat.le_of_ble_eq_true rfl, Nat.le_of_ble_eq_true rfl⟩) hK hP hD hS [0, 1, 2, 3, 4, 5, 6, 7, 8, 9] [0] 3 0 rfl rfl rfl rfl rfl rfl rfl rfl rfl hl.1 rfl (Nat.le_of_ble_eq_true rfl) ⟨Nat.zero_le _, Nat.zero_le _⟩ dX3_around_6 rfl (fun H locs hP hD hS => ?_)
  refine W.eq (g2 := F0 m 9 ls []) rfl ?_
  rw [hr1] at hR hst
  subst hR
  refine lv_aload_n hx hb dX3_around_9 rfl (lv_at hl 0 rfl) ?_
  refine va_get (D := (dC, dI)) (ci := 3) (v := .ref m0) (C := RX3) (T := TX3) (N := 3) hx hb hts (by decide +kernel) hown hK hP 0 rfl rfl 1 (by decide) (hts (.fieldLink RX3 21 "CircleCells" "mosaic" "LCircleCells$Mosaic;") (by decide +kernel)) (fun _ h9 => h9) rfl dX3_around_10 ?_
  refine lv_iload_n hx hb dX3_around_13 rfl (lv_at hl 1 rfl) ?_
  refine lv_iload_n hx hb dX3_around_14 rfl (lv_at hl 2 rfl) ?_
  refine q_cV (As := [.int px, .int py]) (rest := []) ⟨hx, hb, hml, hown, hts⟩ (c_X1_firstWith l dC dI m0 s0 g0 ra sa oa ma cI xa ya (nI n) (nI r1.2.2) x y r1.1.2.1 r1.1.2.2.1 r1.1.2.2.2.2 px py hst.2.1 (fun d hd => ⟨by have := hst.2.2.1 d hd; omega, (hst.2.2.1 d hd).2⟩) hst.1) (cwV 2 hts gX3_around_X1_firstWith rfl rfl rfl (by decide +kernel) ⟨Nat.le_of_ble_eq_true rfl, Nat.le_of_ble_eq_true rfl⟩) (q_pV hK hP [1, 6, 7, 3, 4, 5] [0] 1 1 rfl rfl rfl rfl rfl rfl) rfl hl.1 rfl (Nat.le_of_ble_eq_true rfl) ⟨Nat.zero_le _, Nat.zero_le _⟩ dX3_around_15 ?_
  exact W.iret (v := j_first x y r1.1.2.1 r1.1.2.2.1 r1.1.2.2.2.2 px py 0) hx hb hr (q_retm hP hS) hS.2.2 dX3_around_18
set_option maxHeartbeats 4000000 in
set_option maxRecDepth 100000 in
theorem t1_X3_around (l : Launch) (hst9 : l.stackTraces = false) (dC : Nat → ClassId) (dI : Nat → Nat → Nat) (c0 m0 s0 g0 ra sa oa ma xa ya : Nat) (cI : ClassId) (x y : Nat → Int32) (st : Int32) (z : (Int32 × Int32 × Int64 × Int64 × Int64) × (Nat → Nat) × (Nat → Nat) × (Nat → Int32) × Nat) (rm : Nat → Int32) (rc n : Nat) (px py : Int32) (hf : r_far px py = true) : vx_Met l yX3_around wsX3_around ({ frames := 7, cells := 1, slots := 6, locals := 103 }) (q_Px (dC, dI) [.ref c0, .int px, .int py] [(c0, .inr (3, [.ref s0, .ref m0, .int st])), (m0, .inr (1, [.ref s0, .ref g0, .ref ra, .ref sa, .ref oa, .int (nI z.2.2.2.2), .ref ma, .int (nI rc)])), (g0, .inr (0, [.int z.1.1, .int z.1.2.1, .long z.1.2.2.1, .long z.1.2.2.2.1, .long z.1.2.2.2.2])), (s0, .inr (2, [.ref xa, .ref ya, .int (nI n)])), (xa, .inl (cI, 20, .inl x)), (ya, .inl (cI, 20, .inl y)), (ra, .inl (cI, 105, .inl (fun j9 => nI (z.2.1 j9)))), (sa, .inl (cI, 36, .inl (fun j9 => nI (z.2.2.1 j9)))), (oa, .inl (cI, 400, .inl z.2.2.2.1)), (ma, .inl (cI, 20, .inl rm))] [(cI, .int)]) q_no (q_XX (dC, dI) (q_in [(c0, .inr (3, [.ref s0, .ref m0, .int st])), (m0, .inr (1, [.ref s0, .ref g0, .ref ra, .ref sa, .ref oa, .int (nI z.2.2.2.2), .ref ma, .int (nI rc)])), (g0, .inr (0, [.int z.1.1, .int z.1.2.1, .long z.1.2.2.1, .long z.1.2.2.2.1, .long z.1.2.2.2.2])), (s0, .inr (2, [.ref xa, .ref ya, .int (nI n)])), (xa, .inl (cI, 20, .inl x)), (ya, .inl (cI, 20, .inl y)), (ra, .inl (cI, 105, .inl (fun j9 => nI (z.2.1 j9)))), (sa, .inl (cI, 36, .inl (fun j9 => nI (z.2.2.1 j9)))), (oa, .inl (cI, 400, .inl z.2.2.2.1)), (ma, .inl (cI, 20, .inl rm))]) q_IA [(c0, .inr (3, [.ref s0, .ref m0, .int st])), (m0, .inr (1, [.ref s0, .ref g0, .ref ra, .ref sa, .ref oa, .int (nI z.2.2.2.2), .ref ma, .int (nI rc)])), (g0, .inr (0, [.int z.1.1, .int z.1.2.1, .long z.1.2.2.1, .long z.1.2.2.2.1, .long z.1.2.2.2.2])), (s0, .inr (2, [.ref xa, .ref ya, .int (nI n)])), (xa, .inl (cI, 20, .inl x)), (ya, .inl (cI, 20, .inl y)), (ra, .inl (cI, 105, .inl (fun j9 => nI (z.2.1 j9)))), (sa, .inl (cI, 36, .inl (fun j9 => nI (z.2.2.1 j9)))), (oa, .inl (cI, 400, .inl z.2.2.2.1)), (ma, .inl (cI, 20, .inl rm))]) 1 6 (q_in [(c0, .inr (3, [.ref s0, .ref m0, .int st])), (m0, .inr (1, [.ref s0, .ref g0, .ref ra, .ref sa, .ref oa, .int (nI z.2.2.2.2), .ref ma, .int (nI rc)])), (g0, .inr (0, [.int z.1.1, .int z.1.2.1, .long z.1.2.2.1, .long z.1.2.2.2.1, .long z.1.2.2.2.2])), (s0, .inr (2, [.ref xa, .ref ya, .int (nI n)])), (xa, .inl (cI, 20, .inl x)), (ya, .inl (cI, 20, .inl y)), (ra, .inl (cI, 105, .inl (fun j9 => nI (z.2.1 j9)))), (sa, .inl (cI, 36, .inl (fun j9 => nI (z.2.2.1 j9)))), (oa, .inl (cI, 400, .inl z.2.2.2.1)), (ma, .inl (cI, 20, .inl rm))]) := by
  refine vx_ofW (cc := cX3_around) (maxL := 3) (ret := (some .int)) (by decide) rfl ?_
  intro p e s m args below meth c s₁ B hml hout hv
  obtain ⟨rfl, hP, hK, hD0, hE⟩ := hv
  have hx := B.exec
  have hb := B.bytes
  have hr := B.returns
  have hts := atoms_spec (ws := wsX3_around) B.pre
  have hown : s.vm.findClass RX3 = some m.cls := findClass_of_methodNamed B.named
  have hlocks := B.notSynchronized
  have hD := q_inD hD0
  generalize hAe : q_in [(c0, .inr (3, [.ref s0, .ref m0, .int st])), (m0, .inr (1, [.ref s0, .ref g0, .ref ra, .ref sa, .ref oa, .int (nI z.2.2.2.2), .ref ma, .int (nI rc)])), (g0, .inr (0, [.int z.1.1, .int z.1.2.1, .long z.1.2.2.1, .long z.1.2.2.2.1, .long z.1.2.2.2.2])), (s0, .inr (2, [.ref xa, .ref ya, .int (nI n)])), (xa, .inl (cI, 20, .inl x)), (ya, .inl (cI, 20, .inl y)), (ra, .inl (cI, 105, .inl (fun j9 => nI (z.2.1 j9)))), (sa, .inl (cI, 36, .inl (fun j9 => nI (z.2.2.1 j9)))), (oa, .inl (cI, 400, .inl z.2.2.2.1)), (ma, .inl (cI, 20, .inl rm))] = A at hD hE ⊢
  have hS : va_S A s.heap s.heap [] := va_S.rf
  have hP : va_P (dC, dI) vwCl [(c0, .inr (3, [.ref s0, .ref m0, .int st])), (m0, .inr (1, [.ref s0, .ref g0, .ref ra, .ref sa, .ref oa, .int (nI z.2.2.2.2), .ref ma, .int (nI rc)])), (g0, .inr (0, [.int z.1.1, .int z.1.2.1, .long z.1.2.2.1, .long z.1.2.2.2.1, .long z.1.2.2.2.2])), (s0, .inr (2, [.ref xa, .ref ya, .int (nI n)])), (xa, .inl (cI, 20, .inl x)), (ya, .inl (cI, 20, .inl y)), (ra, .inl (cI, 105, .inl (fun j9 => nI (z.2.1 j9)))), (sa, .inl (cI, 36, .inl (fun j9 => nI (z.2.2.1 j9)))), (oa, .inl (cI, 400, .inl z.2.2.2.1)), (ma, .inl (cI, 20, .inl rm))] s.heap := hP
  have hl := lv_entry ([.ref c0, .int px, .int py]) (n := 3) (Nat.le_of_ble_eq_true rfl)
  rw [lg_entry_eq]
  generalize (lg_sl ([.ref c0, .int px, .int py]) ++ List.replicate (3 - (lg_sl ([.ref c0, .int px, .int py])).length) Slot.unset).toArray = ls at hl ⊢
  have hl : lv_has ls 3 [(0, .ref c0), (1, .int px), (2, .int py)] := hl
  refine lv_iload_n hx hb dX3_around_0 rfl (lv_at hl 1 rfl) ?_
  refine lv_iload_n hx hb dX3_around_1 rfl (lv_at hl 2 rfl) ?_
  refine q_tS (en := q_IA) (wc' := []) (wsN := [(c0, .inr (3, [.ref s0, .ref m0, .int st])), (m0, .inr (1, [.ref s0, .ref g0, .ref ra, .ref sa, .ref oa, .int (nI z.2.2.2.2), .ref ma, .int (nI rc)])), (g0, .inr (0, [.int z.1.1, .int z.1.2.1, .long z.1.2.2.1, .long z.1.2.2.2.1, .long z.1.2.2.2.2])), (s0, .inr (2, [.ref xa, .ref ya, .int (nI n)])), (xa, .inl (cI, 20, .inl x)), (ya, .inl (cI, 20, .inl y)), (ra, .inl (cI, 105, .inl (fun j9 => nI (z.2.1 j9)))), (sa, .inl (cI, 36, .inl (fun j9 => nI (z.2.2.1 j9)))), (oa, .inl (cI, 400, .inl z.2.2.2.1)), (ma, .inl (cI, 20, .inl rm))]) (As := [.int px, .int py]) (rest := []) ⟨hx, hb, hml, hown, hts⟩ (t1_X3_requirePlace l hst9 dC dI px py hf) (va_cwS 2 hts gX3_around_X3_requirePlace rfl rfl rfl (by decide +kernel) ⟨Nat.le_of_ble_eq_true rfl, Nat.le_of_ble_eq_true rfl⟩) hE hK hP hD hS [] [] rfl rfl rfl rfl rfl rfl hl.1 rfl (Nat.le_of_ble_eq_true rfl) ⟨Nat.le_of_ble_eq_true rfl, Nat.le_of_ble_eq_true rfl⟩ dX3_around_2 rfl (fun H locs q9 ce hP hD hS hq9 hcv hcl => ?_)
  exact q_tout hP hS hq9 hcv hcl hout hlocks
set_option maxHeartbeats 4000000 in
set_option maxRecDepth 100000 in
theorem c_X3_nearest (l : Launch) (dC : Nat → ClassId) (dI : Nat → Nat → Nat) (c0 m0 s0 xa ya : Nat) (cI : ClassId) (x y : Nat → Int32) (st : Int32) (n : Nat) (px py : Int32) (l0 : 0 < n) (ln : n ≤ 20) (hf : r_far px py = false) : Met l yX3_nearest wsX3_nearest ({ frames := 2, cells := 0, slots := 0, locals := 49 }) (q_Pm (dC, dI) [.ref c0, .int px, .int py] [(c0, .inr (3, [.ref s0, .ref m0, .int st])), (s0, .inr (2, [.ref xa, .ref ya, .int (nI n)])), (xa, .inl (cI, 20, .inl x)), (ya, .inl (cI, 20, .inl y))] [(cI, .int)]) (q_Qm (dC, dI) (q_in [(c0, .inr (3, [.ref s0, .ref m0, .int st])), (s0, .inr (2, [.ref xa, .ref ya, .int (nI n)])), (xa, .inl (cI, 20, .inl x)), (ya, .inl (cI, 20, .inl y))]) (some (.int (nI (j_near x y n px py 0 1)))) [(c0, .inr (3, [.ref s0, .ref m0, .int st])), (s0, .inr (2, [.ref xa, .ref ya, .int (nI n)])), (xa, .inl (cI, 20, .inl x)), (ya, .inl (cI, 20, .inl y))]) 0 0 (q_in [(c0, .inr (3, [.ref s0, .ref m0, .int st])), (s0, .inr (2, [.ref xa, .ref ya, .int (nI n)])), (xa, .inl (cI, 20, .inl x)), (ya, .inl (cI, 20, .inl y))]) := by
  refine Met.ofW (cc := cX3_nearest) (maxL := 3) (ret := (some .int)) (by decide) rfl ?_
  intro p e s m args below meth c s₁ B hml hv
  obtain ⟨rfl, hP, hK, hD0⟩ := hv
  have hx := B.exec
  have hb := B.bytes
  have hr := B.returns
  have hts := atoms_spec (ws := wsX3_nearest) B.pre
  have hown : s.vm.findClass RX3 = some m.cls := findClass_of_methodNamed B.named
  have hlocks := B.notSynchronized
  have hD := q_inD hD0
  generalize hAe : q_in [(c0, .inr (3, [.ref s0, .ref m0, .int st])), (s0, .inr (2, [.ref xa, .ref ya, .int (nI n)])), (xa, .inl (cI, 20, .inl x)), (ya, .inl (cI, 20, .inl y))] = A at hD ⊢
  have hS : va_S A s.heap s.heap [] := va_S.rf
  have hP : va_P (dC, dI) vwCl [(c0, .inr (3, [.ref s0, .ref m0, .int st])), (s0, .inr (2, [.ref xa, .ref ya, .int (nI n)])), (xa, .inl (cI, 20, .inl x)), (ya, .inl (cI, 20, .inl y))] s.heap := hP
  have hl := lv_entry ([.ref c0, .int px, .int py]) (n := 3) (Nat.le_of_ble_eq_true rfl)
  rw [lg_entry_eq]
  generalize (lg_sl ([.ref c0, .int px, .int py]) ++ List.replicate (3 - (lg_sl ([.ref c0, .int px, .int py])).length) Slot.unset).toArray = ls at hl ⊢
  have hl : lv_has ls 3 [(0, .ref c0), (1, .int px), (2, .int py)] := hl
  refine lv_iload_n hx hb dX3_nearest_0 rfl (lv_at hl 1 rfl) ?_
  refine lv_iload_n hx hb dX3_nearest_1 rfl (lv_at hl 2 rfl) ?_
  refine q_mS (wc' := []) (wsN := [(c0, .inr (3, [.ref s0, .ref m0, .int st])), (s0, .inr (2, [.ref xa, .ref ya, .int (nI n)])), (xa, .inl (cI, 20, .inl x)), (ya, .inl (cI, 20, .inl y))]) (As := [.int px, .int py]) (rest := []) ⟨hx, hb, hml, hown, hts⟩ (c_X3_requirePlace l dC dI px py hf) (va_cwS 2 hts gX3_nearest_X3_requirePlace rfl rfl rfl (by decide +kernel) ⟨Nat.le_of_ble_eq_true rfl, Nat.le_of_ble_eq_true rfl⟩) hK hP hD hS [] [] rfl rfl rfl rfl rfl rfl hl.1 rfl (Nat.le_of_ble_eq_true rfl) ⟨Nat.zero_le _, Nat.zero_le _⟩ dX3_nearest_2 rfl (fun H locs hP hD hS => ?_)
  refine W.eq (g2 := F0 m 5 ls []) rfl ?_
  refine lv_aload_n hx hb dX3_nearest_5 rfl (lv_at hl 0 rfl) ?_
  refine va_get (D := (dC, dI)) (ci := 3) (v := .ref s0) (C := RX3) (T := TX3) (N := 3) hx hb hts (by decide +kernel) hown hK hP 0 rfl rfl 0 (by decide) (hts (.fieldLink RX3 12 "CircleCells" "sites" "LCircleCells$Sites;") (by decide +kernel)) (fun _ h9 => h9) rfl dX3_nearest_6 ?_
  refine va_get (D := (dC, dI)) (ci := 2) (v := .int (nI n)) (C := RX2) (T := TX2) (N := 3) hx hb hts (by decide +kernel) hown hK hP 1 rfl rfl 2 (by decide) (hts (.fieldLink RX3 44 "CircleCells$Sites" "size" "I") (by decide +kernel)) (fun _ h9 => h9) rfl dX3_nearest_9 ?_
  refine q_ifn_ne (tgt := 25) (by omega) hx hb dX3_nearest_12 (by decide) (fun c12 => ?_) (fun c12 => ?_)
  · refine lv_aload_n hx hb dX3_nearest_25 rfl (lv_at hl 0 rfl) ?_
    refine va_get (D := (dC, dI)) (ci := 3) (v := .ref s0) (C := RX3) (T := TX3) (N := 3) hx hb hts (by decide +kernel) hown hK hP 0 rfl rfl 0 (by decide) (hts (.fieldLink RX3 12 "CircleCells" "sites" "LCircleCells$Sites;") (by decide +kernel)) (fun _ h9 => h9) rfl dX3_nearest_26 ?_
    refine lv_iload_n hx hb dX3_nearest_29 rfl (lv_at hl 1 rfl) ?_
    refine lv_iload_n hx hb dX3_nearest_30 rfl (lv_at hl 2 rfl) ?_
    refine q_cV (As := [.int px, .int py]) (rest := []) ⟨hx, hb, hml, hown, hts⟩ (c_X2_closestTo l dC dI s0 xa ya cI x y n px py (by omega) (by omega)) (cwV 2 hts gX3_nearest_X2_closestTo rfl rfl rfl (by decide +kernel) ⟨Nat.le_of_ble_eq_true rfl, Nat.le_of_ble_eq_true rfl⟩) (q_pV hK hP [1, 2, 3] [0] 2 1 rfl rfl rfl rfl rfl rfl) rfl hl.1 rfl (Nat.le_of_ble_eq_true rfl) ⟨Nat.zero_le _, Nat.zero_le _⟩ dX3_nearest_31 ?_
    exact W.iret (v := nI (j_near x y n px py 0 1)) hx hb hr (q_retm hP hS) hS.2.2 dX3_nearest_34
  · omega
set_option maxHeartbeats 4000000 in
set_option maxRecDepth 100000 in
theorem t1_X3_nearest (l : Launch) (hst9 : l.stackTraces = false) (dC : Nat → ClassId) (dI : Nat → Nat → Nat) (c0 m0 s0 xa ya : Nat) (cI : ClassId) (x y : Nat → Int32) (st : Int32) (n : Nat) (px py : Int32) (hf : r_far px py = true) : vx_Met l yX3_nearest wsX3_nearest ({ frames := 7, cells := 1, slots := 6, locals := 103 }) (q_Px (dC, dI) [.ref c0, .int px, .int py] [(c0, .inr (3, [.ref s0, .ref m0, .int st])), (s0, .inr (2, [.ref xa, .ref ya, .int (nI n)])), (xa, .inl (cI, 20, .inl x)), (ya, .inl (cI, 20, .inl y))] [(cI, .int)]) q_no (q_XX (dC, dI) (q_in [(c0, .inr (3, [.ref s0, .ref m0, .int st])), (s0, .inr (2, [.ref xa, .ref ya, .int (nI n)])), (xa, .inl (cI, 20, .inl x)), (ya, .inl (cI, 20, .inl y))]) q_IA [(c0, .inr (3, [.ref s0, .ref m0, .int st])), (s0, .inr (2, [.ref xa, .ref ya, .int (nI n)])), (xa, .inl (cI, 20, .inl x)), (ya, .inl (cI, 20, .inl y))]) 1 6 (q_in [(c0, .inr (3, [.ref s0, .ref m0, .int st])), (s0, .inr (2, [.ref xa, .ref ya, .int (nI n)])), (xa, .inl (cI, 20, .inl x)), (ya, .inl (cI, 20, .inl y))]) := by
  refine vx_ofW (cc := cX3_nearest) (maxL := 3) (ret := (some .int)) (by decide) rfl ?_
  intro p e s m args below meth c s₁ B hml hout hv
  obtain ⟨rfl, hP, hK, hD0, hE⟩ := hv
  have hx := B.exec
  have hb := B.bytes
  have hr := B.returns
  have hts := atoms_spec (ws := wsX3_nearest) B.pre
  have hown : s.vm.findClass RX3 = some m.cls := findClass_of_methodNamed B.named
  have hlocks := B.notSynchronized
  have hD := q_inD hD0
  generalize hAe : q_in [(c0, .inr (3, [.ref s0, .ref m0, .int st])), (s0, .inr (2, [.ref xa, .ref ya, .int (nI n)])), (xa, .inl (cI, 20, .inl x)), (ya, .inl (cI, 20, .inl y))] = A at hD hE ⊢
  have hS : va_S A s.heap s.heap [] := va_S.rf
  have hP : va_P (dC, dI) vwCl [(c0, .inr (3, [.ref s0, .ref m0, .int st])), (s0, .inr (2, [.ref xa, .ref ya, .int (nI n)])), (xa, .inl (cI, 20, .inl x)), (ya, .inl (cI, 20, .inl y))] s.heap := hP
  have hl := lv_entry ([.ref c0, .int px, .int py]) (n := 3) (Nat.le_of_ble_eq_true rfl)
  rw [lg_entry_eq]
  generalize (lg_sl ([.ref c0, .int px, .int py]) ++ List.replicate (3 - (lg_sl ([.ref c0, .int px, .int py])).length) Slot.unset).toArray = ls at hl ⊢
  have hl : lv_has ls 3 [(0, .ref c0), (1, .int px), (2, .int py)] := hl
  refine lv_iload_n hx hb dX3_nearest_0 rfl (lv_at hl 1 rfl) ?_
  refine lv_iload_n hx hb dX3_nearest_1 rfl (lv_at hl 2 rfl) ?_
  refine q_tS (en := q_IA) (wc' := []) (wsN := [(c0, .inr (3, [.ref s0, .ref m0, .int st])), (s0, .inr (2, [.ref xa, .ref ya, .int (nI n)])), (xa, .inl (cI, 20, .inl x)), (ya, .inl (cI, 20, .inl y))]) (As := [.int px, .int py]) (rest := []) ⟨hx, hb, hml, hown, hts⟩ (t1_X3_requirePlace l hst9 dC dI px py hf) (va_cwS 2 hts gX3_nearest_X3_requirePlace rfl rfl rfl (by decide +kernel) ⟨Nat.le_of_ble_eq_true rfl, Nat.le_of_ble_eq_true rfl⟩) hE hK hP hD hS [] [] rfl rfl rfl rfl rfl rfl hl.1 rfl (Nat.le_of_ble_eq_true rfl) ⟨Nat.le_of_ble_eq_true rfl, Nat.le_of_ble_eq_true rfl⟩ dX3_nearest_2 rfl (fun H locs q9 ce hP hD hS hq9 hcv hcl => ?_)
  exact q_tout hP hS hq9 hcv hcl hout hlocks
set_option maxHeartbeats 4000000 in
set_option maxRecDepth 100000 in
theorem t2_X3_nearest (l : Launch) (hst9 : l.stackTraces = false) (dC : Nat → ClassId) (dI : Nat → Nat → Nat) (c0 m0 s0 xa ya : Nat) (cI : ClassId) (x y : Nat → Int32) (st : Int32) (n : Nat) (px py : Int32) (l0 : n = 0) (hf : r_far px py = false) : vx_Met l yX3_nearest wsX3_nearest ({ frames := 6, cells := 1, slots := 6, locals := 82 }) (q_Px (dC, dI) [.ref c0, .int px, .int py] [(c0, .inr (3, [.ref s0, .ref m0, .int st])), (s0, .inr (2, [.ref xa, .ref ya, .int (nI n)])), (xa, .inl (cI, 20, .inl x)), (ya, .inl (cI, 20, .inl y))] [(cI, .int)]) q_no (q_XX (dC, dI) (q_in [(c0, .inr (3, [.ref s0, .ref m0, .int st])), (s0, .inr (2, [.ref xa, .ref ya, .int (nI n)])), (xa, .inl (cI, 20, .inl x)), (ya, .inl (cI, 20, .inl y))]) q_IS [(c0, .inr (3, [.ref s0, .ref m0, .int st])), (s0, .inr (2, [.ref xa, .ref ya, .int (nI n)])), (xa, .inl (cI, 20, .inl x)), (ya, .inl (cI, 20, .inl y))]) 1 6 (q_in [(c0, .inr (3, [.ref s0, .ref m0, .int st])), (s0, .inr (2, [.ref xa, .ref ya, .int (nI n)])), (xa, .inl (cI, 20, .inl x)), (ya, .inl (cI, 20, .inl y))]) := by
  refine vx_ofW (cc := cX3_nearest) (maxL := 3) (ret := (some .int)) (by decide) rfl ?_
  intro p e s m args below meth c s₁ B hml hout hv
  obtain ⟨rfl, hP, hK, hD0, hE⟩ := hv
  have hx := B.exec
  have hb := B.bytes
  have hr := B.returns
  have hts := atoms_spec (ws := wsX3_nearest) B.pre
  have hown : s.vm.findClass RX3 = some m.cls := findClass_of_methodNamed B.named
  have hlocks := B.notSynchronized
  have hD := q_inD hD0
  generalize hAe : q_in [(c0, .inr (3, [.ref s0, .ref m0, .int st])), (s0, .inr (2, [.ref xa, .ref ya, .int (nI n)])), (xa, .inl (cI, 20, .inl x)), (ya, .inl (cI, 20, .inl y))] = A at hD hE ⊢
  have hS : va_S A s.heap s.heap [] := va_S.rf
  have hP : va_P (dC, dI) vwCl [(c0, .inr (3, [.ref s0, .ref m0, .int st])), (s0, .inr (2, [.ref xa, .ref ya, .int (nI n)])), (xa, .inl (cI, 20, .inl x)), (ya, .inl (cI, 20, .inl y))] s.heap := hP
  have hl := lv_entry ([.ref c0, .int px, .int py]) (n := 3) (Nat.le_of_ble_eq_true rfl)
  rw [lg_entry_eq]
  generalize (lg_sl ([.ref c0, .int px, .int py]) ++ List.replicate (3 - (lg_sl ([.ref c0, .int px, .int py])).length) Slot.unset).toArray = ls at hl ⊢
  have hl : lv_has ls 3 [(0, .ref c0), (1, .int px), (2, .int py)] := hl
  refine lv_iload_n hx hb dX3_nearest_0 rfl (lv_at hl 1 rfl) ?_
  refine lv_iload_n hx hb dX3_nearest_1 rfl (lv_at hl 2 rfl) ?_
  refine q_mS (wc' := []) (wsN := [(c0, .inr (3, [.ref s0, .ref m0, .int st])), (s0, .inr (2, [.ref xa, .ref ya, .int (nI n)])), (xa, .inl (cI, 20, .inl x)), (ya, .inl (cI, 20, .inl y))]) (As := [.int px, .int py]) (rest := []) ⟨hx, hb, hml, hown, hts⟩ (c_X3_requirePlace l dC dI px py hf) (va_cwS 2 hts gX3_nearest_X3_requirePlace rfl rfl rfl (by decide +kernel) ⟨Nat.le_of_ble_eq_true rfl, Nat.le_of_ble_eq_true rfl⟩) hK hP hD hS [] [] rfl rfl rfl rfl rfl rfl hl.1 rfl (Nat.le_of_ble_eq_true rfl) ⟨Nat.zero_le _, Nat.zero_le _⟩ dX3_nearest_2 rfl (fun H locs hP hD hS => ?_)
  refine W.eq (g2 := F0 m 5 ls []) rfl ?_
  refine lv_aload_n hx hb dX3_nearest_5 rfl (lv_at hl 0 rfl) ?_
  refine va_get (D := (dC, dI)) (ci := 3) (v := .ref s0) (C := RX3) (T := TX3) (N := 3) hx hb hts (by decide +kernel) hown hK hP 0 rfl rfl 0 (by decide) (hts (.fieldLink RX3 12 "CircleCells" "sites" "LCircleCells$Sites;") (by decide +kernel)) (fun _ h9 => h9) rfl dX3_nearest_6 ?_
  refine va_get (D := (dC, dI)) (ci := 2) (v := .int (nI n)) (C := RX2) (T := TX2) (N := 3) hx hb hts (by decide +kernel) hown hK hP 1 rfl rfl 2 (by decide) (hts (.fieldLink RX3 44 "CircleCells$Sites" "size" "I") (by decide +kernel)) (fun _ h9 => h9) rfl dX3_nearest_9 ?_
  refine q_ifn_ne (tgt := 25) (by omega) hx hb dX3_nearest_12 (by decide) (fun c12 => ?_) (fun c12 => ?_)
  · omega
  · exact q_throw (own := RX3) (cls := "java/lang/IllegalStateException") (text := "there is no site") (ws' := [(c0, .inr (3, [.ref s0, .ref m0, .int st])), (s0, .inr (2, [.ref xa, .ref ya, .int (nI n)])), (xa, .inl (cI, 20, .inl x)), (ya, .inl (cI, 20, .inl y))]) hx hb hst9 hown (by decide +kernel) (by decide) (by decide) hts (by decide +kernel) (by decide +kernel) (by decide +kernel) (by decide +kernel) (by decide +kernel) hE hP hS (hl.1.trans hml.symm) dX3_nearest_15 dX3_nearest_18 dX3_nearest_19 dX3_nearest_21 dX3_nearest_24 hout (Nat.le_of_ble_eq_true rfl) (Nat.le_of_ble_eq_true rfl) (Nat.le_of_ble_eq_true rfl) (Nat.le_of_ble_eq_true rfl) hlocks
set_option maxHeartbeats 4000000 in
set_option maxRecDepth 100000 in
theorem c_X3_centre (l : Launch) (dC : Nat → ClassId) (dI : Nat → Nat → Nat) (c0 m0 s0 g0 ra sa oa ma xa ya : Nat) (cI : ClassId) (x y : Nat → Int32) (st : Int32) (z : (Int32 × Int32 × Int64 × Int64 × Int64) × (Nat → Nat) × (Nat → Nat) × (Nat → Int32) × Nat) (rm : Nat → Int32) (rc n : Nat) (k : Nat) (t : Int32) (sn : Nat) (ln : n ≤ 20) (lr : ∀ j, z.2.1 j < 20) (ls0 : z.2.2.1 0 = 0) (hst : j_st (j_refr x y n st z rm rc)) (lk : k < (j_refr x y n st z rm rc).1.2.2.2.2) (ht : r_out t 3 = false) (ls1 : sn < 2 ^ 63) (hsn : (j_lay x y ((j_refr x y n st z rm rc).1.2.1 ((j_refr x y n st z rm rc).1.2.2.1 k + 0)) ((j_refr x y n st z rm rc).1.2.1 ((j_refr x y n st z rm rc).1.2.2.1 k + 1)) ((j_refr x y n st z rm rc).1.2.1 ((j_refr x y n st z rm rc).1.2.2.1 k + 2))).2.2.2.2 = lN sn) (lX : ((j_lay x y ((j_refr x y n st z rm rc).1.2.1 ((j_refr x y n st z rm rc).1.2.2.1 k + 0)) ((j_refr x y n st z rm rc).1.2.1 ((j_refr x y n st z rm rc).1.2.2.1 k + 1)) ((j_refr x y n st z rm rc).1.2.1 ((j_refr x y n st z rm rc).1.2.2.1 k + 2))).1.toInt64 * lN sn + (j_lay x y ((j_refr x y n st z rm rc).1.2.1 ((j_refr x y n st z rm rc).1.2.2.1 k + 0)) ((j_refr x y n st z rm rc).1.2.1 ((j_refr x y n st z rm rc).1.2.2.1 k + 1)) ((j_refr x y n st z rm rc).1.2.1 ((j_refr x y n st z rm rc).1.2.2.1 k + 2))).2.2.1).toInt.natAbs < 2 ^ 63) (lY : ((j_lay x y ((j_refr x y n st z rm rc).1.2.1 ((j_refr x y n st z rm rc).1.2.2.1 k + 0)) ((j_refr x y n st z rm rc).1.2.1 ((j_refr x y n st z rm rc).1.2.2.1 k + 1)) ((j_refr x y n st z rm rc).1.2.1 ((j_refr x y n st z rm rc).1.2.2.1 k + 2))).2.1.toInt64 * lN sn + (j_lay x y ((j_refr x y n st z rm rc).1.2.1 ((j_refr x y n st z rm rc).1.2.2.1 k + 0)) ((j_refr x y n st z rm rc).1.2.1 ((j_refr x y n st z rm rc).1.2.2.1 k + 1)) ((j_refr x y n st z rm rc).1.2.1 ((j_refr x y n st z rm rc).1.2.2.1 k + 2))).2.2.2.1).toInt.natAbs < 2 ^ 63) (R : (((Int32 × Int32 × Int64 × Int64 × Int64) × (Nat → Nat) × (Nat → Nat) × (Nat → Int32) × Nat) × (Nat → Int32) × Nat) × Int32 × Int32 × Int64 × Int64 × Int64) (hR : (j_refr x y n st z rm rc, j_lay x y ((j_refr x y n st z rm rc).1.2.1 ((j_refr x y n st z rm rc).1.2.2.1 k + 0)) ((j_refr x y n st z rm rc).1.2.1 ((j_refr x y n st z rm rc).1.2.2.1 k + 1)) ((j_refr x y n st z rm rc).1.2.1 ((j_refr x y n st z rm rc).1.2.2.1 k + 2))) = R) : Met l yX3_centre wsX3_centre ({ frames := 6, cells := 0, slots := 0, locals := 137 }) (q_Pm (dC, dI) [.ref c0, .int (nI k), .int t] [(c0, .inr (3, [.ref s0, .ref m0, .int st])), (m0, .inr (1, [.ref s0, .ref g0, .ref ra, .ref sa, .ref oa, .int (nI z.2.2.2.2), .ref ma, .int (nI rc)])), (g0, .inr (0, [.int z.1.1, .int z.1.2.1, .long z.1.2.2.1, .long z.1.2.2.2.1, .long z.1.2.2.2.2])), (s0, .inr (2, [.ref xa, .ref ya, .int (nI n)])), (xa, .inl (cI, 20, .inl x)), (ya, .inl (cI, 20, .inl y)), (ra, .inl (cI, 105, .inl (fun j9 => nI (z.2.1 j9)))), (sa, .inl (cI, 36, .inl (fun j9 => nI (z.2.2.1 j9)))), (oa, .inl (cI, 400, .inl z.2.2.2.1)), (ma, .inl (cI, 20, .inl rm))] [(cI, .int)]) (q_Qm (dC, dI) (q_in [(c0, .inr (3, [.ref s0, .ref m0, .int st])), (m0, .inr (1, [.ref s0, .ref g0, .ref ra, .ref sa, .ref oa, .int (nI z.2.2.2.2), .ref ma, .int (nI rc)])), (g0, .inr (0, [.int z.1.1, .int z.1.2.1, .long z.1.2.2.1, .long z.1.2.2.2.1, .long z.1.2.2.2.2])), (s0, .inr (2, [.ref xa, .ref ya, .int (nI n)])), (xa, .inl (cI, 20, .inl x)), (ya, .inl (cI, 20, .inl y)), (ra, .inl (cI, 105, .inl (fun j9 => nI (z.2.1 j9)))), (sa, .inl (cI, 36, .inl (fun j9 => nI (z.2.2.1 j9)))), (oa, .inl (cI, 400, .inl z.2.2.2.1)), (ma, .inl (cI, 20, .inl rm))]) (some (.long (j_mid (R.2.1.toInt64 * lN sn + R.2.2.2.1) (R.2.2.1.toInt64 * lN sn + R.2.2.2.2.1) sn t))) [(c0, .inr (3, [.ref s0, .ref m0, .int 0])), (m0, .inr (1, [.ref s0, .ref g0, .ref ra, .ref sa, .ref oa, .int (nI R.1.1.2.2.2.2), .ref ma, .int (nI R.1.2.2)])), (g0, .inr (0, [.int R.2.1, .int R.2.2.1, .long R.2.2.2.1, .long R.2.2.2.2.1, .long R.2.2.2.2.2])), (s0, .inr (2, [.ref xa, .ref ya, .int (nI n)])), (xa, .inl (cI, 20, .inl x)), (ya, .inl (cI, 20, .inl y)), (ra, .inl (cI, 105, .inl (fun j9 => nI (R.1.1.2.1 j9)))), (sa, .inl (cI, 36, .inl (fun j9 => nI (R.1.1.2.2.1 j9)))), (oa, .inl (cI, 400, .inl R.1.1.2.2.2.1)), (ma, .inl (cI, 20, .inl R.1.2.1))]) 0 0 (q_in [(c0, .inr (3, [.ref s0, .ref m0, .int st])), (m0, .inr (1, [.ref s0, .ref g0, .ref ra, .ref sa, .ref oa, .int (nI z.2.2.2.2), .ref ma, .int (nI rc)])), (g0, .inr (0, [.int z.1.1, .int z.1.2.1, .long z.1.2.2.1, .long z.1.2.2.2.1, .long z.1.2.2.2.2])), (s0, .inr (2, [.ref xa, .ref ya, .int (nI n)])), (xa, .inl (cI, 20, .inl x)), (ya, .inl (cI, 20, .inl y)), (ra, .inl (cI, 105, .inl (fun j9 => nI (z.2.1 j9)))), (sa, .inl (cI, 36, .inl (fun j9 => nI (z.2.2.1 j9)))), (oa, .inl (cI, 400, .inl z.2.2.2.1)), (ma, .inl (cI, 20, .inl rm))]) := by
  refine Met.ofW (cc := cX3_centre) (maxL := 3) (ret := (some .long)) (by decide) rfl ?_
  intro p e s m args below meth c s₁ B hml hv
  obtain ⟨rfl, hP, hK, hD0⟩ := hv
  have hx := B.exec
  have hb := B.bytes
  have hr := B.returns
  have hts := atoms_spec (ws := wsX3_centre) B.pre
  have hown : s.vm.findClass RX3 = some m.cls := findClass_of_methodNamed B.named
  have hlocks := B.notSynchronized
  have hD := q_inD hD0
  generalize hAe : q_in [(c0, .inr (3, [.ref s0, .ref m0, .int st])), (m0, .inr (1, [.ref s0, .ref g0, .ref ra, .ref sa, .ref oa, .int (nI z.2.2.2.2), .ref ma, .int (nI rc)])), (g0, .inr (0, [.int z.1.1, .int z.1.2.1, .long z.1.2.2.1, .long z.1.2.2.2.1, .long z.1.2.2.2.2])), (s0, .inr (2, [.ref xa, .ref ya, .int (nI n)])), (xa, .inl (cI, 20, .inl x)), (ya, .inl (cI, 20, .inl y)), (ra, .inl (cI, 105, .inl (fun j9 => nI (z.2.1 j9)))), (sa, .inl (cI, 36, .inl (fun j9 => nI (z.2.2.1 j9)))), (oa, .inl (cI, 400, .inl z.2.2.2.1)), (ma, .inl (cI, 20, .inl rm))] = A at hD ⊢
  have hS : va_S A s.heap s.heap [] := va_S.rf
  have hP : va_P (dC, dI) vwCl [(c0, .inr (3, [.ref s0, .ref m0, .int st])), (m0, .inr (1, [.ref s0, .ref g0, .ref ra, .ref sa, .ref oa, .int (nI z.2.2.2.2), .ref ma, .int (nI rc)])), (g0, .inr (0, [.int z.1.1, .int z.1.2.1, .long z.1.2.2.1, .long z.1.2.2.2.1, .long z.1.2.2.2.2])), (s0, .inr (2, [.ref xa, .ref ya, .int (nI n)])), (xa, .inl (cI, 20, .inl x)), (ya, .inl (cI, 20, .inl y)), (ra, .inl (cI, 105, .inl (fun j9 => nI (z.2.1 j9)))), (sa, .inl (cI, 36, .inl (fun j9 => nI (z.2.2.1 j9)))), (oa, .inl (cI, 400, .inl z.2.2.2.1)), (ma, .inl (cI, 20, .inl rm))] s.heap := hP
  have hl := lv_entry ([.ref c0, .int (nI k), .int t]) (n := 3) (Nat.le_of_ble_eq_true rfl)
  rw [lg_entry_eq]
  generalize (lg_sl ([.ref c0, .int (nI k), .int t]) ++ List.replicate (3 - (lg_sl ([.ref c0, .int (nI k), .int t])).length) Slot.unset).toArray = ls at hl ⊢
  have hl : lv_has ls 3 [(0, .ref c0), (1, .int (nI k)), (2, .int t)] := hl
  refine lv_iload_n hx hb dX3_centre_0 rfl (lv_at hl 2 rfl) ?_
  refine lv_if_lt (tgt := 9) hx hb dX3_centre_1 (by decide) (fun c1 => ?_) (fun c1 => ?_)
  · rw [r_out, if_pos c1] at ht; cases ht
  · rw [r_out, if_neg c1] at ht
    refine lv_iload_n hx hb dX3_centre_4 rfl (lv_at hl 2 rfl) ?_
    refine lv_iconst (v := 2) hx hb dX3_centre_5 (by decide) ?_
    refine lv_icmp_le (tgt := 19) hx hb dX3_centre_6 (by decide) (fun c6 => ?_) (fun c6 => ?_)
    · refine lv_aload_n hx hb dX3_centre_19 rfl (lv_at hl 0 rfl) ?_
      obtain ⟨r1, hr1⟩ : ∃ r : ((Int32 × Int32 × Int64 × Int64 × Int64) × (Nat → Nat) × (Nat → Nat) × (Nat → Int32) × Nat) × (Nat → Int32) × Nat, j_refr x y n st z rm rc = r := ⟨_, rfl⟩
      refine q_mV (wc' := [(c0, .inr (3, [.ref s0, .ref m0, .int 0])), (m0, .inr (1, [.ref s0, .ref g0, .ref ra, .ref sa, .ref oa, .int (nI r1.1.2.2.2.2), .ref ma, .int (nI r1.2.2)])), (g0, .inr (0, [.int r1.1.1.1, .int r1.1.1.2.1, .long r1.1.1.2.2.1, .long r1.1.1.2.2.2.1, .long r1.1.1.2.2.2.2])), (s0, .inr (2, [.ref xa, .ref ya, .int (nI n)])), (xa, .inl (cI, 20, .inl x)), (ya, .inl (cI, 20, .inl y)), (ra, .inl (cI, 105, .inl (fun j9 => nI (r1.1.2.1 j9)))), (sa, .inl (cI, 36, .inl (fun j9 => nI (r1.1.2.2.1 j9)))), (oa, .inl (cI, 400, .inl r1.1.2.2.2.1)), (ma, .inl (cI, 20, .inl r1.2.1))]) (wsN := [(c0, .inr (3, [.ref s0, .ref m0, .int 0])), (m0, .inr (1, [.ref s0, .ref g0, .ref ra, .ref sa, .ref oa, .int (nI r1.1.2.2.2.2), .ref ma, .int (nI r1.2.2)])), (g0, .inr (0, [.int r1.1.1.1, .int r1.1.1.2.1, .long r1.1.1.2.2.1, .long r1.1.1.2.2.2.1, .long r1.1.1.2.2.2.2])), (s0, .inr (2, [.ref xa, .ref ya, .int (nI n)])), (xa, .inl (cI, 20, .inl x)), (ya, .inl (cI, 20, .inl y)), (ra, .inl (cI, 105, .inl (fun j9 => nI (r1.1.2.1 j9)))), (sa, .inl (cI, 36, .inl (fun j9 => nI (r1.1.2.2.1 j9)))), (oa, .inl (cI, 400, .inl r1.1.2.2.2.1)), (ma, .inl (cI, 20, .inl r1.2.1))]) (As := []) (rest := []) ⟨hx, hb, hml, hown, hts⟩ (c_X3_refresh l dC dI c0 m0 s0 g0 ra sa oa ma xa ya cI x y st (by omega) rm rc n (by omega) lr ls0 r1 hr1) (cwV 0 hts gX3_centre_X3_refresh rfl rfl rfl (by decide +kernel) ⟨Nat.le_of_ble_eq_true rfl, Nat.le_of_ble_eq_true rfl⟩) hK hP hD hS [0, 1, 2, 3, 4, 5, 6, 7, 8, 9] [0] 3 0 rfl rfl rfl rfl rfl rfl rfl rfl rfl hl.1 rfl (Nat.le_of_ble_eq_true rfl) ⟨Nat.zero_le _, Nat.zero_le _⟩ dX3_centre_20 rfl (fun H locs hP hD hS => ?_)
      refine W.eq (g2 := F0 m 23 ls []) rfl ?_
      rw [hr1] at hR hst lk hsn lX lY
      have hk9 := hst.2.2.1 k lk
      have hq9 := hst.2.1
      refine lv_aload_n hx hb dX3_centre_23 rfl (lv_at hl 0 rfl) ?_
      refine lv_iload_n hx hb dX3_centre_24 rfl (lv_at hl 1 rfl) ?_
      refine q_mV (wc' := [(c0, .inr (3, [.ref s0, .ref m0, .int 0])), (m0, .inr (1, [.ref s0, .ref g0, .ref ra, .ref sa, .ref oa, .int (nI r1.1.2.2.2.2), .ref ma, .int (nI r1.2.2)]))]) (wsN := [(c0, .inr (3, [.ref s0, .ref m0, .int 0])), (m0, .inr (1, [.ref s0, .ref g0, .ref ra, .ref sa, .ref oa, .int (nI r1.1.2.2.2.2), .ref ma, .int (nI r1.2.2)])), (g0, .inr (0, [.int r1.1.1.1, .int r1.1.1.2.1, .long r1.1.1.2.2.1, .long r1.1.1.2.2.2.1, .long r1.1.1.2.2.2.2])), (s0, .inr (2, [.ref xa, .ref ya, .int (nI n)])), (xa, .inl (cI, 20, .inl x)), (ya, .inl (cI, 20, .inl y)), (ra, .inl (cI, 105, .inl (fun j9 => nI (r1.1.2.1 j9)))), (sa, .inl (cI, 36, .inl (fun j9 => nI (r1.1.2.2.1 j9)))), (oa, .inl (cI, 400, .inl r1.1.2.2.2.1)), (ma, .inl (cI, 20, .inl r1.2.1))]) (As := [.int (nI k)]) (rest := []) ⟨hx, hb, hml, hown, hts⟩ (c_X3_requireCell l dC dI c0 m0 s0 g0 ra sa oa ma 0 (nI r1.2.2) r1.1.2.2.2.2 (nI k) (r_out_k lk (by omega))) (cwV 1 hts gX3_centre_X3_requireCell rfl rfl rfl (by decide +kernel) ⟨Nat.le_of_ble_eq_true rfl, Nat.le_of_ble_eq_true rfl⟩) hK hP hD hS [0, 1] [] 3 0 rfl rfl rfl rfl rfl rfl rfl rfl rfl hl.1 rfl (Nat.le_of_ble_eq_true rfl) ⟨Nat.zero_le _, Nat.zero_le _⟩ dX3_centre_25 rfl (fun H locs hP hD hS => ?_)
      refine W.eq (g2 := F0 m 28 ls []) rfl ?_
      refine lv_aload_n hx hb dX3_centre_28 rfl (lv_at hl 0 rfl) ?_
      refine va_get (D := (dC, dI)) (ci := 3) (v := .ref m0) (C := RX3) (T := TX3) (N := 3) hx hb hts (by decide +kernel) hown hK hP 0 rfl rfl 1 (by decide) (hts (.fieldLink RX3 21 "CircleCells" "mosaic" "LCircleCells$Mosaic;") (by decide +kernel)) (fun _ h9 => h9) rfl dX3_centre_29 ?_
      refine lv_iload_n hx hb dX3_centre_32 rfl (lv_at hl 1 rfl) ?_
      obtain ⟨k2, hk2⟩ : ∃ r : Int32 × Int32 × Int64 × Int64 × Int64, j_lay x y (r1.1.2.1 (r1.1.2.2.1 k + 0)) (r1.1.2.1 (r1.1.2.2.1 k + 1)) (r1.1.2.1 (r1.1.2.2.1 k + 2)) = r := ⟨_, rfl⟩
      refine q_mV (wc' := [(m0, .inr (1, [.ref s0, .ref g0, .ref ra, .ref sa, .ref oa, .int (nI r1.1.2.2.2.2), .ref ma, .int (nI r1.2.2)])), (g0, .inr (0, [.int k2.1, .int k2.2.1, .long k2.2.2.1, .long k2.2.2.2.1, .long k2.2.2.2.2])), (s0, .inr (2, [.ref xa, .ref ya, .int (nI n)])), (xa, .inl (cI, 20, .inl x)), (ya, .inl (cI, 20, .inl y)), (ra, .inl (cI, 105, .inl (fun j9 => nI (r1.1.2.1 j9)))), (sa, .inl (cI, 36, .inl (fun j9 => nI (r1.1.2.2.1 j9))))]) (wsN := [(c0, .inr (3, [.ref s0, .ref m0, .int 0])), (m0, .inr (1, [.ref s0, .ref g0, .ref ra, .ref sa, .ref oa, .int (nI r1.1.2.2.2.2), .ref ma, .int (nI r1.2.2)])), (g0, .inr (0, [.int k2.1, .int k2.2.1, .long k2.2.2.1, .long k2.2.2.2.1, .long k2.2.2.2.2])), (s0, .inr (2, [.ref xa, .ref ya, .int (nI n)])), (xa, .inl (cI, 20, .inl x)), (ya, .inl (cI, 20, .inl y)), (ra, .inl (cI, 105, .inl (fun j9 => nI (r1.1.2.1 j9)))), (sa, .inl (cI, 36, .inl (fun j9 => nI (r1.1.2.2.1 j9)))), (oa, .inl (cI, 400, .inl r1.1.2.2.2.1)), (ma, .inl (cI, 20, .inl r1.2.1))]) (As := [.int (nI k)]) (rest := []) ⟨hx, hb, hml, hown, hts⟩ (c_X1_circleOf l dC dI m0 s0 g0 ra sa oa ma cI xa ya (nI n) (nI r1.1.2.2.2.2) (nI r1.2.2) x y r1.1.1.1 r1.1.1.2.1 r1.1.1.2.2.1 r1.1.1.2.2.2.1 r1.1.1.2.2.2.2 r1.1.2.1 r1.1.2.2.1 k (by omega) (by omega) hst.1 k2 hk2) (cwV 1 hts gX3_centre_X1_circleOf rfl rfl rfl (by decide +kernel) ⟨Nat.le_of_ble_eq_true rfl, Nat.le_of_ble_eq_true rfl⟩) hK hP hD hS [1, 2, 3, 4, 5, 6, 7] [0] 1 1 rfl rfl rfl rfl rfl rfl rfl rfl rfl hl.1 rfl (Nat.le_of_ble_eq_true rfl) ⟨Nat.zero_le _, Nat.zero_le _⟩ dX3_centre_33 rfl (fun H locs hP hD hS => ?_)
      refine W.eq (g2 := F0 m 36 ls [.ref g0]) rfl ?_
      rw [hk2] at hR hsn lX lY
      subst hR
      have hP0 := hP
      rw [hsn] at hP
      refine lv_iload_n hx hb dX3_centre_36 rfl (lv_at hl 2 rfl) ?_
      refine q_cV (As := [.int t]) (rest := []) ⟨hx, hb, hml, hown, hts⟩ (c_X0_middle l dC dI g0 k2.1 k2.2.1 k2.2.2.1 k2.2.2.2.1 sn t ls1 lX lY) (cwV 1 hts gX3_centre_X0_middle rfl rfl rfl (by decide +kernel) ⟨Nat.le_of_ble_eq_true rfl, Nat.le_of_ble_eq_true rfl⟩) (q_pV hK hP [2] [] 0 2 rfl rfl rfl rfl rfl rfl) rfl hl.1 rfl (Nat.le_of_ble_eq_true rfl) ⟨Nat.zero_le _, Nat.zero_le _⟩ dX3_centre_37 ?_
      have hP := hP0
      exact W.lret (v := j_mid (k2.1.toInt64 * lN sn + k2.2.2.1) (k2.2.1.toInt64 * lN sn + k2.2.2.2.1) sn t) hx hb hr (q_retm hP hS) hS.2.2 dX3_centre_40
    · rw [if_neg (fun h => c6 (le_2 h))] at ht; cases ht
set_option maxHeartbeats 4000000 in
set_option maxRecDepth 100000 in
theorem t1_X3_centre (l : Launch) (hst9 : l.stackTraces = false) (dC : Nat → ClassId) (dI : Nat → Nat → Nat) (c0 m0 s0 g0 ra sa oa ma xa ya : Nat) (cI : ClassId) (x y : Nat → Int32) (st : Int32) (z : (Int32 × Int32 × Int64 × Int64 × Int64) × (Nat → Nat) × (Nat → Nat) × (Nat → Int32) × Nat) (rm : Nat → Int32) (rc n : Nat) (w t : Int32) (ht : r_out t 3 = true) : vx_Met l yX3_centre wsX3_centre ({ frames := 6, cells := 1, slots := 6, locals := 82 }) (q_Px (dC, dI) [.ref c0, .int w, .int t] [(c0, .inr (3, [.ref s0, .ref m0, .int st])), (m0, .inr (1, [.ref s0, .ref g0, .ref ra, .ref sa, .ref oa, .int (nI z.2.2.2.2), .ref ma, .int (nI rc)])), (g0, .inr (0, [.int z.1.1, .int z.1.2.1, .long z.1.2.2.1, .long z.1.2.2.2.1, .long z.1.2.2.2.2])), (s0, .inr (2, [.ref xa, .ref ya, .int (nI n)])), (xa, .inl (cI, 20, .inl x)), (ya, .inl (cI, 20, .inl y)), (ra, .inl (cI, 105, .inl (fun j9 => nI (z.2.1 j9)))), (sa, .inl (cI, 36, .inl (fun j9 => nI (z.2.2.1 j9)))), (oa, .inl (cI, 400, .inl z.2.2.2.1)), (ma, .inl (cI, 20, .inl rm))] [(cI, .int)]) q_no (q_XX (dC, dI) (q_in [(c0, .inr (3, [.ref s0, .ref m0, .int st])), (m0, .inr (1, [.ref s0, .ref g0, .ref ra, .ref sa, .ref oa, .int (nI z.2.2.2.2), .ref ma, .int (nI rc)])), (g0, .inr (0, [.int z.1.1, .int z.1.2.1, .long z.1.2.2.1, .long z.1.2.2.2.1, .long z.1.2.2.2.2])), (s0, .inr (2, [.ref xa, .ref ya, .int (nI n)])), (xa, .inl (cI, 20, .inl x)), (ya, .inl (cI, 20, .inl y)), (ra, .inl (cI, 105, .inl (fun j9 => nI (z.2.1 j9)))), (sa, .inl (cI, 36, .inl (fun j9 => nI (z.2.2.1 j9)))), (oa, .inl (cI, 400, .inl z.2.2.2.1)), (ma, .inl (cI, 20, .inl rm))]) q_IA [(c0, .inr (3, [.ref s0, .ref m0, .int st])), (m0, .inr (1, [.ref s0, .ref g0, .ref ra, .ref sa, .ref oa, .int (nI z.2.2.2.2), .ref ma, .int (nI rc)])), (g0, .inr (0, [.int z.1.1, .int z.1.2.1, .long z.1.2.2.1, .long z.1.2.2.2.1, .long z.1.2.2.2.2])), (s0, .inr (2, [.ref xa, .ref ya, .int (nI n)])), (xa, .inl (cI, 20, .inl x)), (ya, .inl (cI, 20, .inl y)), (ra, .inl (cI, 105, .inl (fun j9 => nI (z.2.1 j9)))), (sa, .inl (cI, 36, .inl (fun j9 => nI (z.2.2.1 j9)))), (oa, .inl (cI, 400, .inl z.2.2.2.1)), (ma, .inl (cI, 20, .inl rm))]) 1 6 (q_in [(c0, .inr (3, [.ref s0, .ref m0, .int st])), (m0, .inr (1, [.ref s0, .ref g0, .ref ra, .ref sa, .ref oa, .int (nI z.2.2.2.2), .ref ma, .int (nI rc)])), (g0, .inr (0, [.int z.1.1, .int z.1.2.1, .long z.1.2.2.1, .long z.1.2.2.2.1, .long z.1.2.2.2.2])), (s0, .inr (2, [.ref xa, .ref ya, .int (nI n)])), (xa, .inl (cI, 20, .inl x)), (ya, .inl (cI, 20, .inl y)), (ra, .inl (cI, 105, .inl (fun j9 => nI (z.2.1 j9)))), (sa, .inl (cI, 36, .inl (fun j9 => nI (z.2.2.1 j9)))), (oa, .inl (cI, 400, .inl z.2.2.2.1)), (ma, .inl (cI, 20, .inl rm))]) := by
  refine vx_ofW (cc := cX3_centre) (maxL := 3) (ret := (some .long)) (by decide) rfl ?_
  intro p e s m args below meth c s₁ B hml hout hv
  obtain ⟨rfl, hP, hK, hD0, hE⟩ := hv
  have hx := B.exec
  have hb := B.bytes
  have hr := B.returns
  have hts := atoms_spec (ws := wsX3_centre) B.pre
  have hown : s.vm.findClass RX3 = some m.cls := findClass_of_methodNamed B.named
  have hlocks := B.notSynchronized
  have hD := q_inD hD0
  generalize hAe : q_in [(c0, .inr (3, [.ref s0, .ref m0, .int st])), (m0, .inr (1, [.ref s0, .ref g0, .ref ra, .ref sa, .ref oa, .int (nI z.2.2.2.2), .ref ma, .int (nI rc)])), (g0, .inr (0, [.int z.1.1, .int z.1.2.1, .long z.1.2.2.1, .long z.1.2.2.2.1, .long z.1.2.2.2.2])), (s0, .inr (2, [.ref xa, .ref ya, .int (nI n)])), (xa, .inl (cI, 20, .inl x)), (ya, .inl (cI, 20, .inl y)), (ra, .inl (cI, 105, .inl (fun j9 => nI (z.2.1 j9)))), (sa, .inl (cI, 36, .inl (fun j9 => nI (z.2.2.1 j9)))), (oa, .inl (cI, 400, .inl z.2.2.2.1)), (ma, .inl (cI, 20, .inl rm))] = A at hD hE ⊢
  have hS : va_S A s.heap s.heap [] := va_S.rf
  have hP : va_P (dC, dI) vwCl [(c0, .inr (3, [.ref s0, .ref m0, .int st])), (m0, .inr (1, [.ref s0, .ref g0, .ref ra, .ref sa, .ref oa, .int (nI z.2.2.2.2), .ref ma, .int (nI rc)])), (g0, .inr (0, [.int z.1.1, .int z.1.2.1, .long z.1.2.2.1, .long z.1.2.2.2.1, .long z.1.2.2.2.2])), (s0, .inr (2, [.ref xa, .ref ya, .int (nI n)])), (xa, .inl (cI, 20, .inl x)), (ya, .inl (cI, 20, .inl y)), (ra, .inl (cI, 105, .inl (fun j9 => nI (z.2.1 j9)))), (sa, .inl (cI, 36, .inl (fun j9 => nI (z.2.2.1 j9)))), (oa, .inl (cI, 400, .inl z.2.2.2.1)), (ma, .inl (cI, 20, .inl rm))] s.heap := hP
  have hl := lv_entry ([.ref c0, .int w, .int t]) (n := 3) (Nat.le_of_ble_eq_true rfl)
  rw [lg_entry_eq]
  generalize (lg_sl ([.ref c0, .int w, .int t]) ++ List.replicate (3 - (lg_sl ([.ref c0, .int w, .int t])).length) Slot.unset).toArray = ls at hl ⊢
  have hl : lv_has ls 3 [(0, .ref c0), (1, .int w), (2, .int t)] := hl
  refine lv_iload_n hx hb dX3_centre_0 rfl (lv_at hl 2 rfl) ?_
  refine lv_if_lt (tgt := 9) hx hb dX3_centre_1 (by decide) (fun c1 => ?_) (fun c1 => ?_)
  · exact q_throw (own := RX3) (cls := "java/lang/IllegalArgumentException") (text := "what is 0, 1 or 2") (ws' := [(c0, .inr (3, [.ref s0, .ref m0, .int st])), (m0, .inr (1, [.ref s0, .ref g0, .ref ra, .ref sa, .ref oa, .int (nI z.2.2.2.2), .ref ma, .int (nI rc)])), (g0, .inr (0, [.int z.1.1, .int z.1.2.1, .long z.1.2.2.1, .long z.1.2.2.2.1, .long z.1.2.2.2.2])), (s0, .inr (2, [.ref xa, .ref ya, .int (nI n)])), (xa, .inl (cI, 20, .inl x)), (ya, .inl (cI, 20, .inl y)), (ra, .inl (cI, 105, .inl (fun j9 => nI (z.2.1 j9)))), (sa, .inl (cI, 36, .inl (fun j9 => nI (z.2.2.1 j9)))), (oa, .inl (cI, 400, .inl z.2.2.2.1)), (ma, .inl (cI, 20, .inl rm))]) hx hb hst9 hown (by decide +kernel) (by decide) (by decide) hts (by decide +kernel) (by decide +kernel) (by decide +kernel) (by decide +kernel) (by decide +kernel) hE hP hS (hl.1.trans hml.symm) dX3_centre_9 dX3_centre_12 dX3_centre_13 dX3_centre_15 dX3_centre_18 hout (Nat.le_of_ble_eq_true rfl) (Nat.le_of_ble_eq_true rfl) (Nat.le_of_ble_eq_true rfl) (Nat.le_of_ble_eq_true rfl) hlocks
  · rw [r_out, if_neg c1] at ht
    refine lv_iload_n hx hb dX3_centre_4 rfl (lv_at hl 2 rfl) ?_
    refine lv_iconst (v := 2) hx hb dX3_centre_5 (by decide) ?_
    refine lv_icmp_le (tgt := 19) hx hb dX3_centre_6 (by decide) (fun c6 => ?_) (fun c6 => ?_)
    · rw [if_pos (lt_3 c6)] at ht; cases ht
    · exact q_throw (own := RX3) (cls := "java/lang/IllegalArgumentException") (text := "what is 0, 1 or 2") (ws' := [(c0, .inr (3, [.ref s0, .ref m0, .int st])), (m0, .inr (1, [.ref s0, .ref g0, .ref ra, .ref sa, .ref oa, .int (nI z.2.2.2.2), .ref ma, .int (nI rc)])), (g0, .inr (0, [.int z.1.1, .int z.1.2.1, .long z.1.2.2.1, .long z.1.2.2.2.1, .long z.1.2.2.2.2])), (s0, .inr (2, [.ref xa, .ref ya, .int (nI n)])), (xa, .inl (cI, 20, .inl x)), (ya, .inl (cI, 20, .inl y)), (ra, .inl (cI, 105, .inl (fun j9 => nI (z.2.1 j9)))), (sa, .inl (cI, 36, .inl (fun j9 => nI (z.2.2.1 j9)))), (oa, .inl (cI, 400, .inl z.2.2.2.1)), (ma, .inl (cI, 20, .inl rm))]) hx hb hst9 hown (by decide +kernel) (by decide) (by decide) hts (by decide +kernel) (by decide +kernel) (by decide +kernel) (by decide +kernel) (by decide +kernel) hE hP hS (hl.1.trans hml.symm) dX3_centre_9 dX3_centre_12 dX3_centre_13 dX3_centre_15 dX3_centre_18 hout (Nat.le_of_ble_eq_true rfl) (Nat.le_of_ble_eq_true rfl) (Nat.le_of_ble_eq_true rfl) (Nat.le_of_ble_eq_true rfl) hlocks
set_option maxHeartbeats 4000000 in
set_option maxRecDepth 100000 in
theorem t2_X3_centre (l : Launch) (hst9 : l.stackTraces = false) (dC : Nat → ClassId) (dI : Nat → Nat → Nat) (c0 m0 s0 g0 ra sa oa ma xa ya : Nat) (cI : ClassId) (x y : Nat → Int32) (st : Int32) (z : (Int32 × Int32 × Int64 × Int64 × Int64) × (Nat → Nat) × (Nat → Nat) × (Nat → Int32) × Nat) (rm : Nat → Int32) (rc n : Nat) (w t : Int32) (ln : n ≤ 20) (lr : ∀ j, z.2.1 j < 20) (ls0 : z.2.2.1 0 = 0) (ht : r_out t 3 = false) (hf : r_out w (nI (j_refr x y n st z rm rc).1.2.2.2.2) = true) (R : ((Int32 × Int32 × Int64 × Int64 × Int64) × (Nat → Nat) × (Nat → Nat) × (Nat → Int32) × Nat) × (Nat → Int32) × Nat) (hR : j_refr x y n st z rm rc = R) : vx_Met l yX3_centre wsX3_centre ({ frames := 7, cells := 1, slots := 6, locals := 137 }) (q_Px (dC, dI) [.ref c0, .int w, .int t] [(c0, .inr (3, [.ref s0, .ref m0, .int st])), (m0, .inr (1, [.ref s0, .ref g0, .ref ra, .ref sa, .ref oa, .int (nI z.2.2.2.2), .ref ma, .int (nI rc)])), (g0, .inr (0, [.int z.1.1, .int z.1.2.1, .long z.1.2.2.1, .long z.1.2.2.2.1, .long z.1.2.2.2.2])), (s0, .inr (2, [.ref xa, .ref ya, .int (nI n)])), (xa, .inl (cI, 20, .inl x)), (ya, .inl (cI, 20, .inl y)), (ra, .inl (cI, 105, .inl (fun j9 => nI (z.2.1 j9)))), (sa, .inl (cI, 36, .inl (fun j9 => nI (z.2.2.1 j9)))), (oa, .inl (cI, 400, .inl z.2.2.2.1)), (ma, .inl (cI, 20, .inl rm))] [(cI, .int)]) q_no (q_XX (dC, dI) (q_in [(c0, .inr (3, [.ref s0, .ref m0, .int st])), (m0, .inr (1, [.ref s0, .ref g0, .ref ra, .ref sa, .ref oa, .int (nI z.2.2.2.2), .ref ma, .int (nI rc)])), (g0, .inr (0, [.int z.1.1, .int z.1.2.1, .long z.1.2.2.1, .long z.1.2.2.2.1, .long z.1.2.2.2.2])), (s0, .inr (2, [.ref xa, .ref ya, .int (nI n)])), (xa, .inl (cI, 20, .inl x)), (ya, .inl (cI, 20, .inl y)), (ra, .inl (cI, 105, .inl (fun j9 => nI (z.2.1 j9)))), (sa, .inl (cI, 36, .inl (fun j9 => nI (z.2.2.1 j9)))), (oa, .inl (cI, 400, .inl z.2.2.2.1)), (ma, .inl (cI, 20, .inl rm))]) q_NE [(c0, .inr (3, [.ref s0, .ref m0, .int 0])), (m0, .inr (1, [.ref s0, .ref g0, .ref ra, .ref sa, .ref oa, .int (nI R.1.2.2.2.2), .ref ma, .int (nI R.2.2)])), (g0, .inr (0, [.int R.1.1.1, .int R.1.1.2.1, .long R.1.1.2.2.1, .long R.1.1.2.2.2.1, .long R.1.1.2.2.2.2])), (s0, .inr (2, [.ref xa, .ref ya, .int (nI n)])), (xa, .inl (cI, 20, .inl x)), (ya, .inl (cI, 20, .inl y)), (ra, .inl (cI, 105, .inl (fun j9 => nI (R.1.2.1 j9)))), (sa, .inl (cI, 36, .inl (fun j9 => nI (R.1.2.2.1 j9)))), (oa, .inl (cI, 400, .inl R.1.2.2.2.1)), (ma, .inl (cI, 20, .inl R.2.1))]) 1 6 (q_in [(c0, .inr (3, [.ref s0, .ref m0, .int st])), (m0, .inr (1, [.ref s0, .ref g0, .ref ra, .ref sa, .ref oa, .int (nI z.2.2.2.2), .ref ma, .int (nI rc)])), (g0, .inr (0, [.int z.1.1, .int z.1.2.1, .long z.1.2.2.1, .long z.1.2.2.2.1, .long z.1.2.2.2.2])), (s0, .inr (2, [.ref xa, .ref ya, .int (nI n)])), (xa, .inl (cI, 20, .inl x)), (ya, .inl (cI, 20, .inl y)), (ra, .inl (cI, 105, .inl (fun j9 => nI (z.2.1 j9)))), (sa, .inl (cI, 36, .inl (fun j9 => nI (z.2.2.1 j9)))), (oa, .inl (cI, 400, .inl z.2.2.2.1)), (ma, .inl (cI, 20, .inl rm))]) := by
  refine vx_ofW (cc := cX3_centre) (maxL := 3) (ret := (some .long)) (by decide) rfl ?_
  intro p e s m args below meth c s₁ B hml hout hv
  obtain ⟨rfl, hP, hK, hD0, hE⟩ := hv
  have hx := B.exec
  have hb := B.bytes
  have hr := B.returns
  have hts := atoms_spec (ws := wsX3_centre) B.pre
  have hown : s.vm.findClass RX3 = some m.cls := findClass_of_methodNamed B.named
  have hlocks := B.notSynchronized
  have hD := q_inD hD0
  generalize hAe : q_in [(c0, .inr (3, [.ref s0, .ref m0, .int st])), (m0, .inr (1, [.ref s0, .ref g0, .ref ra, .ref sa, .ref oa, .int (nI z.2.2.2.2), .ref ma, .int (nI rc)])), (g0, .inr (0, [.int z.1.1, .int z.1.2.1, .long z.1.2.2.1, .long z.1.2.2.2.1, .long z.1.2.2.2.2])), (s0, .inr (2, [.ref xa, .ref ya, .int (nI n)])), (xa, .inl (cI, 20, .inl x)), (ya, .inl (cI, 20, .inl y)), (ra, .inl (cI, 105, .inl (fun j9 => nI (z.2.1 j9)))), (sa, .inl (cI, 36, .inl (fun j9 => nI (z.2.2.1 j9)))), (oa, .inl (cI, 400, .inl z.2.2.2.1)), (ma, .inl (cI, 20, .inl rm))] = A at hD hE ⊢
  have hS : va_S A s.heap s.heap [] := va_S.rf
  have hP : va_P (dC, dI) vwCl [(c0, .inr (3, [.ref s0, .ref m0, .int st])), (m0, .inr (1, [.ref s0, .ref g0, .ref ra, .ref sa, .ref oa, .int (nI z.2.2.2.2), .ref ma, .int (nI rc)])), (g0, .inr (0, [.int z.1.1, .int z.1.2.1, .long z.1.2.2.1, .long z.1.2.2.2.1, .long z.1.2.2.2.2])), (s0, .inr (2, [.ref xa, .ref ya, .int (nI n)])), (xa, .inl (cI, 20, .inl x)), (ya, .inl (cI, 20, .inl y)), (ra, .inl (cI, 105, .inl (fun j9 => nI (z.2.1 j9)))), (sa, .inl (cI, 36, .inl (fun j9 => nI (z.2.2.1 j9)))), (oa, .inl (cI, 400, .inl z.2.2.2.1)), (ma, .inl (cI, 20, .inl rm))] s.heap := hP
  have hl := lv_entry ([.ref c0, .int w, .int t]) (n := 3) (Nat.le_of_ble_eq_true rfl)
  rw [lg_entry_eq]
  generalize (lg_sl ([.ref c0, .int w, .int t]) ++ List.replicate (3 - (lg_sl ([.ref c0, .int w, .int t])).length) Slot.unset).toArray = ls at hl ⊢
  have hl : lv_has ls 3 [(0, .ref c0), (1, .int w), (2, .int t)] := hl
  refine lv_iload_n hx hb dX3_centre_0 rfl (lv_at hl 2 rfl) ?_
  refine lv_if_lt (tgt := 9) hx hb dX3_centre_1 (by decide) (fun c1 => ?_) (fun c1 => ?_)
  · rw [r_out, if_pos c1] at ht; cases ht
  · rw [r_out, if_neg c1] at ht
    refine lv_iload_n hx hb dX3_centre_4 rfl (lv_at hl 2 rfl) ?_
    refine lv_iconst (v := 2) hx hb dX3_centre_5 (by decide) ?_
    refine lv_icmp_le (tgt := 19) hx hb dX3_centre_6 (by decide) (fun c6 => ?_) (fun c6 => ?_)
    · refine lv_aload_n hx hb dX3_centre_19 rfl (lv_at hl 0 rfl) ?_
      obtain ⟨r1, hr1⟩ : ∃ r : ((Int32 × Int32 × Int64 × Int64 × Int64) × (Nat → Nat) × (Nat → Nat) × (Nat → Int32) × Nat) × (Nat → Int32) × Nat, j_refr x y n st z rm rc = r := ⟨_, rfl⟩
      refine q_mV (wc' := [(c0, .inr (3, [.ref s0, .ref m0, .int 0])), (m0, .inr (1, [.ref s0, .ref g0, .ref ra, .ref sa, .ref oa, .int (nI r1.1.2.2.2.2), .ref ma, .int (nI r1.2.2)])), (g0, .inr (0, [.int r1.1.1.1, .int r1.1.1.2.1, .long r1.1.1.2.2.1, .long r1.1.1.2.2.2.1, .long r1.1.1.2.2.2.2])), (s0, .inr (2, [.ref xa, .ref ya, .int (nI n)])), (xa, .inl (cI, 20, .inl x)), (ya, .inl (cI, 20, .inl y)), (ra, .inl (cI, 105, .inl (fun j9 => nI (r1.1.2.1 j9)))), (sa, .inl (cI, 36, .inl (fun j9 => nI (r1.1.2.2.1 j9)))), (oa, .inl (cI, 400, .inl r1.1.2.2.2.1)), (ma, .inl (cI, 20, .inl r1.2.1))]) (wsN := [(c0, .inr (3, [.ref s0, .ref m0, .int 0])), (m0, .inr (1, [.ref s0, .ref g0, .ref ra, .ref sa, .ref oa, .int (nI r1.1.2.2.2.2), .ref ma, .int (nI r1.2.2)])), (g0, .inr (0, [.int r1.1.1.1, .int r1.1.1.2.1, .long r1.1.1.2.2.1, .long r1.1.1.2.2.2.1, .long r1.1.1.2.2.2.2])), (s0, .inr (2, [.ref xa, .ref ya, .int (nI n)])), (xa, .inl (cI, 20, .inl x)), (ya, .inl (cI, 20, .inl y)), (ra, .inl (cI, 105, .inl (fun j9 => nI (r1.1.2.1 j9)))), (sa, .inl (cI, 36, .inl (fun j9 => nI (r1.1.2.2.1 j9)))), (oa, .inl (cI, 400, .inl r1.1.2.2.2.1)), (ma, .inl (cI, 20, .inl r1.2.1))]) (As := []) (rest := []) ⟨hx, hb, hml, hown, hts⟩ (c_X3_refresh l dC dI c0 m0 s0 g0 ra sa oa ma xa ya cI x y st (by omega) rm rc n (by omega) lr ls0 r1 hr1) (cwV 0 hts gX3_centre_X3_refresh rfl rfl rfl (by decide +kernel) ⟨Nat.le_of_ble_eq_true rfl, Nat.le_of_ble_eq_true rfl⟩) hK hP hD hS [0, 1, 2, 3, 4, 5, 6, 7, 8, 9] [0] 3 0 rfl rfl rfl rfl rfl rfl rfl rfl rfl hl.1 rfl (Nat.le_of_ble_eq_true rfl) ⟨Nat.zero_le _, Nat.zero_le _⟩ dX3_centre_20 rfl (fun H locs hP hD hS => ?_)
      refine W.eq (g2 := F0 m 23 ls []) rfl ?_
      rw [hr1] at hR hf
      subst hR
      refine lv_aload_n hx hb dX3_centre_23 rfl (lv_at hl 0 rfl) ?_
      refine lv_iload_n hx hb dX3_centre_24 rfl (lv_at hl 1 rfl) ?_
      refine q_tV (en := q_NE) (wc' := [(c0, .inr (3, [.ref s0, .ref m0, .int 0])), (m0, .inr (1, [.ref s0, .ref g0, .ref ra, .ref sa, .ref oa, .int (nI r1.1.2.2.2.2), .ref ma, .int (nI r1.2.2)]))]) (wsN := [(c0, .inr (3, [.ref s0, .ref m0, .int 0])), (m0, .inr (1, [.ref s0, .ref g0, .ref ra, .ref sa, .ref oa, .int (nI r1.1.2.2.2.2), .ref ma, .int (nI r1.2.2)])), (g0, .inr (0, [.int r1.1.1.1, .int r1.1.1.2.1, .long r1.1.1.2.2.1, .long r1.1.1.2.2.2.1, .long r1.1.1.2.2.2.2])), (s0, .inr (2, [.ref xa, .ref ya, .int (nI n)])), (xa, .inl (cI, 20, .inl x)), (ya, .inl (cI, 20, .inl y)), (ra, .inl (cI, 105, .inl (fun j9 => nI (r1.1.2.1 j9)))), (sa, .inl (cI, 36, .inl (fun j9 => nI (r1.1.2.2.1 j9)))), (oa, .inl (cI, 400, .inl r1.1.2.2.2.1)), (ma, .inl (cI, 20, .inl r1.2.1))]) (As := [.int w]) (rest := []) ⟨hx, hb, hml, hown, hts⟩ (t1_X3_requireCell l hst9 dC dI c0 m0 s0 g0 ra sa oa ma 0 (nI r1.2.2) r1.1.2.2.2.2 w hf) (cwV 1 hts gX3_centre_X3_requireCell rfl rfl rfl (by decide +kernel) ⟨Nat.le_of_ble_eq_true rfl, Nat.le_of_ble_eq_true rfl⟩) hE hK hP hD hS [0, 1] [] 3 0 rfl rfl rfl rfl rfl rfl rfl rfl rfl hl.1 rfl (Nat.le_of_ble_eq_true rfl) ⟨Nat.le_of_ble_eq_true rfl, Nat.le_of_ble_eq_true rfl⟩ dX3_centre_25 rfl (fun H locs q9 ce hP hD hS hq9 hcv hcl => ?_)
      exact q_tout hP hS hq9 hcv hcl hout hlocks
    · rw [if_neg (fun h => c6 (le_2 h))] at ht; cases ht
