/-! Centres. -/
section VC
variable {x y : Nat → Int32} {n : Nat}
theorem v_x (h : v_I x y n) (s : Nat) : w_i (x s) (w_X x s) 400 := ⟨rfl, by have h1 := h.2.1 s; show (x s).toInt.natAbs ≤ 400; omega⟩
theorem v_y (h : v_I x y n) (s : Nat) : w_i (y s) (w_X y s) 400 := ⟨rfl, by have h1 := h.2.1 s; show (y s).toInt.natAbs ≤ 400; omega⟩
theorem v_aa (h : v_I x y n) (a : Nat) : w_l (r_aa x y a) (w_X x a * w_X x a + w_X y a * w_X y a) 320000 :=
  w_l_add (w_l_mul (w_il (v_x h a)) (w_il (v_x h a)) (by decide)) (w_l_mul (w_il (v_y h a)) (w_il (v_y h a)) (by decide)) (by decide)
theorem v_uu (h : v_I x y n) (a b d : Nat) : w_l (r_uu x y a b d) ((w_X x a * w_X x a + w_X y a * w_X y a) * (w_X y b - w_X y d) + (w_X x b * w_X x b + w_X y b * w_X y b) * (w_X y d - w_X y a) + (w_X x d * w_X x d + w_X y d * w_X y d) * (w_X y a - w_X y b)) 768000000 :=
  w_l_add (w_l_add (w_l_mul (v_aa h a) (w_il (w_i_sub (v_y h b) (v_y h d) (by decide))) (by decide)) (w_l_mul (v_aa h b) (w_il (w_i_sub (v_y h d) (v_y h a) (by decide))) (by decide)) (by decide)) (w_l_mul (v_aa h d) (w_il (w_i_sub (v_y h a) (v_y h b) (by decide))) (by decide)) (by decide)
theorem v_ww (h : v_I x y n) (a b d : Nat) : w_l (r_ww x y a b d) ((w_X x a * w_X x a + w_X y a * w_X y a) * (w_X x d - w_X x b) + (w_X x b * w_X x b + w_X y b * w_X y b) * (w_X x a - w_X x d) + (w_X x d * w_X x d + w_X y d * w_X y d) * (w_X x b - w_X x a)) 768000000 :=
  w_l_add (w_l_add (w_l_mul (v_aa h a) (w_il (w_i_sub (v_x h d) (v_x h b) (by decide))) (by decide)) (w_l_mul (v_aa h b) (w_il (w_i_sub (v_x h a) (v_x h d) (by decide))) (by decide)) (by decide)) (w_l_mul (v_aa h d) (w_il (w_i_sub (v_x h b) (v_x h a) (by decide))) (by decide)) (by decide)
theorem v_dd (h : v_I x y n) (a b d : Nat) : w_l (r_dd x y a b d) (2 * g_t (w_X x) (w_X y) a b d) 1920000 := by
  refine w_l_eq (w_l_mul w_l_2 (w_l_add (w_l_add (w_l_mul (w_il (v_x h a)) (w_il (w_i_sub (v_y h b) (v_y h d) (by decide))) (by decide)) (w_l_mul (w_il (v_x h b)) (w_il (w_i_sub (v_y h d) (v_y h a) (by decide))) (by decide)) (by decide)) (w_l_mul (w_il (v_x h d)) (w_il (w_i_sub (v_y h a) (v_y h b) (by decide))) (by decide)) (by decide)) (by decide)) ?_
  unfold g_t
  grind
theorem v_hu1 (h : v_I x y n) (a b d : Nat) : (r_uu x y a b d).toInt.natAbs < 2 ^ 62 ∧ (r_ww x y a b d).toInt.natAbs < 2 ^ 62 ∧ (r_dd x y a b d).toInt.natAbs < 2 ^ 62 := by
  have e1 := v_uu h a b d
  have e2 := v_ww h a b d
  have e3 := v_dd h a b d
  rw [e1.1, e2.1, e3.1]
  have f1 := e1.2
  have f2 := e2.2
  have f3 := e3.2
  refine ⟨Nat.lt_of_le_of_lt f1 (by decide), Nat.lt_of_le_of_lt f2 (by decide), Nat.lt_of_le_of_lt f3 (by decide)⟩
theorem v_cen (h : v_I x y n) {a b d : Nat} (hg : 0 < g_t (w_X x) (w_X y) a b d) : ∃ sn, sn < 2 ^ 63 ∧ (j_lay x y a b d).2.2.2.2 = lN sn ∧ ((j_lay x y a b d).1.toInt64 * lN sn + (j_lay x y a b d).2.2.1).toInt.natAbs < 2 ^ 63 ∧ ((j_lay x y a b d).2.1.toInt64 * lN sn + (j_lay x y a b d).2.2.2.1).toInt.natAbs < 2 ^ 63 ∧ 0 < (r_dd x y a b d).toInt.natAbs ∧ ∀ t, j_mid ((j_lay x y a b d).1.toInt64 * lN sn + (j_lay x y a b d).2.2.1) ((j_lay x y a b d).2.1.toInt64 * lN sn + (j_lay x y a b d).2.2.2.1) sn t = r_cval x y a b d t := by
  have bx := w_il (w_i_sub (v_x h b) (v_x h a) (by decide))
  have bY := w_il (w_i_sub (v_y h b) (v_y h a) (by decide))
  have cx := w_il (w_i_sub (v_x h d) (v_x h a) (by decide))
  have cy := w_il (w_i_sub (v_y h d) (v_y h a) (by decide))
  have bb := w_l_add (w_l_mul bx bx (by decide)) (w_l_mul bY bY (by decide)) (by decide)
  have cc := w_l_add (w_l_mul cx cx (by decide)) (w_l_mul cy cy (by decide)) (by decide)
  have ax := w_l_sub (w_l_mul cy bb (by decide)) (w_l_mul bY cc (by decide)) (by decide)
  have ay := w_l_sub (w_l_mul bx cc (by decide)) (w_l_mul cx bb (by decide)) (by decide)
  have sp := w_l_mul w_l_2 (w_l_sub (w_l_mul bx cy (by decide)) (w_l_mul bY cx (by decide)) (by decide)) (by decide)
  have eX := w_l_add (w_l_mul (w_il (v_x h a)) sp (by decide)) ax (by decide)
  have eY := w_l_add (w_l_mul (w_il (v_y h a)) sp (by decide)) ay (by decide)
  have hD := v_dd h a b d
  have hU := v_uu h a b d
  have hW := v_ww h a b d
  have hlt : (2 * g_t (w_X x) (w_X y) a b d).natAbs < 2 ^ 62 := Nat.lt_of_le_of_lt hD.2 (by decide)
  have esp : (j_lay x y a b d).2.2.2.2 = lN (2 * g_t (w_X x) (w_X y) a b d).natAbs := by
    apply Int64.toInt_inj.mp
    rw [pk_lT (by omega)]
    refine sp.1.trans ?_
    have : (2 : Int) * ((w_X x b - w_X x a) * (w_X y d - w_X y a) - (w_X y b - w_X y a) * (w_X x d - w_X x a)) = 2 * g_t (w_X x) (w_X y) a b d := rfl
    rw [this]
    omega
  have edd : lN (2 * g_t (w_X x) (w_X y) a b d).natAbs = r_dd x y a b d := by
    apply Int64.toInt_inj.mp
    rw [pk_lT (by omega), hD.1]
    omega
  have eXX : (j_lay x y a b d).1.toInt64 * lN (2 * g_t (w_X x) (w_X y) a b d).natAbs + (j_lay x y a b d).2.2.1 = r_uu x y a b d := by
    rw [← esp]
    apply Int64.toInt_inj.mp
    rw [hU.1]
    refine eX.1.trans ?_
    grind
  have eYY : (j_lay x y a b d).2.1.toInt64 * lN (2 * g_t (w_X x) (w_X y) a b d).natAbs + (j_lay x y a b d).2.2.2.1 = r_ww x y a b d := by
    rw [← esp]
    apply Int64.toInt_inj.mp
    rw [hW.1]
    refine eY.1.trans ?_
    grind
  have hu := v_hu1 h a b d
  refine ⟨(2 * g_t (w_X x) (w_X y) a b d).natAbs, by omega, esp, by rw [eXX]; omega, by rw [eYY]; omega, by rw [hD.1]; omega, fun t => ?_⟩
  rw [eXX, eYY]
  have hsh : j_shr (r_uu x y a b d) (r_ww x y a b d) (2 * g_t (w_X x) (w_X y) a b d).natAbs = r_gg x y a b d := by
    unfold j_shr r_gg
    rw [v_cd 63 128 _ _ (j_cd_lt 128 _ _ (show _ < 2 ^ 63 by omega) (show _ < 2 ^ 63 by omega)) (by decide), v_cd 63 128 _ _ (show _ < 2 ^ 63 by omega) (by decide), Nat.gcd_comm, hD.1]
  have hgp : 0 < r_gg x y a b d := by
    unfold r_gg
    exact Nat.gcd_pos_of_pos_right _ (by rw [hD.1]; omega)
  unfold j_mid r_cval j_want
  rw [hsh, edd]
  split
  · rename_i h1
    have h2 : r_gg x y a b d = 1 := by omega
    rw [h2, show lN 1 = (1 : Int64) from rfl, Int64.div_one, Int64.div_one, Int64.div_one]
  · split
    · rfl
    · split
      · rfl
      · rfl
end VC
