/-! The law's own methods, case by case -/
set_option maxHeartbeats 4000000 in
set_option maxRecDepth 100000 in
theorem lR_L_remove (l : Launch) (hst9 : l.stackTraces = false) (dC : Nat → ClassId) (dI : Nat → Nat → Nat) (c0 m0 s0 xa ya : Nat) (cI : ClassId) (x y : Nat → Int32) (st : Int32) (n : Nat) (k : Nat) (lk : k < n) (ln : n ≤ 20) (R : (Nat → Int32) × (Nat → Int32)) (hR : j_drop n x y (k + 1) = R) : Met l yL_remove wsL_remove ({ frames := 8, cells := 1, slots := 6, locals := 124 }) (q_Py (dC, dI) [.ref c0, .int (nI k)] [(c0, .inr (3, [.ref s0, .ref m0, .int st])), (s0, .inr (2, [.ref xa, .ref ya, .int (nI n)])), (xa, .inl (cI, 20, .inl x)), (ya, .inl (cI, 20, .inl y))] [(cI, .int)]) (q_Qm (dC, dI) (q_in [(c0, .inr (3, [.ref s0, .ref m0, .int st])), (s0, .inr (2, [.ref xa, .ref ya, .int (nI n)])), (xa, .inl (cI, 20, .inl x)), (ya, .inl (cI, 20, .inl y))]) (some (.int 0)) [(c0, .inr (3, [.ref s0, .ref m0, .int 1])), (s0, .inr (2, [.ref xa, .ref ya, .int (nI (n - 1))])), (xa, .inl (cI, 20, .inl R.1)), (ya, .inl (cI, 20, .inl R.2))]) 1 6 (q_in [(c0, .inr (3, [.ref s0, .ref m0, .int st])), (s0, .inr (2, [.ref xa, .ref ya, .int (nI n)])), (xa, .inl (cI, 20, .inl x)), (ya, .inl (cI, 20, .inl y))]) := by
  refine va_MetW (cc := cL_remove) (maxL := 3) (ret := (some .int)) (hh := [(0, 5, 8, 13)]) (by decide) rfl ?_
  intro p e s m args below meth c s₁ B hml hv
  obtain ⟨rfl, hP, hK, hD0, hE, hNc⟩ := hv
  have hx := B.exec
  have hb := B.bytes
  have hr := B.returns
  have hts := atoms_spec (ws := wsL_remove) B.pre
  have hown : s.vm.findClass RL = some m.cls := findClass_of_methodNamed B.named
  have hlocks := B.notSynchronized
  have htab := vx_table (x := yL_remove) B (hts (.codeWith yL_remove cL_remove 3 (some .int) [(0, 5, 8, 13)]) List.mem_cons_self)
  have hD := q_inD hD0
  generalize hAe : q_in [(c0, .inr (3, [.ref s0, .ref m0, .int st])), (s0, .inr (2, [.ref xa, .ref ya, .int (nI n)])), (xa, .inl (cI, 20, .inl x)), (ya, .inl (cI, 20, .inl y))] = A at hD hE ⊢
  have hS : va_S A s.heap s.heap [] := va_S.rf
  have hP : va_P (dC, dI) vwCl [(c0, .inr (3, [.ref s0, .ref m0, .int st])), (s0, .inr (2, [.ref xa, .ref ya, .int (nI n)])), (xa, .inl (cI, 20, .inl x)), (ya, .inl (cI, 20, .inl y))] s.heap := hP
  have hl := lv_entry ([.ref c0, .int (nI k)]) (n := 3) (Nat.le_of_ble_eq_true rfl)
  rw [lg_entry_eq]
  generalize (lg_sl ([.ref c0, .int (nI k)]) ++ List.replicate (3 - (lg_sl ([.ref c0, .int (nI k)])).length) Slot.unset).toArray = ls at hl ⊢
  have hl : lv_has ls 3 [(0, .ref c0), (1, .int (nI k))] := hl
  refine lv_aload_n hx hb dL_remove_0 rfl (lv_at hl 0 rfl) ?_
  refine lv_iload_n hx hb dL_remove_1 rfl (lv_at hl 1 rfl) ?_
  obtain ⟨r1, hr1⟩ : ∃ r : (Nat → Int32) × (Nat → Int32), j_drop n x y (k + 1) = r := ⟨_, rfl⟩
  refine q_mV (wc' := [(c0, .inr (3, [.ref s0, .ref m0, .int 1])), (s0, .inr (2, [.ref xa, .ref ya, .int (nI (n - 1))])), (xa, .inl (cI, 20, .inl r1.1)), (ya, .inl (cI, 20, .inl r1.2))]) (wsN := [(c0, .inr (3, [.ref s0, .ref m0, .int 1])), (s0, .inr (2, [.ref xa, .ref ya, .int (nI (n - 1))])), (xa, .inl (cI, 20, .inl r1.1)), (ya, .inl (cI, 20, .inl r1.2))]) (As := [.int (nI k)]) (rest := []) ⟨hx, hb, hml, hown, hts⟩ (c_X3_remove l dC dI c0 m0 s0 xa ya cI x y st n k lk ln r1 hr1) (cwV 1 hts gL_remove_X3_remove rfl rfl rfl (by decide +kernel) ⟨Nat.le_of_ble_eq_true rfl, Nat.le_of_ble_eq_true rfl⟩) hK hP hD hS [0, 1, 2, 3] [0] 3 0 rfl rfl rfl rfl rfl rfl rfl rfl rfl hl.1 rfl (Nat.le_of_ble_eq_true rfl) ⟨Nat.zero_le _, Nat.zero_le _⟩ dL_remove_2 rfl (fun H locs hP hD hS => ?_)
  refine W.eq (g2 := F0 m 5 ls []) rfl ?_
  rw [hr1] at hR
  subst hR
  refine lv_goto (tgt := 11) hx hb dL_remove_5 (by decide) ?_
  refine lv_iconst (v := 0) hx hb dL_remove_11 (by decide) ?_
  refine W.widen (k := 1) (n := 6) (Nat.zero_le _) (Nat.zero_le _) ?_
  exact W.iret (v := 0) hx hb hr (q_retm hP hS) hS.2.2 dL_remove_12
set_option maxHeartbeats 4000000 in
set_option maxRecDepth 100000 in
theorem l1_L_remove (l : Launch) (hst9 : l.stackTraces = false) (dC : Nat → ClassId) (dI : Nat → Nat → Nat) (c0 m0 s0 xa ya : Nat) (cI : ClassId) (x y : Nat → Int32) (st : Int32) (n : Nat) (w : Int32) (hf : r_out w (nI n) = true) : Met l yL_remove wsL_remove ({ frames := 8, cells := 1, slots := 6, locals := 124 }) (q_Py (dC, dI) [.ref c0, .int w] [(c0, .inr (3, [.ref s0, .ref m0, .int st])), (s0, .inr (2, [.ref xa, .ref ya, .int (nI n)])), (xa, .inl (cI, 20, .inl x)), (ya, .inl (cI, 20, .inl y))] [(cI, .int)]) (q_Qm (dC, dI) (q_in [(c0, .inr (3, [.ref s0, .ref m0, .int st])), (s0, .inr (2, [.ref xa, .ref ya, .int (nI n)])), (xa, .inl (cI, 20, .inl x)), (ya, .inl (cI, 20, .inl y))]) (some (.int 1)) [(c0, .inr (3, [.ref s0, .ref m0, .int st])), (s0, .inr (2, [.ref xa, .ref ya, .int (nI n)])), (xa, .inl (cI, 20, .inl x)), (ya, .inl (cI, 20, .inl y))]) 1 6 (q_in [(c0, .inr (3, [.ref s0, .ref m0, .int st])), (s0, .inr (2, [.ref xa, .ref ya, .int (nI n)])), (xa, .inl (cI, 20, .inl x)), (ya, .inl (cI, 20, .inl y))]) := by
  refine va_MetW (cc := cL_remove) (maxL := 3) (ret := (some .int)) (hh := [(0, 5, 8, 13)]) (by decide) rfl ?_
  intro p e s m args below meth c s₁ B hml hv
  obtain ⟨rfl, hP, hK, hD0, hE, hNc⟩ := hv
  have hx := B.exec
  have hb := B.bytes
  have hr := B.returns
  have hts := atoms_spec (ws := wsL_remove) B.pre
  have hown : s.vm.findClass RL = some m.cls := findClass_of_methodNamed B.named
  have hlocks := B.notSynchronized
  have htab := vx_table (x := yL_remove) B (hts (.codeWith yL_remove cL_remove 3 (some .int) [(0, 5, 8, 13)]) List.mem_cons_self)
  have hD := q_inD hD0
  generalize hAe : q_in [(c0, .inr (3, [.ref s0, .ref m0, .int st])), (s0, .inr (2, [.ref xa, .ref ya, .int (nI n)])), (xa, .inl (cI, 20, .inl x)), (ya, .inl (cI, 20, .inl y))] = A at hD hE ⊢
  have hS : va_S A s.heap s.heap [] := va_S.rf
  have hP : va_P (dC, dI) vwCl [(c0, .inr (3, [.ref s0, .ref m0, .int st])), (s0, .inr (2, [.ref xa, .ref ya, .int (nI n)])), (xa, .inl (cI, 20, .inl x)), (ya, .inl (cI, 20, .inl y))] s.heap := hP
  have hl := lv_entry ([.ref c0, .int w]) (n := 3) (Nat.le_of_ble_eq_true rfl)
  rw [lg_entry_eq]
  generalize (lg_sl ([.ref c0, .int w]) ++ List.replicate (3 - (lg_sl ([.ref c0, .int w])).length) Slot.unset).toArray = ls at hl ⊢
  have hl : lv_has ls 3 [(0, .ref c0), (1, .int w)] := hl
  refine lv_aload_n hx hb dL_remove_0 rfl (lv_at hl 0 rfl) ?_
  refine lv_iload_n hx hb dL_remove_1 rfl (lv_at hl 1 rfl) ?_
  refine q_tV (en := q_IA) (wc' := [(c0, .inr (3, [.ref s0, .ref m0, .int st])), (s0, .inr (2, [.ref xa, .ref ya, .int (nI n)])), (xa, .inl (cI, 20, .inl x)), (ya, .inl (cI, 20, .inl y))]) (wsN := [(c0, .inr (3, [.ref s0, .ref m0, .int st])), (s0, .inr (2, [.ref xa, .ref ya, .int (nI n)])), (xa, .inl (cI, 20, .inl x)), (ya, .inl (cI, 20, .inl y))]) (As := [.int w]) (rest := []) ⟨hx, hb, hml, hown, hts⟩ (t1_X3_remove l hst9 dC dI c0 m0 s0 xa ya cI x y st n w hf) (cwV 1 hts gL_remove_X3_remove rfl rfl rfl (by decide +kernel) ⟨Nat.le_of_ble_eq_true rfl, Nat.le_of_ble_eq_true rfl⟩) hE hK hP hD hS [0, 1, 2, 3] [0] 3 0 rfl rfl rfl rfl rfl rfl rfl rfl rfl hl.1 rfl (Nat.le_of_ble_eq_true rfl) ⟨Nat.le_of_ble_eq_true rfl, Nat.le_of_ble_eq_true rfl⟩ dL_remove_2 rfl (fun H locs q9 ce hP hD hS hq9 hcv hcl => ?_)
  refine q_catchL (h := 8) (fun hpl => ?_) hq9 hcv hcl ?_
  · rw [htab]
    exact q_hit (E := q_IA) (x := ⟨0, 5, 8, 13⟩) hpl hown (by decide) (by decide) (hts (.classLink RL 13 "java/lang/IllegalArgumentException") (by decide +kernel)) (hE.2.2.1 _ q_m_IA) hcl
  refine lv_astore_n (lv' := [(2, .ref q9), (0, .ref c0), (1, .int w)]) hx hb dL_remove_8 rfl hl (by decide) rfl (fun ls hl => ?_)
  refine lv_iconst (v := 1) hx hb dL_remove_9 (by decide) ?_
  exact W.iret (v := 1) hx hb hr (q_retm hP hS) hS.2.2 dL_remove_10
