/-! The law's own methods, case by case -/
set_option maxHeartbeats 4000000 in
set_option maxRecDepth 100000 in
theorem lR_L_nearest (l : Launch) (hst9 : l.stackTraces = false) (dC : Nat → ClassId) (dI : Nat → Nat → Nat) (c0 m0 s0 xa ya : Nat) (cI : ClassId) (oj : Nat) (cJ : ClassId) (ou : Nat → Int64) (x y : Nat → Int32) (st : Int32) (n : Nat) (px py : Int32) (l0 : 0 < n) (ln : n ≤ 20) (hf : r_far px py = false) : Met l yL_nearest wsL_nearest ({ frames := 8, cells := 1, slots := 6, locals := 125 }) (q_Py (dC, dI) [.ref c0, .int px, .int py, .ref oj] [(c0, .inr (3, [.ref s0, .ref m0, .int st])), (s0, .inr (2, [.ref xa, .ref ya, .int (nI n)])), (xa, .inl (cI, 20, .inl x)), (ya, .inl (cI, 20, .inl y)), (oj, .inl (cJ, 1, .inr (.inl ou)))] [(cI, .int), (cJ, .long)]) (q_Qm (dC, dI) (q_in [(c0, .inr (3, [.ref s0, .ref m0, .int st])), (s0, .inr (2, [.ref xa, .ref ya, .int (nI n)])), (xa, .inl (cI, 20, .inl x)), (ya, .inl (cI, 20, .inl y)), (oj, .inl (cJ, 1, .inr (.inl ou)))]) (some (.int 0)) [(c0, .inr (3, [.ref s0, .ref m0, .int st])), (s0, .inr (2, [.ref xa, .ref ya, .int (nI n)])), (xa, .inl (cI, 20, .inl x)), (ya, .inl (cI, 20, .inl y)), (oj, .inl (cJ, 1, .inr (.inl (vp_updL ou 0 ((nI (j_near x y n px py 0 1)).toInt64)))))]) 1 6 (q_in [(c0, .inr (3, [.ref s0, .ref m0, .int st])), (s0, .inr (2, [.ref xa, .ref ya, .int (nI n)])), (xa, .inl (cI, 20, .inl x)), (ya, .inl (cI, 20, .inl y)), (oj, .inl (cJ, 1, .inr (.inl ou)))]) := by
  refine va_MetW (cc := cL_nearest) (maxL := 5) (ret := (some .int)) (hh := [(0, 10, 13, 13), (0, 10, 17, 15)]) (by decide) rfl ?_
  intro p e s m args below meth c s₁ B hml hv
  obtain ⟨rfl, hP, hK, hD0, hE, hNc⟩ := hv
  have hx := B.exec
  have hb := B.bytes
  have hr := B.returns
  have hts := atoms_spec (ws := wsL_nearest) B.pre
  have hown : s.vm.findClass RL = some m.cls := findClass_of_methodNamed B.named
  have hlocks := B.notSynchronized
  have htab := vx_table (x := yL_nearest) B (hts (.codeWith yL_nearest cL_nearest 5 (some .int) [(0, 10, 13, 13), (0, 10, 17, 15)]) List.mem_cons_self)
  have hD := q_inD hD0
  generalize hAe : q_in [(c0, .inr (3, [.ref s0, .ref m0, .int st])), (s0, .inr (2, [.ref xa, .ref ya, .int (nI n)])), (xa, .inl (cI, 20, .inl x)), (ya, .inl (cI, 20, .inl y)), (oj, .inl (cJ, 1, .inr (.inl ou)))] = A at hD hE ⊢
  have hS : va_S A s.heap s.heap [] := va_S.rf
  have hP : va_P (dC, dI) vwCl [(c0, .inr (3, [.ref s0, .ref m0, .int st])), (s0, .inr (2, [.ref xa, .ref ya, .int (nI n)])), (xa, .inl (cI, 20, .inl x)), (ya, .inl (cI, 20, .inl y)), (oj, .inl (cJ, 1, .inr (.inl ou)))] s.heap := hP
  have hl := lv_entry ([.ref c0, .int px, .int py, .ref oj]) (n := 5) (Nat.le_of_ble_eq_true rfl)
  rw [lg_entry_eq]
  generalize (lg_sl ([.ref c0, .int px, .int py, .ref oj]) ++ List.replicate (5 - (lg_sl ([.ref c0, .int px, .int py, .ref oj])).length) Slot.unset).toArray = ls at hl ⊢
  have hl : lv_has ls 5 [(0, .ref c0), (1, .int px), (2, .int py), (3, .ref oj)] := hl
  refine lv_aload_n hx hb dL_nearest_0 rfl (lv_at hl 3 rfl) ?_
  refine lv_iconst (v := nI 0) hx hb dL_nearest_1 (by decide) ?_
  refine lv_aload_n hx hb dL_nearest_2 rfl (lv_at hl 0 rfl) ?_
  refine lv_iload_n hx hb dL_nearest_3 rfl (lv_at hl 1 rfl) ?_
  refine lv_iload_n hx hb dL_nearest_4 rfl (lv_at hl 2 rfl) ?_
  refine q_mV (wc' := [(c0, .inr (3, [.ref s0, .ref m0, .int st])), (s0, .inr (2, [.ref xa, .ref ya, .int (nI n)])), (xa, .inl (cI, 20, .inl x)), (ya, .inl (cI, 20, .inl y))]) (wsN := [(c0, .inr (3, [.ref s0, .ref m0, .int st])), (s0, .inr (2, [.ref xa, .ref ya, .int (nI n)])), (xa, .inl (cI, 20, .inl x)), (ya, .inl (cI, 20, .inl y)), (oj, .inl (cJ, 1, .inr (.inl ou)))]) (As := [.int px, .int py]) (rest := [.int (nI 0), .ref oj]) ⟨hx, hb, hml, hown, hts⟩ (c_X3_nearest l dC dI c0 m0 s0 xa ya cI x y st n px py l0 ln hf) (cwV 2 hts gL_nearest_X3_nearest rfl rfl rfl (by decide +kernel) ⟨Nat.le_of_ble_eq_true rfl, Nat.le_of_ble_eq_true rfl⟩) hK hP hD hS [0, 1, 2, 3] [0] 3 0 rfl rfl rfl rfl rfl rfl rfl rfl rfl hl.1 rfl (Nat.le_of_ble_eq_true rfl) ⟨Nat.zero_le _, Nat.zero_le _⟩ dL_nearest_5 rfl (fun H locs hP hD hS => ?_)
  refine W.eq (g2 := F0 m 8 ls [.int (nI (j_near x y n px py 0 1)), .int (nI 0), .ref oj]) rfl ?_
  refine lv_i2l (v := (nI (j_near x y n px py 0 1)).toInt64) hx hb dL_nearest_8 rfl ?_
  refine q_last (ws' := [(c0, .inr (3, [.ref s0, .ref m0, .int st])), (s0, .inr (2, [.ref xa, .ref ya, .int (nI n)])), (xa, .inl (cI, 20, .inl x)), (ya, .inl (cI, 20, .inl y)), (oj, .inl (cJ, 1, .inr (.inl (vp_updL ou 0 ((nI (j_near x y n px py 0 1)).toInt64)))))]) hx hb hK hP hD hS 4 1 rfl rfl (0) rfl (by omega) (by decide) dL_nearest_9 rfl (fun H locs hP hD hS => ?_)
  refine lv_goto (tgt := 21) hx hb dL_nearest_10 (by decide) ?_
  refine lv_iconst (v := 0) hx hb dL_nearest_21 (by decide) ?_
  refine W.widen (k := 1) (n := 6) (Nat.zero_le _) (Nat.zero_le _) ?_
  exact W.iret (v := 0) hx hb hr (q_retm hP hS) hS.2.2 dL_nearest_22
set_option maxHeartbeats 4000000 in
set_option maxRecDepth 100000 in
theorem l1_L_nearest (l : Launch) (hst9 : l.stackTraces = false) (dC : Nat → ClassId) (dI : Nat → Nat → Nat) (c0 m0 s0 xa ya : Nat) (cI : ClassId) (oj : Nat) (cJ : ClassId) (ou : Nat → Int64) (x y : Nat → Int32) (st : Int32) (n : Nat) (px py : Int32) (hf : r_far px py = true) : Met l yL_nearest wsL_nearest ({ frames := 8, cells := 1, slots := 6, locals := 125 }) (q_Py (dC, dI) [.ref c0, .int px, .int py, .ref oj] [(c0, .inr (3, [.ref s0, .ref m0, .int st])), (s0, .inr (2, [.ref xa, .ref ya, .int (nI n)])), (xa, .inl (cI, 20, .inl x)), (ya, .inl (cI, 20, .inl y)), (oj, .inl (cJ, 1, .inr (.inl ou)))] [(cI, .int), (cJ, .long)]) (q_Qm (dC, dI) (q_in [(c0, .inr (3, [.ref s0, .ref m0, .int st])), (s0, .inr (2, [.ref xa, .ref ya, .int (nI n)])), (xa, .inl (cI, 20, .inl x)), (ya, .inl (cI, 20, .inl y)), (oj, .inl (cJ, 1, .inr (.inl ou)))]) (some (.int 1)) [(c0, .inr (3, [.ref s0, .ref m0, .int st])), (s0, .inr (2, [.ref xa, .ref ya, .int (nI n)])), (xa, .inl (cI, 20, .inl x)), (ya, .inl (cI, 20, .inl y)), (oj, .inl (cJ, 1, .inr (.inl ou)))]) 1 6 (q_in [(c0, .inr (3, [.ref s0, .ref m0, .int st])), (s0, .inr (2, [.ref xa, .ref ya, .int (nI n)])), (xa, .inl (cI, 20, .inl x)), (ya, .inl (cI, 20, .inl y)), (oj, .inl (cJ, 1, .inr (.inl ou)))]) := by
  refine va_MetW (cc := cL_nearest) (maxL := 5) (ret := (some .int)) (hh := [(0, 10, 13, 13), (0, 10, 17, 15)]) (by decide) rfl ?_
  intro p e s m args below meth c s₁ B hml hv
  obtain ⟨rfl, hP, hK, hD0, hE, hNc⟩ := hv
  have hx := B.exec
  have hb := B.bytes
  have hr := B.returns
  have hts := atoms_spec (ws := wsL_nearest) B.pre
  have hown : s.vm.findClass RL = some m.cls := findClass_of_methodNamed B.named
  have hlocks := B.notSynchronized
  have htab := vx_table (x := yL_nearest) B (hts (.codeWith yL_nearest cL_nearest 5 (some .int) [(0, 10, 13, 13), (0, 10, 17, 15)]) List.mem_cons_self)
  have hD := q_inD hD0
  generalize hAe : q_in [(c0, .inr (3, [.ref s0, .ref m0, .int st])), (s0, .inr (2, [.ref xa, .ref ya, .int (nI n)])), (xa, .inl (cI, 20, .inl x)), (ya, .inl (cI, 20, .inl y)), (oj, .inl (cJ, 1, .inr (.inl ou)))] = A at hD hE ⊢
  have hS : va_S A s.heap s.heap [] := va_S.rf
  have hP : va_P (dC, dI) vwCl [(c0, .inr (3, [.ref s0, .ref m0, .int st])), (s0, .inr (2, [.ref xa, .ref ya, .int (nI n)])), (xa, .inl (cI, 20, .inl x)), (ya, .inl (cI, 20, .inl y)), (oj, .inl (cJ, 1, .inr (.inl ou)))] s.heap := hP
  have hl := lv_entry ([.ref c0, .int px, .int py, .ref oj]) (n := 5) (Nat.le_of_ble_eq_true rfl)
  rw [lg_entry_eq]
  generalize (lg_sl ([.ref c0, .int px, .int py, .ref oj]) ++ List.replicate (5 - (lg_sl ([.ref c0, .int px, .int py, .ref oj])).length) Slot.unset).toArray = ls at hl ⊢
  have hl : lv_has ls 5 [(0, .ref c0), (1, .int px), (2, .int py), (3, .ref oj)] := hl
  refine lv_aload_n hx hb dL_nearest_0 rfl (lv_at hl 3 rfl) ?_
  refine lv_iconst (v := nI 0) hx hb dL_nearest_1 (by decide) ?_
  refine lv_aload_n hx hb dL_nearest_2 rfl (lv_at hl 0 rfl) ?_
  refine lv_iload_n hx hb dL_nearest_3 rfl (lv_at hl 1 rfl) ?_
  refine lv_iload_n hx hb dL_nearest_4 rfl (lv_at hl 2 rfl) ?_
  refine q_tV (en := q_IA) (wc' := [(c0, .inr (3, [.ref s0, .ref m0, .int st])), (s0, .inr (2, [.ref xa, .ref ya, .int (nI n)])), (xa, .inl (cI, 20, .inl x)), (ya, .inl (cI, 20, .inl y))]) (wsN := [(c0, .inr (3, [.ref s0, .ref m0, .int st])), (s0, .inr (2, [.ref xa, .ref ya, .int (nI n)])), (xa, .inl (cI, 20, .inl x)), (ya, .inl (cI, 20, .inl y)), (oj, .inl (cJ, 1, .inr (.inl ou)))]) (As := [.int px, .int py]) (rest := [.int (nI 0), .ref oj]) ⟨hx, hb, hml, hown, hts⟩ (t1_X3_nearest l hst9 dC dI c0 m0 s0 xa ya cI x y st n px py hf) (cwV 2 hts gL_nearest_X3_nearest rfl rfl rfl (by decide +kernel) ⟨Nat.le_of_ble_eq_true rfl, Nat.le_of_ble_eq_true rfl⟩) hE hK hP hD hS [0, 1, 2, 3] [0] 3 0 rfl rfl rfl rfl rfl rfl rfl rfl rfl hl.1 rfl (Nat.le_of_ble_eq_true rfl) ⟨Nat.le_of_ble_eq_true rfl, Nat.le_of_ble_eq_true rfl⟩ dL_nearest_5 rfl (fun H locs q9 ce hP hD hS hq9 hcv hcl => ?_)
  refine q_catchL (h := 13) (fun hpl => ?_) hq9 hcv hcl ?_
  · rw [htab]
    exact q_hit (E := q_IA) (x := ⟨0, 10, 13, 13⟩) hpl hown (by decide) (by decide) (hts (.classLink RL 13 "java/lang/IllegalArgumentException") (by decide +kernel)) (hE.2.2.1 _ q_m_IA) hcl
  refine lv_astore (lv' := [(4, .ref q9), (0, .ref c0), (1, .int px), (2, .int py), (3, .ref oj)]) hx hb dL_nearest_13 hl (by decide) rfl (fun ls hl => ?_)
  refine lv_iconst (v := 1) hx hb dL_nearest_15 (by decide) ?_
  exact W.iret (v := 1) hx hb hr (q_retm hP hS) hS.2.2 dL_nearest_16
set_option maxHeartbeats 4000000 in
set_option maxRecDepth 100000 in
theorem l2_L_nearest (l : Launch) (hst9 : l.stackTraces = false) (dC : Nat → ClassId) (dI : Nat → Nat → Nat) (c0 m0 s0 xa ya : Nat) (cI : ClassId) (oj : Nat) (cJ : ClassId) (ou : Nat → Int64) (x y : Nat → Int32) (st : Int32) (n : Nat) (px py : Int32) (l0 : n = 0) (hf : r_far px py = false) : Met l yL_nearest wsL_nearest ({ frames := 8, cells := 1, slots := 6, locals := 125 }) (q_Py (dC, dI) [.ref c0, .int px, .int py, .ref oj] [(c0, .inr (3, [.ref s0, .ref m0, .int st])), (s0, .inr (2, [.ref xa, .ref ya, .int (nI n)])), (xa, .inl (cI, 20, .inl x)), (ya, .inl (cI, 20, .inl y)), (oj, .inl (cJ, 1, .inr (.inl ou)))] [(cI, .int), (cJ, .long)]) (q_Qm (dC, dI) (q_in [(c0, .inr (3, [.ref s0, .ref m0, .int st])), (s0, .inr (2, [.ref xa, .ref ya, .int (nI n)])), (xa, .inl (cI, 20, .inl x)), (ya, .inl (cI, 20, .inl y)), (oj, .inl (cJ, 1, .inr (.inl ou)))]) (some (.int 2)) [(c0, .inr (3, [.ref s0, .ref m0, .int st])), (s0, .inr (2, [.ref xa, .ref ya, .int (nI n)])), (xa, .inl (cI, 20, .inl x)), (ya, .inl (cI, 20, .inl y)), (oj, .inl (cJ, 1, .inr (.inl ou)))]) 1 6 (q_in [(c0, .inr (3, [.ref s0, .ref m0, .int st])), (s0, .inr (2, [.ref xa, .ref ya, .int (nI n)])), (xa, .inl (cI, 20, .inl x)), (ya, .inl (cI, 20, .inl y)), (oj, .inl (cJ, 1, .inr (.inl ou)))]) := by
  refine va_MetW (cc := cL_nearest) (maxL := 5) (ret := (some .int)) (hh := [(0, 10, 13, 13), (0, 10, 17, 15)]) (by decide) rfl ?_
  intro p e s m args below meth c s₁ B hml hv
  obtain ⟨rfl, hP, hK, hD0, hE, hNc⟩ := hv
  have hx := B.exec
  have hb := B.bytes
  have hr := B.returns
  have hts := atoms_spec (ws := wsL_nearest) B.pre
  have hown : s.vm.findClass RL = some m.cls := findClass_of_methodNamed B.named
  have hlocks := B.notSynchronized
  have htab := vx_table (x := yL_nearest) B (hts (.codeWith yL_nearest cL_nearest 5 (some .int) [(0, 10, 13, 13), (0, 10, 17, 15)]) List.mem_cons_self)
  have hD := q_inD hD0
  generalize hAe : q_in [(c0, .inr (3, [.ref s0, .ref m0, .int st])), (s0, .inr (2, [.ref xa, .ref ya, .int (nI n)])), (xa, .inl (cI, 20, .inl x)), (ya, .inl (cI, 20, .inl y)), (oj, .inl (cJ, 1, .inr (.inl ou)))] = A at hD hE ⊢
  have hS : va_S A s.heap s.heap [] := va_S.rf
  have hP : va_P (dC, dI) vwCl [(c0, .inr (3, [.ref s0, .ref m0, .int st])), (s0, .inr (2, [.ref xa, .ref ya, .int (nI n)])), (xa, .inl (cI, 20, .inl x)), (ya, .inl (cI, 20, .inl y)), (oj, .inl (cJ, 1, .inr (.inl ou)))] s.heap := hP
  have hl := lv_entry ([.ref c0, .int px, .int py, .ref oj]) (n := 5) (Nat.le_of_ble_eq_true rfl)
  rw [lg_entry_eq]
  generalize (lg_sl ([.ref c0, .int px, .int py, .ref oj]) ++ List.replicate (5 - (lg_sl ([.ref c0, .int px, .int py, .ref oj])).length) Slot.unset).toArray = ls at hl ⊢
  have hl : lv_has ls 5 [(0, .ref c0), (1, .int px), (2, .int py), (3, .ref oj)] := hl
  refine lv_aload_n hx hb dL_nearest_0 rfl (lv_at hl 3 rfl) ?_
  refine lv_iconst (v := nI 0) hx hb dL_nearest_1 (by decide) ?_
  refine lv_aload_n hx hb dL_nearest_2 rfl (lv_at hl 0 rfl) ?_
  refine lv_iload_n hx hb dL_nearest_3 rfl (lv_at hl 1 rfl) ?_
  refine lv_iload_n hx hb dL_nearest_4 rfl (lv_at hl 2 rfl) ?_
  refine q_tV (en := q_IS) (wc' := [(c0, .inr (3, [.ref s0, .ref m0, .int st])), (s0, .inr (2, [.ref xa, .ref ya, .int (nI n)])), (xa, .inl (cI, 20, .inl x)), (ya, .inl (cI, 20, .inl y))]) (wsN := [(c0, .inr (3, [.ref s0, .ref m0, .int st])), (s0, .inr (2, [.ref xa, .ref ya, .int (nI n)])), (xa, .inl (cI, 20, .inl x)), (ya, .inl (cI, 20, .inl y)), (oj, .inl (cJ, 1, .inr (.inl ou)))]) (As := [.int px, .int py]) (rest := [.int (nI 0), .ref oj]) ⟨hx, hb, hml, hown, hts⟩ (t2_X3_nearest l hst9 dC dI c0 m0 s0 xa ya cI x y st n px py l0 hf) (cwV 2 hts gL_nearest_X3_nearest rfl rfl rfl (by decide +kernel) ⟨Nat.le_of_ble_eq_true rfl, Nat.le_of_ble_eq_true rfl⟩) hE hK hP hD hS [0, 1, 2, 3] [0] 3 0 rfl rfl rfl rfl rfl rfl rfl rfl rfl hl.1 rfl (Nat.le_of_ble_eq_true rfl) ⟨Nat.le_of_ble_eq_true rfl, Nat.le_of_ble_eq_true rfl⟩ dL_nearest_5 rfl (fun H locs q9 ce hP hD hS hq9 hcv hcl => ?_)
  refine q_catchL (h := 17) (fun hpl => ?_) hq9 hcv hcl ?_
  · rw [htab]
    exact q_pass (nm := q_IA) (x := ⟨0, 10, 13, 13⟩) hpl hown (by decide) (by decide) (hts (.classLink RL 13 "java/lang/IllegalArgumentException") (by decide +kernel)) hNc.1 hcl (q_hit (E := q_IS) (x := ⟨0, 10, 17, 15⟩) hpl hown (by decide) (by decide) (hts (.classLink RL 15 "java/lang/IllegalStateException") (by decide +kernel)) (hE.2.2.1 _ q_m_IS) hcl)
  refine lv_astore (lv' := [(4, .ref q9), (0, .ref c0), (1, .int px), (2, .int py), (3, .ref oj)]) hx hb dL_nearest_17 hl (by decide) rfl (fun ls hl => ?_)
  refine lv_iconst (v := 2) hx hb dL_nearest_19 (by decide) ?_
  exact W.iret (v := 2) hx hb hr (q_retm hP hS) hS.2.2 dL_nearest_20
