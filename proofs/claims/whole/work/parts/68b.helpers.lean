/-! The law's own methods, case by case -/
set_option maxHeartbeats 4000000 in
set_option maxRecDepth 100000 in
theorem lR_L_site (l : Launch) (hst9 : l.stackTraces = false) (dC : Nat → ClassId) (dI : Nat → Nat → Nat) (c0 m0 s0 xa ya : Nat) (cI : ClassId) (oj : Nat) (cJ : ClassId) (ou : Nat → Int64) (x y : Nat → Int32) (st : Int32) (n : Nat) (px py : Int32) (ln : n < 20) (hf : r_far px py = false) (hj : j_num x y n px py 0 = -1) : Met l yL_site wsL_site ({ frames := 8, cells := 1, slots := 6, locals := 125 }) (q_Py (dC, dI) [.ref c0, .int px, .int py, .ref oj] [(c0, .inr (3, [.ref s0, .ref m0, .int st])), (s0, .inr (2, [.ref xa, .ref ya, .int (nI n)])), (xa, .inl (cI, 20, .inl x)), (ya, .inl (cI, 20, .inl y)), (oj, .inl (cJ, 1, .inr (.inl ou)))] [(cI, .int), (cJ, .long)]) (q_Qm (dC, dI) (q_in [(c0, .inr (3, [.ref s0, .ref m0, .int st])), (s0, .inr (2, [.ref xa, .ref ya, .int (nI n)])), (xa, .inl (cI, 20, .inl x)), (ya, .inl (cI, 20, .inl y)), (oj, .inl (cJ, 1, .inr (.inl ou)))]) (some (.int 0)) [(c0, .inr (3, [.ref s0, .ref m0, .int 1])), (s0, .inr (2, [.ref xa, .ref ya, .int (nI (n + 1))])), (xa, .inl (cI, 20, .inl (upd x n px))), (ya, .inl (cI, 20, .inl (upd y n py))), (oj, .inl (cJ, 1, .inr (.inl (vp_updL ou 0 ((nI n).toInt64)))))]) 1 6 (q_in [(c0, .inr (3, [.ref s0, .ref m0, .int st])), (s0, .inr (2, [.ref xa, .ref ya, .int (nI n)])), (xa, .inl (cI, 20, .inl x)), (ya, .inl (cI, 20, .inl y)), (oj, .inl (cJ, 1, .inr (.inl ou)))]) := by
  refine va_MetW (cc := cL_site) (maxL := 5) (ret := (some .int)) (hh := [(0, 10, 13, 13), (0, 10, 17, 15)]) (by decide) rfl ?_
  intro p e s m args below meth c s₁ B hml hv
  obtain ⟨rfl, hP, hK, hD0, hE, hNc⟩ := hv
  have hx := B.exec
  have hb := B.bytes
  have hr := B.returns
  have hts := atoms_spec (ws := wsL_site) B.pre
  have hown : s.vm.findClass RL = some m.cls := findClass_of_methodNamed B.named
  have hlocks := B.notSynchronized
  have htab := vx_table (x := yL_site) B (hts (.codeWith yL_site cL_site 5 (some .int) [(0, 10, 13, 13), (0, 10, 17, 15)]) List.mem_cons_self)
  have hD := q_inD hD0
  generalize hAe : q_in [(c0, .inr (3, [.ref s0, .ref m0, .int st])), (s0, .inr (2, [.ref xa, .ref ya, .int (nI n)])), (xa, .inl (cI, 20, .inl x)), (ya, .inl (cI, 20, .inl y)), (oj, .inl (cJ, 1, .inr (.inl ou)))] = A at hD hE ⊢
  have hS : va_S A s.heap s.heap [] := va_S.rf
  have hP : va_P (dC, dI) vwCl [(c0, .inr (3, [.ref s0, .ref m0, .int st])), (s0, .inr (2, [.ref xa, .ref ya, .int (nI n)])), (xa, .inl (cI, 20, .inl x)), (ya, .inl (cI, 20, .inl y)), (oj, .inl (cJ, 1, .inr (.inl ou)))] s.heap := hP
  have hl := lv_entry ([.ref c0, .int px, .int py, .ref oj]) (n := 5) (Nat.le_of_ble_eq_true rfl)
  rw [lg_entry_eq]
  generalize (lg_sl ([.ref c0, .int px, .int py, .ref oj]) ++ List.replicate (5 - (lg_sl ([.ref c0, .int px, .int py, .ref oj])).length) Slot.unset).toArray = ls at hl ⊢
  have hl : lv_has ls 5 [(0, .ref c0), (1, .int px), (2, .int py), (3, .ref oj)] := hl
  refine lv_aload_n hx hb dL_site_0 rfl (lv_at hl 3 rfl) ?_
  refine lv_iconst (v := nI 0) hx hb dL_site_1 (by decide) ?_
  refine lv_aload_n hx hb dL_site_2 rfl (lv_at hl 0 rfl) ?_
  refine lv_iload_n hx hb dL_site_3 rfl (lv_at hl 1 rfl) ?_
  refine lv_iload_n hx hb dL_site_4 rfl (lv_at hl 2 rfl) ?_
  refine q_mV (wc' := [(c0, .inr (3, [.ref s0, .ref m0, .int 1])), (s0, .inr (2, [.ref xa, .ref ya, .int (nI (n + 1))])), (xa, .inl (cI, 20, .inl (upd x n px))), (ya, .inl (cI, 20, .inl (upd y n py)))]) (wsN := [(c0, .inr (3, [.ref s0, .ref m0, .int 1])), (s0, .inr (2, [.ref xa, .ref ya, .int (nI (n + 1))])), (xa, .inl (cI, 20, .inl (upd x n px))), (ya, .inl (cI, 20, .inl (upd y n py))), (oj, .inl (cJ, 1, .inr (.inl ou)))]) (As := [.int px, .int py]) (rest := [.int (nI 0), .ref oj]) ⟨hx, hb, hml, hown, hts⟩ (c_X3_site l dC dI c0 m0 s0 xa ya cI x y st n px py ln hf hj) (cwV 2 hts gL_site_X3_site rfl rfl rfl (by decide +kernel) ⟨Nat.le_of_ble_eq_true rfl, Nat.le_of_ble_eq_true rfl⟩) hK hP hD hS [0, 1, 2, 3] [0] 3 0 rfl rfl rfl rfl rfl rfl rfl rfl rfl hl.1 rfl (Nat.le_of_ble_eq_true rfl) ⟨Nat.zero_le _, Nat.zero_le _⟩ dL_site_5 rfl (fun H locs hP hD hS => ?_)
  refine W.eq (g2 := F0 m 8 ls [.int (nI n), .int (nI 0), .ref oj]) rfl ?_
  refine lv_i2l (v := (nI n).toInt64) hx hb dL_site_8 rfl ?_
  refine q_last (ws' := [(c0, .inr (3, [.ref s0, .ref m0, .int 1])), (s0, .inr (2, [.ref xa, .ref ya, .int (nI (n + 1))])), (xa, .inl (cI, 20, .inl (upd x n px))), (ya, .inl (cI, 20, .inl (upd y n py))), (oj, .inl (cJ, 1, .inr (.inl (vp_updL ou 0 ((nI n).toInt64)))))]) hx hb hK hP hD hS 4 1 rfl rfl (0) rfl (by omega) (by decide) dL_site_9 rfl (fun H locs hP hD hS => ?_)
  refine lv_goto (tgt := 21) hx hb dL_site_10 (by decide) ?_
  refine lv_iconst (v := 0) hx hb dL_site_21 (by decide) ?_
  refine W.widen (k := 1) (n := 6) (Nat.zero_le _) (Nat.zero_le _) ?_
  exact W.iret (v := 0) hx hb hr (q_retm hP hS) hS.2.2 dL_site_22
set_option maxHeartbeats 4000000 in
set_option maxRecDepth 100000 in
theorem l1_L_site (l : Launch) (hst9 : l.stackTraces = false) (dC : Nat → ClassId) (dI : Nat → Nat → Nat) (c0 m0 s0 xa ya : Nat) (cI : ClassId) (oj : Nat) (cJ : ClassId) (ou : Nat → Int64) (x y : Nat → Int32) (st : Int32) (n : Nat) (px py : Int32) (hf : r_far px py = true) : Met l yL_site wsL_site ({ frames := 8, cells := 1, slots := 6, locals := 125 }) (q_Py (dC, dI) [.ref c0, .int px, .int py, .ref oj] [(c0, .inr (3, [.ref s0, .ref m0, .int st])), (s0, .inr (2, [.ref xa, .ref ya, .int (nI n)])), (xa, .inl (cI, 20, .inl x)), (ya, .inl (cI, 20, .inl y)), (oj, .inl (cJ, 1, .inr (.inl ou)))] [(cI, .int), (cJ, .long)]) (q_Qm (dC, dI) (q_in [(c0, .inr (3, [.ref s0, .ref m0, .int st])), (s0, .inr (2, [.ref xa, .ref ya, .int (nI n)])), (xa, .inl (cI, 20, .inl x)), (ya, .inl (cI, 20, .inl y)), (oj, .inl (cJ, 1, .inr (.inl ou)))]) (some (.int 1)) [(c0, .inr (3, [.ref s0, .ref m0, .int st])), (s0, .inr (2, [.ref xa, .ref ya, .int (nI n)])), (xa, .inl (cI, 20, .inl x)), (ya, .inl (cI, 20, .inl y)), (oj, .inl (cJ, 1, .inr (.inl ou)))]) 1 6 (q_in [(c0, .inr (3, [.ref s0, .ref m0, .int st])), (s0, .inr (2, [.ref xa, .ref ya, .int (nI n)])), (xa, .inl (cI, 20, .inl x)), (ya, .inl (cI, 20, .inl y)), (oj, .inl (cJ, 1, .inr (.inl ou)))]) := by
  refine va_MetW (cc := cL_site) (maxL := 5) (ret := (some .int)) (hh := [(0, 10, 13, 13), (0, 10, 17, 15)]) (by decide) rfl ?_
  intro p e s m args below meth c s₁ B hml hv
  obtain ⟨rfl, hP, hK, hD0, hE, hNc⟩ := hv
  have hx := B.exec
  have hb := B.bytes
  have hr := B.returns
  have hts := atoms_spec (ws := wsL_site) B.pre
  have hown : s.vm.findClass RL = some m.cls := findClass_of_methodNamed B.named
  have hlocks := B.notSynchronized
  have htab := vx_table (x := yL_site) B (hts (.codeWith yL_site cL_site 5 (some .int) [(0, 10, 13, 13), (0, 10, 17, 15)]) List.mem_cons_self)
  have hD := q_inD hD0
  generalize hAe : q_in [(c0, .inr (3, [.ref s0, .ref m0, .int st])), (s0, .inr (2, [.ref xa, .ref ya, .int (nI n)])), (xa, .inl (cI, 20, .inl x)), (ya, .inl (cI, 20, .inl y)), (oj, .inl (cJ, 1, .inr (.inl ou)))] = A at hD hE ⊢
  have hS : va_S A s.heap s.heap [] := va_S.rf
  have hP : va_P (dC, dI) vwCl [(c0, .inr (3, [.ref s0, .ref m0, .int st])), (s0, .inr (2, [.ref xa, .ref ya, .int (nI n)])), (xa, .inl (cI, 20, .inl x)), (ya, .inl (cI, 20, .inl y)), (oj, .inl (cJ, 1, .inr (.inl ou)))] s.heap := hP
  have hl := lv_entry ([.ref c0, .int px, .int py, .ref oj]) (n := 5) (Nat.le_of_ble_eq_true rfl)
  rw [lg_entry_eq]
  generalize (lg_sl ([.ref c0, .int px, .int py, .ref oj]) ++ List.replicate (5 - (lg_sl ([.ref c0, .int px, .int py, .ref oj])).length) Slot.unset).toArray = ls at hl ⊢
  have hl : lv_has ls 5 [(0, .ref c0), (1, .int px), (2, .int py), (3, .ref oj)] := hl
  refine lv_aload_n hx hb dL_site_0 rfl (lv_at hl 3 rfl) ?_
  refine lv_iconst (v := nI 0) hx hb dL_site_1 (by decide) ?_
  refine lv_aload_n hx hb dL_site_2 rfl (lv_at hl 0 rfl) ?_
  refine lv_iload_n hx hb dL_site_3 rfl (lv_at hl 1 rfl) ?_
  refine lv_iload_n hx hb dL_site_4 rfl (lv_at hl 2 rfl) ?_
  refine q_tV (en := q_IA) (wc' := [(c0, .inr (3, [.ref s0, .ref m0, .int st])), (s0, .inr (2, [.ref xa, .ref ya, .int (nI n)])), (xa, .inl (cI, 20, .inl x)), (ya, .inl (cI, 20, .inl y))]) (wsN := [(c0, .inr (3, [.ref s0, .ref m0, .int st])), (s0, .inr (2, [.ref xa, .ref ya, .int (nI n)])), (xa, .inl (cI, 20, .inl x)), (ya, .inl (cI, 20, .inl y)), (oj, .inl (cJ, 1, .inr (.inl ou)))]) (As := [.int px, .int py]) (rest := [.int (nI 0), .ref oj]) ⟨hx, hb, hml, hown, hts⟩ (t1_X3_site l hst9 dC dI c0 m0 s0 xa ya cI x y st n px py hf) (cwV 2 hts gL_site_X3_site rfl rfl rfl (by decide +kernel) ⟨Nat.le_of_ble_eq_true rfl, Nat.le_of_ble_eq_true rfl⟩) hE hK hP hD hS [0, 1, 2, 3] [0] 3 0 rfl rfl rfl rfl rfl rfl rfl rfl rfl hl.1 rfl (Nat.le_of_ble_eq_true rfl) ⟨Nat.le_of_ble_eq_true rfl, Nat.le_of_ble_eq_true rfl⟩ dL_site_5 rfl (fun H locs q9 ce hP hD hS hq9 hcv hcl => ?_)
  refine q_catchL (h := 13) (fun hpl => ?_) hq9 hcv hcl ?_
  · rw [htab]
    exact q_hit (x := ⟨0, 10, 13, 13⟩) hpl hown (by decide) (by decide) (hts (.classLink RL 13 "java/lang/IllegalArgumentException") (by decide +kernel)) (hE.2.2.1 _ (by decide)) hcl
  refine lv_astore (lv' := [(4, .ref q9), (0, .ref c0), (1, .int px), (2, .int py), (3, .ref oj)]) hx hb dL_site_13 hl (by decide) rfl (fun ls hl => ?_)
  refine lv_iconst (v := 1) hx hb dL_site_15 (by decide) ?_
  exact W.iret (v := 1) hx hb hr (q_retm hP hS) hS.2.2 dL_site_16
set_option maxHeartbeats 4000000 in
set_option maxRecDepth 100000 in
theorem l2_L_site (l : Launch) (hst9 : l.stackTraces = false) (dC : Nat → ClassId) (dI : Nat → Nat → Nat) (c0 m0 s0 xa ya : Nat) (cI : ClassId) (oj : Nat) (cJ : ClassId) (ou : Nat → Int64) (x y : Nat → Int32) (st : Int32) (n : Nat) (px py : Int32) (ln : n ≤ 20) (hf : r_far px py = false) (hj : ¬ j_num x y n px py 0 = -1) : Met l yL_site wsL_site ({ frames := 8, cells := 1, slots := 6, locals := 125 }) (q_Py (dC, dI) [.ref c0, .int px, .int py, .ref oj] [(c0, .inr (3, [.ref s0, .ref m0, .int st])), (s0, .inr (2, [.ref xa, .ref ya, .int (nI n)])), (xa, .inl (cI, 20, .inl x)), (ya, .inl (cI, 20, .inl y)), (oj, .inl (cJ, 1, .inr (.inl ou)))] [(cI, .int), (cJ, .long)]) (q_Qm (dC, dI) (q_in [(c0, .inr (3, [.ref s0, .ref m0, .int st])), (s0, .inr (2, [.ref xa, .ref ya, .int (nI n)])), (xa, .inl (cI, 20, .inl x)), (ya, .inl (cI, 20, .inl y)), (oj, .inl (cJ, 1, .inr (.inl ou)))]) (some (.int 1)) [(c0, .inr (3, [.ref s0, .ref m0, .int st])), (s0, .inr (2, [.ref xa, .ref ya, .int (nI n)])), (xa, .inl (cI, 20, .inl x)), (ya, .inl (cI, 20, .inl y)), (oj, .inl (cJ, 1, .inr (.inl ou)))]) 1 6 (q_in [(c0, .inr (3, [.ref s0, .ref m0, .int st])), (s0, .inr (2, [.ref xa, .ref ya, .int (nI n)])), (xa, .inl (cI, 20, .inl x)), (ya, .inl (cI, 20, .inl y)), (oj, .inl (cJ, 1, .inr (.inl ou)))]) := by
  refine va_MetW (cc := cL_site) (maxL := 5) (ret := (some .int)) (hh := [(0, 10, 13, 13), (0, 10, 17, 15)]) (by decide) rfl ?_
  intro p e s m args below meth c s₁ B hml hv
  obtain ⟨rfl, hP, hK, hD0, hE, hNc⟩ := hv
  have hx := B.exec
  have hb := B.bytes
  have hr := B.returns
  have hts := atoms_spec (ws := wsL_site) B.pre
  have hown : s.vm.findClass RL = some m.cls := findClass_of_methodNamed B.named
  have hlocks := B.notSynchronized
  have htab := vx_table (x := yL_site) B (hts (.codeWith yL_site cL_site 5 (some .int) [(0, 10, 13, 13), (0, 10, 17, 15)]) List.mem_cons_self)
  have hD := q_inD hD0
  generalize hAe : q_in [(c0, .inr (3, [.ref s0, .ref m0, .int st])), (s0, .inr (2, [.ref xa, .ref ya, .int (nI n)])), (xa, .inl (cI, 20, .inl x)), (ya, .inl (cI, 20, .inl y)), (oj, .inl (cJ, 1, .inr (.inl ou)))] = A at hD hE ⊢
  have hS : va_S A s.heap s.heap [] := va_S.rf
  have hP : va_P (dC, dI) vwCl [(c0, .inr (3, [.ref s0, .ref m0, .int st])), (s0, .inr (2, [.ref xa, .ref ya, .int (nI n)])), (xa, .inl (cI, 20, .inl x)), (ya, .inl (cI, 20, .inl y)), (oj, .inl (cJ, 1, .inr (.inl ou)))] s.heap := hP
  have hl := lv_entry ([.ref c0, .int px, .int py, .ref oj]) (n := 5) (Nat.le_of_ble_eq_true rfl)
  rw [lg_entry_eq]
  generalize (lg_sl ([.ref c0, .int px, .int py, .ref oj]) ++ List.replicate (5 - (lg_sl ([.ref c0, .int px, .int py, .ref oj])).length) Slot.unset).toArray = ls at hl ⊢
  have hl : lv_has ls 5 [(0, .ref c0), (1, .int px), (2, .int py), (3, .ref oj)] := hl
  refine lv_aload_n hx hb dL_site_0 rfl (lv_at hl 3 rfl) ?_
  refine lv_iconst (v := nI 0) hx hb dL_site_1 (by decide) ?_
  refine lv_aload_n hx hb dL_site_2 rfl (lv_at hl 0 rfl) ?_
  refine lv_iload_n hx hb dL_site_3 rfl (lv_at hl 1 rfl) ?_
  refine lv_iload_n hx hb dL_site_4 rfl (lv_at hl 2 rfl) ?_
  refine q_tV (en := q_IA) (wc' := [(c0, .inr (3, [.ref s0, .ref m0, .int st])), (s0, .inr (2, [.ref xa, .ref ya, .int (nI n)])), (xa, .inl (cI, 20, .inl x)), (ya, .inl (cI, 20, .inl y))]) (wsN := [(c0, .inr (3, [.ref s0, .ref m0, .int st])), (s0, .inr (2, [.ref xa, .ref ya, .int (nI n)])), (xa, .inl (cI, 20, .inl x)), (ya, .inl (cI, 20, .inl y)), (oj, .inl (cJ, 1, .inr (.inl ou)))]) (As := [.int px, .int py]) (rest := [.int (nI 0), .ref oj]) ⟨hx, hb, hml, hown, hts⟩ (t2_X3_site l hst9 dC dI c0 m0 s0 xa ya cI x y st n px py ln hf hj) (cwV 2 hts gL_site_X3_site rfl rfl rfl (by decide +kernel) ⟨Nat.le_of_ble_eq_true rfl, Nat.le_of_ble_eq_true rfl⟩) hE hK hP hD hS [0, 1, 2, 3] [0] 3 0 rfl rfl rfl rfl rfl rfl rfl rfl rfl hl.1 rfl (Nat.le_of_ble_eq_true rfl) ⟨Nat.le_of_ble_eq_true rfl, Nat.le_of_ble_eq_true rfl⟩ dL_site_5 rfl (fun H locs q9 ce hP hD hS hq9 hcv hcl => ?_)
  refine q_catchL (h := 13) (fun hpl => ?_) hq9 hcv hcl ?_
  · rw [htab]
    exact q_hit (x := ⟨0, 10, 13, 13⟩) hpl hown (by decide) (by decide) (hts (.classLink RL 13 "java/lang/IllegalArgumentException") (by decide +kernel)) (hE.2.2.1 _ (by decide)) hcl
  refine lv_astore (lv' := [(4, .ref q9), (0, .ref c0), (1, .int px), (2, .int py), (3, .ref oj)]) hx hb dL_site_13 hl (by decide) rfl (fun ls hl => ?_)
  refine lv_iconst (v := 1) hx hb dL_site_15 (by decide) ?_
  exact W.iret (v := 1) hx hb hr (q_retm hP hS) hS.2.2 dL_site_16
set_option maxHeartbeats 4000000 in
set_option maxRecDepth 100000 in
theorem l3_L_site (l : Launch) (hst9 : l.stackTraces = false) (dC : Nat → ClassId) (dI : Nat → Nat → Nat) (c0 m0 s0 xa ya : Nat) (cI : ClassId) (oj : Nat) (cJ : ClassId) (ou : Nat → Int64) (x y : Nat → Int32) (st : Int32) (n : Nat) (px py : Int32) (ln : n = 20) (hf : r_far px py = false) (hj : j_num x y n px py 0 = -1) : Met l yL_site wsL_site ({ frames := 8, cells := 1, slots := 6, locals := 125 }) (q_Py (dC, dI) [.ref c0, .int px, .int py, .ref oj] [(c0, .inr (3, [.ref s0, .ref m0, .int st])), (s0, .inr (2, [.ref xa, .ref ya, .int (nI n)])), (xa, .inl (cI, 20, .inl x)), (ya, .inl (cI, 20, .inl y)), (oj, .inl (cJ, 1, .inr (.inl ou)))] [(cI, .int), (cJ, .long)]) (q_Qm (dC, dI) (q_in [(c0, .inr (3, [.ref s0, .ref m0, .int st])), (s0, .inr (2, [.ref xa, .ref ya, .int (nI n)])), (xa, .inl (cI, 20, .inl x)), (ya, .inl (cI, 20, .inl y)), (oj, .inl (cJ, 1, .inr (.inl ou)))]) (some (.int 2)) [(c0, .inr (3, [.ref s0, .ref m0, .int st])), (s0, .inr (2, [.ref xa, .ref ya, .int (nI n)])), (xa, .inl (cI, 20, .inl x)), (ya, .inl (cI, 20, .inl y)), (oj, .inl (cJ, 1, .inr (.inl ou)))]) 1 6 (q_in [(c0, .inr (3, [.ref s0, .ref m0, .int st])), (s0, .inr (2, [.ref xa, .ref ya, .int (nI n)])), (xa, .inl (cI, 20, .inl x)), (ya, .inl (cI, 20, .inl y)), (oj, .inl (cJ, 1, .inr (.inl ou)))]) := by
  refine va_MetW (cc := cL_site) (maxL := 5) (ret := (some .int)) (hh := [(0, 10, 13, 13), (0, 10, 17, 15)]) (by decide) rfl ?_
  intro p e s m args below meth c s₁ B hml hv
  obtain ⟨rfl, hP, hK, hD0, hE, hNc⟩ := hv
  have hx := B.exec
  have hb := B.bytes
  have hr := B.returns
  have hts := atoms_spec (ws := wsL_site) B.pre
  have hown : s.vm.findClass RL = some m.cls := findClass_of_methodNamed B.named
  have hlocks := B.notSynchronized
  have htab := vx_table (x := yL_site) B (hts (.codeWith yL_site cL_site 5 (some .int) [(0, 10, 13, 13), (0, 10, 17, 15)]) List.mem_cons_self)
  have hD := q_inD hD0
  generalize hAe : q_in [(c0, .inr (3, [.ref s0, .ref m0, .int st])), (s0, .inr (2, [.ref xa, .ref ya, .int (nI n)])), (xa, .inl (cI, 20, .inl x)), (ya, .inl (cI, 20, .inl y)), (oj, .inl (cJ, 1, .inr (.inl ou)))] = A at hD hE ⊢
  have hS : va_S A s.heap s.heap [] := va_S.rf
  have hP : va_P (dC, dI) vwCl [(c0, .inr (3, [.ref s0, .ref m0, .int st])), (s0, .inr (2, [.ref xa, .ref ya, .int (nI n)])), (xa, .inl (cI, 20, .inl x)), (ya, .inl (cI, 20, .inl y)), (oj, .inl (cJ, 1, .inr (.inl ou)))] s.heap := hP
  have hl := lv_entry ([.ref c0, .int px, .int py, .ref oj]) (n := 5) (Nat.le_of_ble_eq_true rfl)
  rw [lg_entry_eq]
  generalize (lg_sl ([.ref c0, .int px, .int py, .ref oj]) ++ List.replicate (5 - (lg_sl ([.ref c0, .int px, .int py, .ref oj])).length) Slot.unset).toArray = ls at hl ⊢
  have hl : lv_has ls 5 [(0, .ref c0), (1, .int px), (2, .int py), (3, .ref oj)] := hl
  refine lv_aload_n hx hb dL_site_0 rfl (lv_at hl 3 rfl) ?_
  refine lv_iconst (v := nI 0) hx hb dL_site_1 (by decide) ?_
  refine lv_aload_n hx hb dL_site_2 rfl (lv_at hl 0 rfl) ?_
  refine lv_iload_n hx hb dL_site_3 rfl (lv_at hl 1 rfl) ?_
  refine lv_iload_n hx hb dL_site_4 rfl (lv_at hl 2 rfl) ?_
  refine q_tV (en := q_IS) (wc' := [(c0, .inr (3, [.ref s0, .ref m0, .int st])), (s0, .inr (2, [.ref xa, .ref ya, .int (nI n)])), (xa, .inl (cI, 20, .inl x)), (ya, .inl (cI, 20, .inl y))]) (wsN := [(c0, .inr (3, [.ref s0, .ref m0, .int st])), (s0, .inr (2, [.ref xa, .ref ya, .int (nI n)])), (xa, .inl (cI, 20, .inl x)), (ya, .inl (cI, 20, .inl y)), (oj, .inl (cJ, 1, .inr (.inl ou)))]) (As := [.int px, .int py]) (rest := [.int (nI 0), .ref oj]) ⟨hx, hb, hml, hown, hts⟩ (t3_X3_site l hst9 dC dI c0 m0 s0 xa ya cI x y st n px py ln hf hj) (cwV 2 hts gL_site_X3_site rfl rfl rfl (by decide +kernel) ⟨Nat.le_of_ble_eq_true rfl, Nat.le_of_ble_eq_true rfl⟩) hE hK hP hD hS [0, 1, 2, 3] [0] 3 0 rfl rfl rfl rfl rfl rfl rfl rfl rfl hl.1 rfl (Nat.le_of_ble_eq_true rfl) ⟨Nat.le_of_ble_eq_true rfl, Nat.le_of_ble_eq_true rfl⟩ dL_site_5 rfl (fun H locs q9 ce hP hD hS hq9 hcv hcl => ?_)
  refine q_catchL (h := 17) (fun hpl => ?_) hq9 hcv hcl ?_
  · rw [htab]
    exact q_pass (nm := q_IA) (x := ⟨0, 10, 13, 13⟩) hpl hown (by decide) (by decide) (hts (.classLink RL 13 "java/lang/IllegalArgumentException") (by decide +kernel)) hNc.1 hcl (q_hit (x := ⟨0, 10, 17, 15⟩) hpl hown (by decide) (by decide) (hts (.classLink RL 15 "java/lang/IllegalStateException") (by decide +kernel)) (hE.2.2.1 _ (by decide)) hcl)
  refine lv_astore (lv' := [(4, .ref q9), (0, .ref c0), (1, .int px), (2, .int py), (3, .ref oj)]) hx hb dL_site_17 hl (by decide) rfl (fun ls hl => ?_)
  refine lv_iconst (v := 2) hx hb dL_site_19 (by decide) ?_
  exact W.iret (v := 2) hx hb hr (q_retm hP hS) hS.2.2 dL_site_20
set_option maxHeartbeats 4000000 in
set_option maxRecDepth 100000 in
theorem lR_L_remove (l : Launch) (hst9 : l.stackTraces = false) (dC : Nat → ClassId) (dI : Nat → Nat → Nat) (c0 m0 s0 xa ya : Nat) (cI : ClassId) (x y : Nat → Int32) (st : Int32) (n : Nat) (k : Nat) (lk : k < n) (ln : n ≤ 20) (R : (Nat → Int32) × (Nat → Int32)) (hR : j_drop n x y (k + 1) = R) : Met l yL_remove wsL_remove ({ frames := 8, cells := 1, slots := 6, locals := 124 }) (q_Py (dC, dI) [.ref c0, .int (nI k)] [(c0, .inr (3, [.ref s0, .ref m0, .int st])), (s0, .inr (2, [.ref xa, .ref ya, .int (nI n)])), (xa, .inl (cI, 20, .inl x)), (ya, .inl (cI, 20, .inl y))] [(cI, .int)]) (q_Qm (dC, dI) (q_in [(c0, .inr (3, [.ref s0, .ref m0, .int st])), (s0, .inr (2, [.ref xa, .ref ya, .int (nI n)])), (xa, .inl (cI, 20, .inl x)), (ya, .inl (cI, 20, .inl y))]) (some (.int 0)) [(c0, .inr (3, [.ref s0, .ref m0, .int 1])), (s0, .inr (2, [.ref xa, .ref ya, .int (nI (n - 1))])), (xa, .inl (cI, 20, .inl R.1)), (ya, .inl (cI, 20, .inl R.2))]) 1 6 (q_in [(c0, .inr (3, [.ref s0, .ref m0, .int st])), (s0, .inr (2, [.ref xa, .ref ya, .int (nI n)])), (xa, .inl (cI, 20, .inl x)), (ya, .inl (cI, 20, .inl y))]) := by
  refine va_MetW (cc := cL_remove) (maxL := 3) (ret := (some .int)) (hh := [(0, 5, 8, 13)]) (by decide) rfl ?_
  intro p e s m args below meth c s₁ B hml hv
  obtain ⟨rfl, hP, hK, hD0, hE, hNc⟩ := hv
  have hx := B.exec
  have hb := B.bytes
  have hr := B.returns
  have hts := atoms_spec (ws := wsL_remove) B.pre
  have hown : s.vm.findClass RL = some m.cls := findClass_of_methodNamed B.named
  have hlocks := B.notSynchronized
  have htab := vx_table (x := yL_remove) B (hts (.codeWith yL_remove cL_remove 3 (some .int) [(0, 5, 8, 13)]) List.mem_cons_self)
  have hD := q_inD hD0
  generalize hAe : q_in [(c0, .inr (3, [.ref s0, .ref m0, .int st])), (s0, .inr (2, [.ref xa, .ref ya, .int (nI n)])), (xa, .inl (cI, 20, .inl x)), (ya, .inl (cI, 20, .inl y))] = A at hD hE ⊢
  have hS : va_S A s.heap s.heap [] := va_S.rf
  have hP : va_P (dC, dI) vwCl [(c0, .inr (3, [.ref s0, .ref m0, .int st])), (s0, .inr (2, [.ref xa, .ref ya, .int (nI n)])), (xa, .inl (cI, 20, .inl x)), (ya, .inl (cI, 20, .inl y))] s.heap := hP
  have hl := lv_entry ([.ref c0, .int (nI k)]) (n := 3) (Nat.le_of_ble_eq_true rfl)
  rw [lg_entry_eq]
  generalize (lg_sl ([.ref c0, .int (nI k)]) ++ List.replicate (3 - (lg_sl ([.ref c0, .int (nI k)])).length) Slot.unset).toArray = ls at hl ⊢
  have hl : lv_has ls 3 [(0, .ref c0), (1, .int (nI k))] := hl
  refine lv_aload_n hx hb dL_remove_0 rfl (lv_at hl 0 rfl) ?_
  refine lv_iload_n hx hb dL_remove_1 rfl (lv_at hl 1 rfl) ?_
  obtain ⟨r1, hr1⟩ : ∃ r : (Nat → Int32) × (Nat → Int32), j_drop n x y (k + 1) = r := ⟨_, rfl⟩
  refine q_mV (wc' := [(c0, .inr (3, [.ref s0, .ref m0, .int 1])), (s0, .inr (2, [.ref xa, .ref ya, .int (nI (n - 1))])), (xa, .inl (cI, 20, .inl r1.1)), (ya, .inl (cI, 20, .inl r1.2))]) (wsN := [(c0, .inr (3, [.ref s0, .ref m0, .int 1])), (s0, .inr (2, [.ref xa, .ref ya, .int (nI (n - 1))])), (xa, .inl (cI, 20, .inl r1.1)), (ya, .inl (cI, 20, .inl r1.2))]) (As := [.int (nI k)]) (rest := []) ⟨hx, hb, hml, hown, hts⟩ (c_X3_remove l dC dI c0 m0 s0 xa ya cI x y st n k lk ln r1 hr1) (cwV 1 hts gL_remove_X3_remove rfl rfl rfl (by decide +kernel) ⟨Nat.le_of_ble_eq_true rfl, Nat.le_of_ble_eq_true rfl⟩) hK hP hD hS [0, 1, 2, 3] [0] 3 0 rfl rfl rfl rfl rfl rfl rfl rfl rfl hl.1 rfl (Nat.le_of_ble_eq_true rfl) ⟨Nat.zero_le _, Nat.zero_le _⟩ dL_remove_2 rfl (fun H locs hP hD hS => ?_)
  refine W.eq (g2 := F0 m 5 ls []) rfl ?_
  rw [hr1] at hR
  subst hR
  refine lv_goto (tgt := 11) hx hb dL_remove_5 (by decide) ?_
  refine lv_iconst (v := 0) hx hb dL_remove_11 (by decide) ?_
  refine W.widen (k := 1) (n := 6) (Nat.zero_le _) (Nat.zero_le _) ?_
  exact W.iret (v := 0) hx hb hr (q_retm hP hS) hS.2.2 dL_remove_12
set_option maxHeartbeats 4000000 in
set_option maxRecDepth 100000 in
theorem l1_L_remove (l : Launch) (hst9 : l.stackTraces = false) (dC : Nat → ClassId) (dI : Nat → Nat → Nat) (c0 m0 s0 xa ya : Nat) (cI : ClassId) (x y : Nat → Int32) (st : Int32) (n : Nat) (w : Int32) (hf : r_out w (nI n) = true) : Met l yL_remove wsL_remove ({ frames := 8, cells := 1, slots := 6, locals := 124 }) (q_Py (dC, dI) [.ref c0, .int w] [(c0, .inr (3, [.ref s0, .ref m0, .int st])), (s0, .inr (2, [.ref xa, .ref ya, .int (nI n)])), (xa, .inl (cI, 20, .inl x)), (ya, .inl (cI, 20, .inl y))] [(cI, .int)]) (q_Qm (dC, dI) (q_in [(c0, .inr (3, [.ref s0, .ref m0, .int st])), (s0, .inr (2, [.ref xa, .ref ya, .int (nI n)])), (xa, .inl (cI, 20, .inl x)), (ya, .inl (cI, 20, .inl y))]) (some (.int 1)) [(c0, .inr (3, [.ref s0, .ref m0, .int st])), (s0, .inr (2, [.ref xa, .ref ya, .int (nI n)])), (xa, .inl (cI, 20, .inl x)), (ya, .inl (cI, 20, .inl y))]) 1 6 (q_in [(c0, .inr (3, [.ref s0, .ref m0, .int st])), (s0, .inr (2, [.ref xa, .ref ya, .int (nI n)])), (xa, .inl (cI, 20, .inl x)), (ya, .inl (cI, 20, .inl y))]) := by
  refine va_MetW (cc := cL_remove) (maxL := 3) (ret := (some .int)) (hh := [(0, 5, 8, 13)]) (by decide) rfl ?_
  intro p e s m args below meth c s₁ B hml hv
  obtain ⟨rfl, hP, hK, hD0, hE, hNc⟩ := hv
  have hx := B.exec
  have hb := B.bytes
  have hr := B.returns
  have hts := atoms_spec (ws := wsL_remove) B.pre
  have hown : s.vm.findClass RL = some m.cls := findClass_of_methodNamed B.named
  have hlocks := B.notSynchronized
  have htab := vx_table (x := yL_remove) B (hts (.codeWith yL_remove cL_remove 3 (some .int) [(0, 5, 8, 13)]) List.mem_cons_self)
  have hD := q_inD hD0
  generalize hAe : q_in [(c0, .inr (3, [.ref s0, .ref m0, .int st])), (s0, .inr (2, [.ref xa, .ref ya, .int (nI n)])), (xa, .inl (cI, 20, .inl x)), (ya, .inl (cI, 20, .inl y))] = A at hD hE ⊢
  have hS : va_S A s.heap s.heap [] := va_S.rf
  have hP : va_P (dC, dI) vwCl [(c0, .inr (3, [.ref s0, .ref m0, .int st])), (s0, .inr (2, [.ref xa, .ref ya, .int (nI n)])), (xa, .inl (cI, 20, .inl x)), (ya, .inl (cI, 20, .inl y))] s.heap := hP
  have hl := lv_entry ([.ref c0, .int w]) (n := 3) (Nat.le_of_ble_eq_true rfl)
  rw [lg_entry_eq]
  generalize (lg_sl ([.ref c0, .int w]) ++ List.replicate (3 - (lg_sl ([.ref c0, .int w])).length) Slot.unset).toArray = ls at hl ⊢
  have hl : lv_has ls 3 [(0, .ref c0), (1, .int w)] := hl
  refine lv_aload_n hx hb dL_remove_0 rfl (lv_at hl 0 rfl) ?_
  refine lv_iload_n hx hb dL_remove_1 rfl (lv_at hl 1 rfl) ?_
  refine q_tV (en := q_IA) (wc' := [(c0, .inr (3, [.ref s0, .ref m0, .int st])), (s0, .inr (2, [.ref xa, .ref ya, .int (nI n)])), (xa, .inl (cI, 20, .inl x)), (ya, .inl (cI, 20, .inl y))]) (wsN := [(c0, .inr (3, [.ref s0, .ref m0, .int st])), (s0, .inr (2, [.ref xa, .ref ya, .int (nI n)])), (xa, .inl (cI, 20, .inl x)), (ya, .inl (cI, 20, .inl y))]) (As := [.int w]) (rest := []) ⟨hx, hb, hml, hown, hts⟩ (t1_X3_remove l hst9 dC dI c0 m0 s0 xa ya cI x y st n w hf) (cwV 1 hts gL_remove_X3_remove rfl rfl rfl (by decide +kernel) ⟨Nat.le_of_ble_eq_true rfl, Nat.le_of_ble_eq_true rfl⟩) hE hK hP hD hS [0, 1, 2, 3] [0] 3 0 rfl rfl rfl rfl rfl rfl rfl rfl rfl hl.1 rfl (Nat.le_of_ble_eq_true rfl) ⟨Nat.le_of_ble_eq_true rfl, Nat.le_of_ble_eq_true rfl⟩ dL_remove_2 rfl (fun H locs q9 ce hP hD hS hq9 hcv hcl => ?_)
  refine q_catchL (h := 8) (fun hpl => ?_) hq9 hcv hcl ?_
  · rw [htab]
    exact q_hit (x := ⟨0, 5, 8, 13⟩) hpl hown (by decide) (by decide) (hts (.classLink RL 13 "java/lang/IllegalArgumentException") (by decide +kernel)) (hE.2.2.1 _ (by decide)) hcl
  refine lv_astore_n (lv' := [(2, .ref q9), (0, .ref c0), (1, .int w)]) hx hb dL_remove_8 rfl hl (by decide) rfl (fun ls hl => ?_)
  refine lv_iconst (v := 1) hx hb dL_remove_9 (by decide) ?_
  exact W.iret (v := 1) hx hb hr (q_retm hP hS) hS.2.2 dL_remove_10
set_option maxHeartbeats 4000000 in
set_option maxRecDepth 100000 in
theorem lR_L_move (l : Launch) (hst9 : l.stackTraces = false) (dC : Nat → ClassId) (dI : Nat → Nat → Nat) (c0 m0 s0 xa ya : Nat) (cI : ClassId) (x y : Nat → Int32) (st : Int32) (n : Nat) (k : Nat) (px py : Int32) (lk : k < n) (ln : n ≤ 20) (hf : r_far px py = false) (hj : j_num x y n px py 0 = -1 ∨ j_num x y n px py 0 = nI k) : Met l yL_move wsL_move ({ frames := 8, cells := 1, slots := 6, locals := 127 }) (q_Py (dC, dI) [.ref c0, .int (nI k), .int px, .int py] [(c0, .inr (3, [.ref s0, .ref m0, .int st])), (s0, .inr (2, [.ref xa, .ref ya, .int (nI n)])), (xa, .inl (cI, 20, .inl x)), (ya, .inl (cI, 20, .inl y))] [(cI, .int)]) (q_Qm (dC, dI) (q_in [(c0, .inr (3, [.ref s0, .ref m0, .int st])), (s0, .inr (2, [.ref xa, .ref ya, .int (nI n)])), (xa, .inl (cI, 20, .inl x)), (ya, .inl (cI, 20, .inl y))]) (some (.int 0)) [(c0, .inr (3, [.ref s0, .ref m0, .int 1])), (s0, .inr (2, [.ref xa, .ref ya, .int (nI n)])), (xa, .inl (cI, 20, .inl (upd x k px))), (ya, .inl (cI, 20, .inl (upd y k py)))]) 1 6 (q_in [(c0, .inr (3, [.ref s0, .ref m0, .int st])), (s0, .inr (2, [.ref xa, .ref ya, .int (nI n)])), (xa, .inl (cI, 20, .inl x)), (ya, .inl (cI, 20, .inl y))]) := by
  refine va_MetW (cc := cL_move) (maxL := 5) (ret := (some .int)) (hh := [(0, 7, 10, 13)]) (by decide) rfl ?_
  intro p e s m args below meth c s₁ B hml hv
  obtain ⟨rfl, hP, hK, hD0, hE, hNc⟩ := hv
  have hx := B.exec
  have hb := B.bytes
  have hr := B.returns
  have hts := atoms_spec (ws := wsL_move) B.pre
  have hown : s.vm.findClass RL = some m.cls := findClass_of_methodNamed B.named
  have hlocks := B.notSynchronized
  have htab := vx_table (x := yL_move) B (hts (.codeWith yL_move cL_move 5 (some .int) [(0, 7, 10, 13)]) List.mem_cons_self)
  have hD := q_inD hD0
  generalize hAe : q_in [(c0, .inr (3, [.ref s0, .ref m0, .int st])), (s0, .inr (2, [.ref xa, .ref ya, .int (nI n)])), (xa, .inl (cI, 20, .inl x)), (ya, .inl (cI, 20, .inl y))] = A at hD hE ⊢
  have hS : va_S A s.heap s.heap [] := va_S.rf
  have hP : va_P (dC, dI) vwCl [(c0, .inr (3, [.ref s0, .ref m0, .int st])), (s0, .inr (2, [.ref xa, .ref ya, .int (nI n)])), (xa, .inl (cI, 20, .inl x)), (ya, .inl (cI, 20, .inl y))] s.heap := hP
  have hl := lv_entry ([.ref c0, .int (nI k), .int px, .int py]) (n := 5) (Nat.le_of_ble_eq_true rfl)
  rw [lg_entry_eq]
  generalize (lg_sl ([.ref c0, .int (nI k), .int px, .int py]) ++ List.replicate (5 - (lg_sl ([.ref c0, .int (nI k), .int px, .int py])).length) Slot.unset).toArray = ls at hl ⊢
  have hl : lv_has ls 5 [(0, .ref c0), (1, .int (nI k)), (2, .int px), (3, .int py)] := hl
  refine lv_aload_n hx hb dL_move_0 rfl (lv_at hl 0 rfl) ?_
  refine lv_iload_n hx hb dL_move_1 rfl (lv_at hl 1 rfl) ?_
  refine lv_iload_n hx hb dL_move_2 rfl (lv_at hl 2 rfl) ?_
  refine lv_iload_n hx hb dL_move_3 rfl (lv_at hl 3 rfl) ?_
  refine q_mV (wc' := [(c0, .inr (3, [.ref s0, .ref m0, .int 1])), (s0, .inr (2, [.ref xa, .ref ya, .int (nI n)])), (xa, .inl (cI, 20, .inl (upd x k px))), (ya, .inl (cI, 20, .inl (upd y k py)))]) (wsN := [(c0, .inr (3, [.ref s0, .ref m0, .int 1])), (s0, .inr (2, [.ref xa, .ref ya, .int (nI n)])), (xa, .inl (cI, 20, .inl (upd x k px))), (ya, .inl (cI, 20, .inl (upd y k py)))]) (As := [.int (nI k), .int px, .int py]) (rest := []) ⟨hx, hb, hml, hown, hts⟩ (c_X3_move l dC dI c0 m0 s0 xa ya cI x y st n k px py lk ln hf hj) (cwV 3 hts gL_move_X3_move rfl rfl rfl (by decide +kernel) ⟨Nat.le_of_ble_eq_true rfl, Nat.le_of_ble_eq_true rfl⟩) hK hP hD hS [0, 1, 2, 3] [0] 3 0 rfl rfl rfl rfl rfl rfl rfl rfl rfl hl.1 rfl (Nat.le_of_ble_eq_true rfl) ⟨Nat.zero_le _, Nat.zero_le _⟩ dL_move_4 rfl (fun H locs hP hD hS => ?_)
  refine W.eq (g2 := F0 m 7 ls []) rfl ?_
  refine lv_goto (tgt := 14) hx hb dL_move_7 (by decide) ?_
  refine lv_iconst (v := 0) hx hb dL_move_14 (by decide) ?_
  refine W.widen (k := 1) (n := 6) (Nat.zero_le _) (Nat.zero_le _) ?_
  exact W.iret (v := 0) hx hb hr (q_retm hP hS) hS.2.2 dL_move_15
set_option maxHeartbeats 4000000 in
set_option maxRecDepth 100000 in
theorem l1_L_move (l : Launch) (hst9 : l.stackTraces = false) (dC : Nat → ClassId) (dI : Nat → Nat → Nat) (c0 m0 s0 xa ya : Nat) (cI : ClassId) (x y : Nat → Int32) (st : Int32) (n : Nat) (w px py : Int32) (hf : r_out w (nI n) = true) : Met l yL_move wsL_move ({ frames := 8, cells := 1, slots := 6, locals := 127 }) (q_Py (dC, dI) [.ref c0, .int w, .int px, .int py] [(c0, .inr (3, [.ref s0, .ref m0, .int st])), (s0, .inr (2, [.ref xa, .ref ya, .int (nI n)])), (xa, .inl (cI, 20, .inl x)), (ya, .inl (cI, 20, .inl y))] [(cI, .int)]) (q_Qm (dC, dI) (q_in [(c0, .inr (3, [.ref s0, .ref m0, .int st])), (s0, .inr (2, [.ref xa, .ref ya, .int (nI n)])), (xa, .inl (cI, 20, .inl x)), (ya, .inl (cI, 20, .inl y))]) (some (.int 1)) [(c0, .inr (3, [.ref s0, .ref m0, .int st])), (s0, .inr (2, [.ref xa, .ref ya, .int (nI n)])), (xa, .inl (cI, 20, .inl x)), (ya, .inl (cI, 20, .inl y))]) 1 6 (q_in [(c0, .inr (3, [.ref s0, .ref m0, .int st])), (s0, .inr (2, [.ref xa, .ref ya, .int (nI n)])), (xa, .inl (cI, 20, .inl x)), (ya, .inl (cI, 20, .inl y))]) := by
  refine va_MetW (cc := cL_move) (maxL := 5) (ret := (some .int)) (hh := [(0, 7, 10, 13)]) (by decide) rfl ?_
  intro p e s m args below meth c s₁ B hml hv
  obtain ⟨rfl, hP, hK, hD0, hE, hNc⟩ := hv
  have hx := B.exec
  have hb := B.bytes
  have hr := B.returns
  have hts := atoms_spec (ws := wsL_move) B.pre
  have hown : s.vm.findClass RL = some m.cls := findClass_of_methodNamed B.named
  have hlocks := B.notSynchronized
  have htab := vx_table (x := yL_move) B (hts (.codeWith yL_move cL_move 5 (some .int) [(0, 7, 10, 13)]) List.mem_cons_self)
  have hD := q_inD hD0
  generalize hAe : q_in [(c0, .inr (3, [.ref s0, .ref m0, .int st])), (s0, .inr (2, [.ref xa, .ref ya, .int (nI n)])), (xa, .inl (cI, 20, .inl x)), (ya, .inl (cI, 20, .inl y))] = A at hD hE ⊢
  have hS : va_S A s.heap s.heap [] := va_S.rf
  have hP : va_P (dC, dI) vwCl [(c0, .inr (3, [.ref s0, .ref m0, .int st])), (s0, .inr (2, [.ref xa, .ref ya, .int (nI n)])), (xa, .inl (cI, 20, .inl x)), (ya, .inl (cI, 20, .inl y))] s.heap := hP
  have hl := lv_entry ([.ref c0, .int w, .int px, .int py]) (n := 5) (Nat.le_of_ble_eq_true rfl)
  rw [lg_entry_eq]
  generalize (lg_sl ([.ref c0, .int w, .int px, .int py]) ++ List.replicate (5 - (lg_sl ([.ref c0, .int w, .int px, .int py])).length) Slot.unset).toArray = ls at hl ⊢
  have hl : lv_has ls 5 [(0, .ref c0), (1, .int w), (2, .int px), (3, .int py)] := hl
  refine lv_aload_n hx hb dL_move_0 rfl (lv_at hl 0 rfl) ?_
  refine lv_iload_n hx hb dL_move_1 rfl (lv_at hl 1 rfl) ?_
  refine lv_iload_n hx hb dL_move_2 rfl (lv_at hl 2 rfl) ?_
  refine lv_iload_n hx hb dL_move_3 rfl (lv_at hl 3 rfl) ?_
  refine q_tV (en := q_IA) (wc' := [(c0, .inr (3, [.ref s0, .ref m0, .int st])), (s0, .inr (2, [.ref xa, .ref ya, .int (nI n)])), (xa, .inl (cI, 20, .inl x)), (ya, .inl (cI, 20, .inl y))]) (wsN := [(c0, .inr (3, [.ref s0, .ref m0, .int st])), (s0, .inr (2, [.ref xa, .ref ya, .int (nI n)])), (xa, .inl (cI, 20, .inl x)), (ya, .inl (cI, 20, .inl y))]) (As := [.int w, .int px, .int py]) (rest := []) ⟨hx, hb, hml, hown, hts⟩ (t1_X3_move l hst9 dC dI c0 m0 s0 xa ya cI x y st n w px py hf) (cwV 3 hts gL_move_X3_move rfl rfl rfl (by decide +kernel) ⟨Nat.le_of_ble_eq_true rfl, Nat.le_of_ble_eq_true rfl⟩) hE hK hP hD hS [0, 1, 2, 3] [0] 3 0 rfl rfl rfl rfl rfl rfl rfl rfl rfl hl.1 rfl (Nat.le_of_ble_eq_true rfl) ⟨Nat.le_of_ble_eq_true rfl, Nat.le_of_ble_eq_true rfl⟩ dL_move_4 rfl (fun H locs q9 ce hP hD hS hq9 hcv hcl => ?_)
  refine q_catchL (h := 10) (fun hpl => ?_) hq9 hcv hcl ?_
  · rw [htab]
    exact q_hit (x := ⟨0, 7, 10, 13⟩) hpl hown (by decide) (by decide) (hts (.classLink RL 13 "java/lang/IllegalArgumentException") (by decide +kernel)) (hE.2.2.1 _ (by decide)) hcl
  refine lv_astore (lv' := [(4, .ref q9), (0, .ref c0), (1, .int w), (2, .int px), (3, .int py)]) hx hb dL_move_10 hl (by decide) rfl (fun ls hl => ?_)
  refine lv_iconst (v := 1) hx hb dL_move_12 (by decide) ?_
  exact W.iret (v := 1) hx hb hr (q_retm hP hS) hS.2.2 dL_move_13
set_option maxHeartbeats 4000000 in
set_option maxRecDepth 100000 in
theorem l2_L_move (l : Launch) (hst9 : l.stackTraces = false) (dC : Nat → ClassId) (dI : Nat → Nat → Nat) (c0 m0 s0 xa ya : Nat) (cI : ClassId) (x y : Nat → Int32) (st : Int32) (n : Nat) (k : Nat) (px py : Int32) (lk : k < n) (ln : n ≤ 20) (hf : r_far px py = true) : Met l yL_move wsL_move ({ frames := 8, cells := 1, slots := 6, locals := 127 }) (q_Py (dC, dI) [.ref c0, .int (nI k), .int px, .int py] [(c0, .inr (3, [.ref s0, .ref m0, .int st])), (s0, .inr (2, [.ref xa, .ref ya, .int (nI n)])), (xa, .inl (cI, 20, .inl x)), (ya, .inl (cI, 20, .inl y))] [(cI, .int)]) (q_Qm (dC, dI) (q_in [(c0, .inr (3, [.ref s0, .ref m0, .int st])), (s0, .inr (2, [.ref xa, .ref ya, .int (nI n)])), (xa, .inl (cI, 20, .inl x)), (ya, .inl (cI, 20, .inl y))]) (some (.int 1)) [(c0, .inr (3, [.ref s0, .ref m0, .int st])), (s0, .inr (2, [.ref xa, .ref ya, .int (nI n)])), (xa, .inl (cI, 20, .inl x)), (ya, .inl (cI, 20, .inl y))]) 1 6 (q_in [(c0, .inr (3, [.ref s0, .ref m0, .int st])), (s0, .inr (2, [.ref xa, .ref ya, .int (nI n)])), (xa, .inl (cI, 20, .inl x)), (ya, .inl (cI, 20, .inl y))]) := by
  refine va_MetW (cc := cL_move) (maxL := 5) (ret := (some .int)) (hh := [(0, 7, 10, 13)]) (by decide) rfl ?_
  intro p e s m args below meth c s₁ B hml hv
  obtain ⟨rfl, hP, hK, hD0, hE, hNc⟩ := hv
  have hx := B.exec
  have hb := B.bytes
  have hr := B.returns
  have hts := atoms_spec (ws := wsL_move) B.pre
  have hown : s.vm.findClass RL = some m.cls := findClass_of_methodNamed B.named
  have hlocks := B.notSynchronized
  have htab := vx_table (x := yL_move) B (hts (.codeWith yL_move cL_move 5 (some .int) [(0, 7, 10, 13)]) List.mem_cons_self)
  have hD := q_inD hD0
  generalize hAe : q_in [(c0, .inr (3, [.ref s0, .ref m0, .int st])), (s0, .inr (2, [.ref xa, .ref ya, .int (nI n)])), (xa, .inl (cI, 20, .inl x)), (ya, .inl (cI, 20, .inl y))] = A at hD hE ⊢
  have hS : va_S A s.heap s.heap [] := va_S.rf
  have hP : va_P (dC, dI) vwCl [(c0, .inr (3, [.ref s0, .ref m0, .int st])), (s0, .inr (2, [.ref xa, .ref ya, .int (nI n)])), (xa, .inl (cI, 20, .inl x)), (ya, .inl (cI, 20, .inl y))] s.heap := hP
  have hl := lv_entry ([.ref c0, .int (nI k), .int px, .int py]) (n := 5) (Nat.le_of_ble_eq_true rfl)
  rw [lg_entry_eq]
  generalize (lg_sl ([.ref c0, .int (nI k), .int px, .int py]) ++ List.replicate (5 - (lg_sl ([.ref c0, .int (nI k), .int px, .int py])).length) Slot.unset).toArray = ls at hl ⊢
  have hl : lv_has ls 5 [(0, .ref c0), (1, .int (nI k)), (2, .int px), (3, .int py)] := hl
  refine lv_aload_n hx hb dL_move_0 rfl (lv_at hl 0 rfl) ?_
  refine lv_iload_n hx hb dL_move_1 rfl (lv_at hl 1 rfl) ?_
  refine lv_iload_n hx hb dL_move_2 rfl (lv_at hl 2 rfl) ?_
  refine lv_iload_n hx hb dL_move_3 rfl (lv_at hl 3 rfl) ?_
  refine q_tV (en := q_IA) (wc' := [(c0, .inr (3, [.ref s0, .ref m0, .int st])), (s0, .inr (2, [.ref xa, .ref ya, .int (nI n)])), (xa, .inl (cI, 20, .inl x)), (ya, .inl (cI, 20, .inl y))]) (wsN := [(c0, .inr (3, [.ref s0, .ref m0, .int st])), (s0, .inr (2, [.ref xa, .ref ya, .int (nI n)])), (xa, .inl (cI, 20, .inl x)), (ya, .inl (cI, 20, .inl y))]) (As := [.int (nI k), .int px, .int py]) (rest := []) ⟨hx, hb, hml, hown, hts⟩ (t2_X3_move l hst9 dC dI c0 m0 s0 xa ya cI x y st n k px py lk ln hf) (cwV 3 hts gL_move_X3_move rfl rfl rfl (by decide +kernel) ⟨Nat.le_of_ble_eq_true rfl, Nat.le_of_ble_eq_true rfl⟩) hE hK hP hD hS [0, 1, 2, 3] [0] 3 0 rfl rfl rfl rfl rfl rfl rfl rfl rfl hl.1 rfl (Nat.le_of_ble_eq_true rfl) ⟨Nat.le_of_ble_eq_true rfl, Nat.le_of_ble_eq_true rfl⟩ dL_move_4 rfl (fun H locs q9 ce hP hD hS hq9 hcv hcl => ?_)
  refine q_catchL (h := 10) (fun hpl => ?_) hq9 hcv hcl ?_
  · rw [htab]
    exact q_hit (x := ⟨0, 7, 10, 13⟩) hpl hown (by decide) (by decide) (hts (.classLink RL 13 "java/lang/IllegalArgumentException") (by decide +kernel)) (hE.2.2.1 _ (by decide)) hcl
  refine lv_astore (lv' := [(4, .ref q9), (0, .ref c0), (1, .int (nI k)), (2, .int px), (3, .int py)]) hx hb dL_move_10 hl (by decide) rfl (fun ls hl => ?_)
  refine lv_iconst (v := 1) hx hb dL_move_12 (by decide) ?_
  exact W.iret (v := 1) hx hb hr (q_retm hP hS) hS.2.2 dL_move_13
set_option maxHeartbeats 4000000 in
set_option maxRecDepth 100000 in
theorem l3_L_move (l : Launch) (hst9 : l.stackTraces = false) (dC : Nat → ClassId) (dI : Nat → Nat → Nat) (c0 m0 s0 xa ya : Nat) (cI : ClassId) (x y : Nat → Int32) (st : Int32) (n : Nat) (k : Nat) (px py : Int32) (lk : k < n) (ln : n ≤ 20) (hf : r_far px py = false) (hj : ¬ j_num x y n px py 0 = -1) (hj2 : ¬ j_num x y n px py 0 = nI k) : Met l yL_move wsL_move ({ frames := 8, cells := 1, slots := 6, locals := 127 }) (q_Py (dC, dI) [.ref c0, .int (nI k), .int px, .int py] [(c0, .inr (3, [.ref s0, .ref m0, .int st])), (s0, .inr (2, [.ref xa, .ref ya, .int (nI n)])), (xa, .inl (cI, 20, .inl x)), (ya, .inl (cI, 20, .inl y))] [(cI, .int)]) (q_Qm (dC, dI) (q_in [(c0, .inr (3, [.ref s0, .ref m0, .int st])), (s0, .inr (2, [.ref xa, .ref ya, .int (nI n)])), (xa, .inl (cI, 20, .inl x)), (ya, .inl (cI, 20, .inl y))]) (some (.int 1)) [(c0, .inr (3, [.ref s0, .ref m0, .int st])), (s0, .inr (2, [.ref xa, .ref ya, .int (nI n)])), (xa, .inl (cI, 20, .inl x)), (ya, .inl (cI, 20, .inl y))]) 1 6 (q_in [(c0, .inr (3, [.ref s0, .ref m0, .int st])), (s0, .inr (2, [.ref xa, .ref ya, .int (nI n)])), (xa, .inl (cI, 20, .inl x)), (ya, .inl (cI, 20, .inl y))]) := by
  refine va_MetW (cc := cL_move) (maxL := 5) (ret := (some .int)) (hh := [(0, 7, 10, 13)]) (by decide) rfl ?_
  intro p e s m args below meth c s₁ B hml hv
  obtain ⟨rfl, hP, hK, hD0, hE, hNc⟩ := hv
  have hx := B.exec
  have hb := B.bytes
  have hr := B.returns
  have hts := atoms_spec (ws := wsL_move) B.pre
  have hown : s.vm.findClass RL = some m.cls := findClass_of_methodNamed B.named
  have hlocks := B.notSynchronized
  have htab := vx_table (x := yL_move) B (hts (.codeWith yL_move cL_move 5 (some .int) [(0, 7, 10, 13)]) List.mem_cons_self)
  have hD := q_inD hD0
  generalize hAe : q_in [(c0, .inr (3, [.ref s0, .ref m0, .int st])), (s0, .inr (2, [.ref xa, .ref ya, .int (nI n)])), (xa, .inl (cI, 20, .inl x)), (ya, .inl (cI, 20, .inl y))] = A at hD hE ⊢
  have hS : va_S A s.heap s.heap [] := va_S.rf
  have hP : va_P (dC, dI) vwCl [(c0, .inr (3, [.ref s0, .ref m0, .int st])), (s0, .inr (2, [.ref xa, .ref ya, .int (nI n)])), (xa, .inl (cI, 20, .inl x)), (ya, .inl (cI, 20, .inl y))] s.heap := hP
  have hl := lv_entry ([.ref c0, .int (nI k), .int px, .int py]) (n := 5) (Nat.le_of_ble_eq_true rfl)
  rw [lg_entry_eq]
  generalize (lg_sl ([.ref c0, .int (nI k), .int px, .int py]) ++ List.replicate (5 - (lg_sl ([.ref c0, .int (nI k), .int px, .int py])).length) Slot.unset).toArray = ls at hl ⊢
  have hl : lv_has ls 5 [(0, .ref c0), (1, .int (nI k)), (2, .int px), (3, .int py)] := hl
  refine lv_aload_n hx hb dL_move_0 rfl (lv_at hl 0 rfl) ?_
  refine lv_iload_n hx hb dL_move_1 rfl (lv_at hl 1 rfl) ?_
  refine lv_iload_n hx hb dL_move_2 rfl (lv_at hl 2 rfl) ?_
  refine lv_iload_n hx hb dL_move_3 rfl (lv_at hl 3 rfl) ?_
  refine q_tV (en := q_IA) (wc' := [(c0, .inr (3, [.ref s0, .ref m0, .int st])), (s0, .inr (2, [.ref xa, .ref ya, .int (nI n)])), (xa, .inl (cI, 20, .inl x)), (ya, .inl (cI, 20, .inl y))]) (wsN := [(c0, .inr (3, [.ref s0, .ref m0, .int st])), (s0, .inr (2, [.ref xa, .ref ya, .int (nI n)])), (xa, .inl (cI, 20, .inl x)), (ya, .inl (cI, 20, .inl y))]) (As := [.int (nI k), .int px, .int py]) (rest := []) ⟨hx, hb, hml, hown, hts⟩ (t3_X3_move l hst9 dC dI c0 m0 s0 xa ya cI x y st n k px py lk ln hf hj hj2) (cwV 3 hts gL_move_X3_move rfl rfl rfl (by decide +kernel) ⟨Nat.le_of_ble_eq_true rfl, Nat.le_of_ble_eq_true rfl⟩) hE hK hP hD hS [0, 1, 2, 3] [0] 3 0 rfl rfl rfl rfl rfl rfl rfl rfl rfl hl.1 rfl (Nat.le_of_ble_eq_true rfl) ⟨Nat.le_of_ble_eq_true rfl, Nat.le_of_ble_eq_true rfl⟩ dL_move_4 rfl (fun H locs q9 ce hP hD hS hq9 hcv hcl => ?_)
  refine q_catchL (h := 10) (fun hpl => ?_) hq9 hcv hcl ?_
  · rw [htab]
    exact q_hit (x := ⟨0, 7, 10, 13⟩) hpl hown (by decide) (by decide) (hts (.classLink RL 13 "java/lang/IllegalArgumentException") (by decide +kernel)) (hE.2.2.1 _ (by decide)) hcl
  refine lv_astore (lv' := [(4, .ref q9), (0, .ref c0), (1, .int (nI k)), (2, .int px), (3, .int py)]) hx hb dL_move_10 hl (by decide) rfl (fun ls hl => ?_)
  refine lv_iconst (v := 1) hx hb dL_move_12 (by decide) ?_
  exact W.iret (v := 1) hx hb hr (q_retm hP hS) hS.2.2 dL_move_13
set_option maxHeartbeats 4000000 in
set_option maxRecDepth 100000 in
theorem lR_L_where (l : Launch) (hst9 : l.stackTraces = false) (dC : Nat → ClassId) (dI : Nat → Nat → Nat) (c0 m0 s0 xa ya : Nat) (cI : ClassId) (oj : Nat) (cJ : ClassId) (ou : Nat → Int64) (x y : Nat → Int32) (st : Int32) (n : Nat) (k : Nat) (t : Int32) (lk : k < n) (ln : n ≤ 20) (ht : t = 0 ∨ t = 1) : Met l yL_where wsL_where ({ frames := 8, cells := 1, slots := 6, locals := 125 }) (q_Py (dC, dI) [.ref c0, .int (nI k), .int t, .ref oj] [(c0, .inr (3, [.ref s0, .ref m0, .int st])), (s0, .inr (2, [.ref xa, .ref ya, .int (nI n)])), (xa, .inl (cI, 20, .inl x)), (ya, .inl (cI, 20, .inl y)), (oj, .inl (cJ, 1, .inr (.inl ou)))] [(cI, .int), (cJ, .long)]) (q_Qm (dC, dI) (q_in [(c0, .inr (3, [.ref s0, .ref m0, .int st])), (s0, .inr (2, [.ref xa, .ref ya, .int (nI n)])), (xa, .inl (cI, 20, .inl x)), (ya, .inl (cI, 20, .inl y)), (oj, .inl (cJ, 1, .inr (.inl ou)))]) (some (.int 0)) [(c0, .inr (3, [.ref s0, .ref m0, .int st])), (s0, .inr (2, [.ref xa, .ref ya, .int (nI n)])), (xa, .inl (cI, 20, .inl x)), (ya, .inl (cI, 20, .inl y)), (oj, .inl (cJ, 1, .inr (.inl (vp_updL ou 0 ((if t = 0 then x k else y k).toInt64)))))]) 1 6 (q_in [(c0, .inr (3, [.ref s0, .ref m0, .int st])), (s0, .inr (2, [.ref xa, .ref ya, .int (nI n)])), (xa, .inl (cI, 20, .inl x)), (ya, .inl (cI, 20, .inl y)), (oj, .inl (cJ, 1, .inr (.inl ou)))]) := by
  refine va_MetW (cc := cL_where) (maxL := 5) (ret := (some .int)) (hh := [(0, 10, 13, 13)]) (by decide) rfl ?_
  intro p e s m args below meth c s₁ B hml hv
  obtain ⟨rfl, hP, hK, hD0, hE, hNc⟩ := hv
  have hx := B.exec
  have hb := B.bytes
  have hr := B.returns
  have hts := atoms_spec (ws := wsL_where) B.pre
  have hown : s.vm.findClass RL = some m.cls := findClass_of_methodNamed B.named
  have hlocks := B.notSynchronized
  have htab := vx_table (x := yL_where) B (hts (.codeWith yL_where cL_where 5 (some .int) [(0, 10, 13, 13)]) List.mem_cons_self)
  have hD := q_inD hD0
  generalize hAe : q_in [(c0, .inr (3, [.ref s0, .ref m0, .int st])), (s0, .inr (2, [.ref xa, .ref ya, .int (nI n)])), (xa, .inl (cI, 20, .inl x)), (ya, .inl (cI, 20, .inl y)), (oj, .inl (cJ, 1, .inr (.inl ou)))] = A at hD hE ⊢
  have hS : va_S A s.heap s.heap [] := va_S.rf
  have hP : va_P (dC, dI) vwCl [(c0, .inr (3, [.ref s0, .ref m0, .int st])), (s0, .inr (2, [.ref xa, .ref ya, .int (nI n)])), (xa, .inl (cI, 20, .inl x)), (ya, .inl (cI, 20, .inl y)), (oj, .inl (cJ, 1, .inr (.inl ou)))] s.heap := hP
  have hl := lv_entry ([.ref c0, .int (nI k), .int t, .ref oj]) (n := 5) (Nat.le_of_ble_eq_true rfl)
  rw [lg_entry_eq]
  generalize (lg_sl ([.ref c0, .int (nI k), .int t, .ref oj]) ++ List.replicate (5 - (lg_sl ([.ref c0, .int (nI k), .int t, .ref oj])).length) Slot.unset).toArray = ls at hl ⊢
  have hl : lv_has ls 5 [(0, .ref c0), (1, .int (nI k)), (2, .int t), (3, .ref oj)] := hl
  refine lv_aload_n hx hb dL_where_0 rfl (lv_at hl 3 rfl) ?_
  refine lv_iconst (v := nI 0) hx hb dL_where_1 (by decide) ?_
  refine lv_aload_n hx hb dL_where_2 rfl (lv_at hl 0 rfl) ?_
  refine lv_iload_n hx hb dL_where_3 rfl (lv_at hl 1 rfl) ?_
  refine lv_iload_n hx hb dL_where_4 rfl (lv_at hl 2 rfl) ?_
  refine q_mV (wc' := [(c0, .inr (3, [.ref s0, .ref m0, .int st])), (s0, .inr (2, [.ref xa, .ref ya, .int (nI n)])), (xa, .inl (cI, 20, .inl x)), (ya, .inl (cI, 20, .inl y))]) (wsN := [(c0, .inr (3, [.ref s0, .ref m0, .int st])), (s0, .inr (2, [.ref xa, .ref ya, .int (nI n)])), (xa, .inl (cI, 20, .inl x)), (ya, .inl (cI, 20, .inl y)), (oj, .inl (cJ, 1, .inr (.inl ou)))]) (As := [.int (nI k), .int t]) (rest := [.int (nI 0), .ref oj]) ⟨hx, hb, hml, hown, hts⟩ (c_X3_where l dC dI c0 m0 s0 xa ya cI x y st n k t lk ln ht) (cwV 2 hts gL_where_X3_where rfl rfl rfl (by decide +kernel) ⟨Nat.le_of_ble_eq_true rfl, Nat.le_of_ble_eq_true rfl⟩) hK hP hD hS [0, 1, 2, 3] [0] 3 0 rfl rfl rfl rfl rfl rfl rfl rfl rfl hl.1 rfl (Nat.le_of_ble_eq_true rfl) ⟨Nat.zero_le _, Nat.zero_le _⟩ dL_where_5 rfl (fun H locs hP hD hS => ?_)
  refine W.eq (g2 := F0 m 8 ls [.int (if t = 0 then x k else y k), .int (nI 0), .ref oj]) rfl ?_
  refine lv_i2l (v := (if t = 0 then x k else y k).toInt64) hx hb dL_where_8 rfl ?_
  refine q_last (ws' := [(c0, .inr (3, [.ref s0, .ref m0, .int st])), (s0, .inr (2, [.ref xa, .ref ya, .int (nI n)])), (xa, .inl (cI, 20, .inl x)), (ya, .inl (cI, 20, .inl y)), (oj, .inl (cJ, 1, .inr (.inl (vp_updL ou 0 ((if t = 0 then x k else y k).toInt64)))))]) hx hb hK hP hD hS 4 1 rfl rfl (0) rfl (by omega) (by decide) dL_where_9 rfl (fun H locs hP hD hS => ?_)
  refine lv_goto (tgt := 17) hx hb dL_where_10 (by decide) ?_
  refine lv_iconst (v := 0) hx hb dL_where_17 (by decide) ?_
  refine W.widen (k := 1) (n := 6) (Nat.zero_le _) (Nat.zero_le _) ?_
  exact W.iret (v := 0) hx hb hr (q_retm hP hS) hS.2.2 dL_where_18
set_option maxHeartbeats 4000000 in
set_option maxRecDepth 100000 in
theorem l1_L_where (l : Launch) (hst9 : l.stackTraces = false) (dC : Nat → ClassId) (dI : Nat → Nat → Nat) (c0 m0 s0 xa ya : Nat) (cI : ClassId) (oj : Nat) (cJ : ClassId) (ou : Nat → Int64) (x y : Nat → Int32) (st : Int32) (n : Nat) (w t : Int32) (hf : r_out w (nI n) = true) : Met l yL_where wsL_where ({ frames := 8, cells := 1, slots := 6, locals := 125 }) (q_Py (dC, dI) [.ref c0, .int w, .int t, .ref oj] [(c0, .inr (3, [.ref s0, .ref m0, .int st])), (s0, .inr (2, [.ref xa, .ref ya, .int (nI n)])), (xa, .inl (cI, 20, .inl x)), (ya, .inl (cI, 20, .inl y)), (oj, .inl (cJ, 1, .inr (.inl ou)))] [(cI, .int), (cJ, .long)]) (q_Qm (dC, dI) (q_in [(c0, .inr (3, [.ref s0, .ref m0, .int st])), (s0, .inr (2, [.ref xa, .ref ya, .int (nI n)])), (xa, .inl (cI, 20, .inl x)), (ya, .inl (cI, 20, .inl y)), (oj, .inl (cJ, 1, .inr (.inl ou)))]) (some (.int 1)) [(c0, .inr (3, [.ref s0, .ref m0, .int st])), (s0, .inr (2, [.ref xa, .ref ya, .int (nI n)])), (xa, .inl (cI, 20, .inl x)), (ya, .inl (cI, 20, .inl y)), (oj, .inl (cJ, 1, .inr (.inl ou)))]) 1 6 (q_in [(c0, .inr (3, [.ref s0, .ref m0, .int st])), (s0, .inr (2, [.ref xa, .ref ya, .int (nI n)])), (xa, .inl (cI, 20, .inl x)), (ya, .inl (cI, 20, .inl y)), (oj, .inl (cJ, 1, .inr (.inl ou)))]) := by
  refine va_MetW (cc := cL_where) (maxL := 5) (ret := (some .int)) (hh := [(0, 10, 13, 13)]) (by decide) rfl ?_
  intro p e s m args below meth c s₁ B hml hv
  obtain ⟨rfl, hP, hK, hD0, hE, hNc⟩ := hv
  have hx := B.exec
  have hb := B.bytes
  have hr := B.returns
  have hts := atoms_spec (ws := wsL_where) B.pre
  have hown : s.vm.findClass RL = some m.cls := findClass_of_methodNamed B.named
  have hlocks := B.notSynchronized
  have htab := vx_table (x := yL_where) B (hts (.codeWith yL_where cL_where 5 (some .int) [(0, 10, 13, 13)]) List.mem_cons_self)
  have hD := q_inD hD0
  generalize hAe : q_in [(c0, .inr (3, [.ref s0, .ref m0, .int st])), (s0, .inr (2, [.ref xa, .ref ya, .int (nI n)])), (xa, .inl (cI, 20, .inl x)), (ya, .inl (cI, 20, .inl y)), (oj, .inl (cJ, 1, .inr (.inl ou)))] = A at hD hE ⊢
  have hS : va_S A s.heap s.heap [] := va_S.rf
  have hP : va_P (dC, dI) vwCl [(c0, .inr (3, [.ref s0, .ref m0, .int st])), (s0, .inr (2, [.ref xa, .ref ya, .int (nI n)])), (xa, .inl (cI, 20, .inl x)), (ya, .inl (cI, 20, .inl y)), (oj, .inl (cJ, 1, .inr (.inl ou)))] s.heap := hP
  have hl := lv_entry ([.ref c0, .int w, .int t, .ref oj]) (n := 5) (Nat.le_of_ble_eq_true rfl)
  rw [lg_entry_eq]
  generalize (lg_sl ([.ref c0, .int w, .int t, .ref oj]) ++ List.replicate (5 - (lg_sl ([.ref c0, .int w, .int t, .ref oj])).length) Slot.unset).toArray = ls at hl ⊢
  have hl : lv_has ls 5 [(0, .ref c0), (1, .int w), (2, .int t), (3, .ref oj)] := hl
  refine lv_aload_n hx hb dL_where_0 rfl (lv_at hl 3 rfl) ?_
  refine lv_iconst (v := nI 0) hx hb dL_where_1 (by decide) ?_
  refine lv_aload_n hx hb dL_where_2 rfl (lv_at hl 0 rfl) ?_
  refine lv_iload_n hx hb dL_where_3 rfl (lv_at hl 1 rfl) ?_
  refine lv_iload_n hx hb dL_where_4 rfl (lv_at hl 2 rfl) ?_
  refine q_tV (en := q_IA) (wc' := [(c0, .inr (3, [.ref s0, .ref m0, .int st])), (s0, .inr (2, [.ref xa, .ref ya, .int (nI n)])), (xa, .inl (cI, 20, .inl x)), (ya, .inl (cI, 20, .inl y))]) (wsN := [(c0, .inr (3, [.ref s0, .ref m0, .int st])), (s0, .inr (2, [.ref xa, .ref ya, .int (nI n)])), (xa, .inl (cI, 20, .inl x)), (ya, .inl (cI, 20, .inl y)), (oj, .inl (cJ, 1, .inr (.inl ou)))]) (As := [.int w, .int t]) (rest := [.int (nI 0), .ref oj]) ⟨hx, hb, hml, hown, hts⟩ (t1_X3_where l hst9 dC dI c0 m0 s0 xa ya cI x y st n w t hf) (cwV 2 hts gL_where_X3_where rfl rfl rfl (by decide +kernel) ⟨Nat.le_of_ble_eq_true rfl, Nat.le_of_ble_eq_true rfl⟩) hE hK hP hD hS [0, 1, 2, 3] [0] 3 0 rfl rfl rfl rfl rfl rfl rfl rfl rfl hl.1 rfl (Nat.le_of_ble_eq_true rfl) ⟨Nat.le_of_ble_eq_true rfl, Nat.le_of_ble_eq_true rfl⟩ dL_where_5 rfl (fun H locs q9 ce hP hD hS hq9 hcv hcl => ?_)
  refine q_catchL (h := 13) (fun hpl => ?_) hq9 hcv hcl ?_
  · rw [htab]
    exact q_hit (x := ⟨0, 10, 13, 13⟩) hpl hown (by decide) (by decide) (hts (.classLink RL 13 "java/lang/IllegalArgumentException") (by decide +kernel)) (hE.2.2.1 _ (by decide)) hcl
  refine lv_astore (lv' := [(4, .ref q9), (0, .ref c0), (1, .int w), (2, .int t), (3, .ref oj)]) hx hb dL_where_13 hl (by decide) rfl (fun ls hl => ?_)
  refine lv_iconst (v := 1) hx hb dL_where_15 (by decide) ?_
  exact W.iret (v := 1) hx hb hr (q_retm hP hS) hS.2.2 dL_where_16
set_option maxHeartbeats 4000000 in
set_option maxRecDepth 100000 in
theorem l2_L_where (l : Launch) (hst9 : l.stackTraces = false) (dC : Nat → ClassId) (dI : Nat → Nat → Nat) (c0 m0 s0 xa ya : Nat) (cI : ClassId) (oj : Nat) (cJ : ClassId) (ou : Nat → Int64) (x y : Nat → Int32) (st : Int32) (n : Nat) (k : Nat) (t : Int32) (lk : k < n) (ln : n ≤ 20) (ht : ¬ t = 0) (ht1 : ¬ t = 1) : Met l yL_where wsL_where ({ frames := 8, cells := 1, slots := 6, locals := 125 }) (q_Py (dC, dI) [.ref c0, .int (nI k), .int t, .ref oj] [(c0, .inr (3, [.ref s0, .ref m0, .int st])), (s0, .inr (2, [.ref xa, .ref ya, .int (nI n)])), (xa, .inl (cI, 20, .inl x)), (ya, .inl (cI, 20, .inl y)), (oj, .inl (cJ, 1, .inr (.inl ou)))] [(cI, .int), (cJ, .long)]) (q_Qm (dC, dI) (q_in [(c0, .inr (3, [.ref s0, .ref m0, .int st])), (s0, .inr (2, [.ref xa, .ref ya, .int (nI n)])), (xa, .inl (cI, 20, .inl x)), (ya, .inl (cI, 20, .inl y)), (oj, .inl (cJ, 1, .inr (.inl ou)))]) (some (.int 1)) [(c0, .inr (3, [.ref s0, .ref m0, .int st])), (s0, .inr (2, [.ref xa, .ref ya, .int (nI n)])), (xa, .inl (cI, 20, .inl x)), (ya, .inl (cI, 20, .inl y)), (oj, .inl (cJ, 1, .inr (.inl ou)))]) 1 6 (q_in [(c0, .inr (3, [.ref s0, .ref m0, .int st])), (s0, .inr (2, [.ref xa, .ref ya, .int (nI n)])), (xa, .inl (cI, 20, .inl x)), (ya, .inl (cI, 20, .inl y)), (oj, .inl (cJ, 1, .inr (.inl ou)))]) := by
  refine va_MetW (cc := cL_where) (maxL := 5) (ret := (some .int)) (hh := [(0, 10, 13, 13)]) (by decide) rfl ?_
  intro p e s m args below meth c s₁ B hml hv
  obtain ⟨rfl, hP, hK, hD0, hE, hNc⟩ := hv
  have hx := B.exec
  have hb := B.bytes
  have hr := B.returns
  have hts := atoms_spec (ws := wsL_where) B.pre
  have hown : s.vm.findClass RL = some m.cls := findClass_of_methodNamed B.named
  have hlocks := B.notSynchronized
  have htab := vx_table (x := yL_where) B (hts (.codeWith yL_where cL_where 5 (some .int) [(0, 10, 13, 13)]) List.mem_cons_self)
  have hD := q_inD hD0
  generalize hAe : q_in [(c0, .inr (3, [.ref s0, .ref m0, .int st])), (s0, .inr (2, [.ref xa, .ref ya, .int (nI n)])), (xa, .inl (cI, 20, .inl x)), (ya, .inl (cI, 20, .inl y)), (oj, .inl (cJ, 1, .inr (.inl ou)))] = A at hD hE ⊢
  have hS : va_S A s.heap s.heap [] := va_S.rf
  have hP : va_P (dC, dI) vwCl [(c0, .inr (3, [.ref s0, .ref m0, .int st])), (s0, .inr (2, [.ref xa, .ref ya, .int (nI n)])), (xa, .inl (cI, 20, .inl x)), (ya, .inl (cI, 20, .inl y)), (oj, .inl (cJ, 1, .inr (.inl ou)))] s.heap := hP
  have hl := lv_entry ([.ref c0, .int (nI k), .int t, .ref oj]) (n := 5) (Nat.le_of_ble_eq_true rfl)
  rw [lg_entry_eq]
  generalize (lg_sl ([.ref c0, .int (nI k), .int t, .ref oj]) ++ List.replicate (5 - (lg_sl ([.ref c0, .int (nI k), .int t, .ref oj])).length) Slot.unset).toArray = ls at hl ⊢
  have hl : lv_has ls 5 [(0, .ref c0), (1, .int (nI k)), (2, .int t), (3, .ref oj)] := hl
  refine lv_aload_n hx hb dL_where_0 rfl (lv_at hl 3 rfl) ?_
  refine lv_iconst (v := nI 0) hx hb dL_where_1 (by decide) ?_
  refine lv_aload_n hx hb dL_where_2 rfl (lv_at hl 0 rfl) ?_
  refine lv_iload_n hx hb dL_where_3 rfl (lv_at hl 1 rfl) ?_
  refine lv_iload_n hx hb dL_where_4 rfl (lv_at hl 2 rfl) ?_
  refine q_tV (en := q_IA) (wc' := [(c0, .inr (3, [.ref s0, .ref m0, .int st])), (s0, .inr (2, [.ref xa, .ref ya, .int (nI n)])), (xa, .inl (cI, 20, .inl x)), (ya, .inl (cI, 20, .inl y))]) (wsN := [(c0, .inr (3, [.ref s0, .ref m0, .int st])), (s0, .inr (2, [.ref xa, .ref ya, .int (nI n)])), (xa, .inl (cI, 20, .inl x)), (ya, .inl (cI, 20, .inl y)), (oj, .inl (cJ, 1, .inr (.inl ou)))]) (As := [.int (nI k), .int t]) (rest := [.int (nI 0), .ref oj]) ⟨hx, hb, hml, hown, hts⟩ (t2_X3_where l hst9 dC dI c0 m0 s0 xa ya cI x y st n k t lk ln ht ht1) (cwV 2 hts gL_where_X3_where rfl rfl rfl (by decide +kernel) ⟨Nat.le_of_ble_eq_true rfl, Nat.le_of_ble_eq_true rfl⟩) hE hK hP hD hS [0, 1, 2, 3] [0] 3 0 rfl rfl rfl rfl rfl rfl rfl rfl rfl hl.1 rfl (Nat.le_of_ble_eq_true rfl) ⟨Nat.le_of_ble_eq_true rfl, Nat.le_of_ble_eq_true rfl⟩ dL_where_5 rfl (fun H locs q9 ce hP hD hS hq9 hcv hcl => ?_)
  refine q_catchL (h := 13) (fun hpl => ?_) hq9 hcv hcl ?_
  · rw [htab]
    exact q_hit (x := ⟨0, 10, 13, 13⟩) hpl hown (by decide) (by decide) (hts (.classLink RL 13 "java/lang/IllegalArgumentException") (by decide +kernel)) (hE.2.2.1 _ (by decide)) hcl
  refine lv_astore (lv' := [(4, .ref q9), (0, .ref c0), (1, .int (nI k)), (2, .int t), (3, .ref oj)]) hx hb dL_where_13 hl (by decide) rfl (fun ls hl => ?_)
  refine lv_iconst (v := 1) hx hb dL_where_15 (by decide) ?_
  exact W.iret (v := 1) hx hb hr (q_retm hP hS) hS.2.2 dL_where_16
set_option maxHeartbeats 4000000 in
set_option maxRecDepth 100000 in
theorem lR_L_nearest (l : Launch) (hst9 : l.stackTraces = false) (dC : Nat → ClassId) (dI : Nat → Nat → Nat) (c0 m0 s0 xa ya : Nat) (cI : ClassId) (oj : Nat) (cJ : ClassId) (ou : Nat → Int64) (x y : Nat → Int32) (st : Int32) (n : Nat) (px py : Int32) (l0 : 0 < n) (ln : n ≤ 20) (hf : r_far px py = false) : Met l yL_nearest wsL_nearest ({ frames := 8, cells := 1, slots := 6, locals := 125 }) (q_Py (dC, dI) [.ref c0, .int px, .int py, .ref oj] [(c0, .inr (3, [.ref s0, .ref m0, .int st])), (s0, .inr (2, [.ref xa, .ref ya, .int (nI n)])), (xa, .inl (cI, 20, .inl x)), (ya, .inl (cI, 20, .inl y)), (oj, .inl (cJ, 1, .inr (.inl ou)))] [(cI, .int), (cJ, .long)]) (q_Qm (dC, dI) (q_in [(c0, .inr (3, [.ref s0, .ref m0, .int st])), (s0, .inr (2, [.ref xa, .ref ya, .int (nI n)])), (xa, .inl (cI, 20, .inl x)), (ya, .inl (cI, 20, .inl y)), (oj, .inl (cJ, 1, .inr (.inl ou)))]) (some (.int 0)) [(c0, .inr (3, [.ref s0, .ref m0, .int st])), (s0, .inr (2, [.ref xa, .ref ya, .int (nI n)])), (xa, .inl (cI, 20, .inl x)), (ya, .inl (cI, 20, .inl y)), (oj, .inl (cJ, 1, .inr (.inl (vp_updL ou 0 ((nI (j_near x y n px py 0 1)).toInt64)))))]) 1 6 (q_in [(c0, .inr (3, [.ref s0, .ref m0, .int st])), (s0, .inr (2, [.ref xa, .ref ya, .int (nI n)])), (xa, .inl (cI, 20, .inl x)), (ya, .inl (cI, 20, .inl y)), (oj, .inl (cJ, 1, .inr (.inl ou)))]) := by
  refine va_MetW (cc := cL_nearest) (maxL := 5) (ret := (some .int)) (hh := [(0, 10, 13, 13), (0, 10, 17, 15)]) (by decide) rfl ?_
  intro p e s m args below meth c s₁ B hml hv
  obtain ⟨rfl, hP, hK, hD0, hE, hNc⟩ := hv
  have hx := B.exec
  have hb := B.bytes
  have hr := B.returns
  have hts := atoms_spec (ws := wsL_nearest) B.pre
  have hown : s.vm.findClass RL = some m.cls := findClass_of_methodNamed B.named
  have hlocks := B.notSynchronized
  have htab := vx_table (x := yL_nearest) B (hts (.codeWith yL_nearest cL_nearest 5 (some .int) [(0, 10, 13, 13), (0, 10, 17, 15)]) List.mem_cons_self)
  have hD := q_inD hD0
  generalize hAe : q_in [(c0, .inr (3, [.ref s0, .ref m0, .int st])), (s0, .inr (2, [.ref xa, .ref ya, .int (nI n)])), (xa, .inl (cI, 20, .inl x)), (ya, .inl (cI, 20, .inl y)), (oj, .inl (cJ, 1, .inr (.inl ou)))] = A at hD hE ⊢
  have hS : va_S A s.heap s.heap [] := va_S.rf
  have hP : va_P (dC, dI) vwCl [(c0, .inr (3, [.ref s0, .ref m0, .int st])), (s0, .inr (2, [.ref xa, .ref ya, .int (nI n)])), (xa, .inl (cI, 20, .inl x)), (ya, .inl (cI, 20, .inl y)), (oj, .inl (cJ, 1, .inr (.inl ou)))] s.heap := hP
  have hl := lv_entry ([.ref c0, .int px, .int py, .ref oj]) (n := 5) (Nat.le_of_ble_eq_true rfl)
  rw [lg_entry_eq]
  generalize (lg_sl ([.ref c0, .int px, .int py, .ref oj]) ++ List.replicate (5 - (lg_sl ([.ref c0, .int px, .int py, .ref oj])).length) Slot.unset).toArray = ls at hl ⊢
  have hl : lv_has ls 5 [(0, .ref c0), (1, .int px), (2, .int py), (3, .ref oj)] := hl
  refine lv_aload_n hx hb dL_nearest_0 rfl (lv_at hl 3 rfl) ?_
  refine lv_iconst (v := nI 0) hx hb dL_nearest_1 (by decide) ?_
  refine lv_aload_n hx hb dL_nearest_2 rfl (lv_at hl 0 rfl) ?_
  refine lv_iload_n hx hb dL_nearest_3 rfl (lv_at hl 1 rfl) ?_
  refine lv_iload_n hx hb dL_nearest_4 rfl (lv_at hl 2 rfl) ?_
  refine q_mV (wc' := [(c0, .inr (3, [.ref s0, .ref m0, .int st])), (s0, .inr (2, [.ref xa, .ref ya, .int (nI n)])), (xa, .inl (cI, 20, .inl x)), (ya, .inl (cI, 20, .inl y))]) (wsN := [(c0, .inr (3, [.ref s0, .ref m0, .int st])), (s0, .inr (2, [.ref xa, .ref ya, .int (nI n)])), (xa, .inl (cI, 20, .inl x)), (ya, .inl (cI, 20, .inl y)), (oj, .inl (cJ, 1, .inr (.inl ou)))]) (As := [.int px, .int py]) (rest := [.int (nI 0), .ref oj]) ⟨hx, hb, hml, hown, hts⟩ (c_X3_nearest l dC dI c0 m0 s0 xa ya cI x y st n px py l0 ln hf) (cwV 2 hts gL_nearest_X3_nearest rfl rfl rfl (by decide +kernel) ⟨Nat.le_of_ble_eq_true rfl, Nat.le_of_ble_eq_true rfl⟩) hK hP hD hS [0, 1, 2, 3] [0] 3 0 rfl rfl rfl rfl rfl rfl rfl rfl rfl hl.1 rfl (Nat.le_of_ble_eq_true rfl) ⟨Nat.zero_le _, Nat.zero_le _⟩ dL_nearest_5 rfl (fun H locs hP hD hS => ?_)
  refine W.eq (g2 := F0 m 8 ls [.int (nI (j_near x y n px py 0 1)), .int (nI 0), .ref oj]) rfl ?_
  refine lv_i2l (v := (nI (j_near x y n px py 0 1)).toInt64) hx hb dL_nearest_8 rfl ?_
  refine q_last (ws' := [(c0, .inr (3, [.ref s0, .ref m0, .int st])), (s0, .inr (2, [.ref xa, .ref ya, .int (nI n)])), (xa, .inl (cI, 20, .inl x)), (ya, .inl (cI, 20, .inl y)), (oj, .inl (cJ, 1, .inr (.inl (vp_updL ou 0 ((nI (j_near x y n px py 0 1)).toInt64)))))]) hx hb hK hP hD hS 4 1 rfl rfl (0) rfl (by omega) (by decide) dL_nearest_9 rfl (fun H locs hP hD hS => ?_)
  refine lv_goto (tgt := 21) hx hb dL_nearest_10 (by decide) ?_
  refine lv_iconst (v := 0) hx hb dL_nearest_21 (by decide) ?_
  refine W.widen (k := 1) (n := 6) (Nat.zero_le _) (Nat.zero_le _) ?_
  exact W.iret (v := 0) hx hb hr (q_retm hP hS) hS.2.2 dL_nearest_22
set_option maxHeartbeats 4000000 in
set_option maxRecDepth 100000 in
theorem l1_L_nearest (l : Launch) (hst9 : l.stackTraces = false) (dC : Nat → ClassId) (dI : Nat → Nat → Nat) (c0 m0 s0 xa ya : Nat) (cI : ClassId) (oj : Nat) (cJ : ClassId) (ou : Nat → Int64) (x y : Nat → Int32) (st : Int32) (n : Nat) (px py : Int32) (hf : r_far px py = true) : Met l yL_nearest wsL_nearest ({ frames := 8, cells := 1, slots := 6, locals := 125 }) (q_Py (dC, dI) [.ref c0, .int px, .int py, .ref oj] [(c0, .inr (3, [.ref s0, .ref m0, .int st])), (s0, .inr (2, [.ref xa, .ref ya, .int (nI n)])), (xa, .inl (cI, 20, .inl x)), (ya, .inl (cI, 20, .inl y)), (oj, .inl (cJ, 1, .inr (.inl ou)))] [(cI, .int), (cJ, .long)]) (q_Qm (dC, dI) (q_in [(c0, .inr (3, [.ref s0, .ref m0, .int st])), (s0, .inr (2, [.ref xa, .ref ya, .int (nI n)])), (xa, .inl (cI, 20, .inl x)), (ya, .inl (cI, 20, .inl y)), (oj, .inl (cJ, 1, .inr (.inl ou)))]) (some (.int 1)) [(c0, .inr (3, [.ref s0, .ref m0, .int st])), (s0, .inr (2, [.ref xa, .ref ya, .int (nI n)])), (xa, .inl (cI, 20, .inl x)), (ya, .inl (cI, 20, .inl y)), (oj, .inl (cJ, 1, .inr (.inl ou)))]) 1 6 (q_in [(c0, .inr (3, [.ref s0, .ref m0, .int st])), (s0, .inr (2, [.ref xa, .ref ya, .int (nI n)])), (xa, .inl (cI, 20, .inl x)), (ya, .inl (cI, 20, .inl y)), (oj, .inl (cJ, 1, .inr (.inl ou)))]) := by
  refine va_MetW (cc := cL_nearest) (maxL := 5) (ret := (some .int)) (hh := [(0, 10, 13, 13), (0, 10, 17, 15)]) (by decide) rfl ?_
  intro p e s m args below meth c s₁ B hml hv
  obtain ⟨rfl, hP, hK, hD0, hE, hNc⟩ := hv
  have hx := B.exec
  have hb := B.bytes
  have hr := B.returns
  have hts := atoms_spec (ws := wsL_nearest) B.pre
  have hown : s.vm.findClass RL = some m.cls := findClass_of_methodNamed B.named
  have hlocks := B.notSynchronized
  have htab := vx_table (x := yL_nearest) B (hts (.codeWith yL_nearest cL_nearest 5 (some .int) [(0, 10, 13, 13), (0, 10, 17, 15)]) List.mem_cons_self)
  have hD := q_inD hD0
  generalize hAe : q_in [(c0, .inr (3, [.ref s0, .ref m0, .int st])), (s0, .inr (2, [.ref xa, .ref ya, .int (nI n)])), (xa, .inl (cI, 20, .inl x)), (ya, .inl (cI, 20, .inl y)), (oj, .inl (cJ, 1, .inr (.inl ou)))] = A at hD hE ⊢
  have hS : va_S A s.heap s.heap [] := va_S.rf
  have hP : va_P (dC, dI) vwCl [(c0, .inr (3, [.ref s0, .ref m0, .int st])), (s0, .inr (2, [.ref xa, .ref ya, .int (nI n)])), (xa, .inl (cI, 20, .inl x)), (ya, .inl (cI, 20, .inl y)), (oj, .inl (cJ, 1, .inr (.inl ou)))] s.heap := hP
  have hl := lv_entry ([.ref c0, .int px, .int py, .ref oj]) (n := 5) (Nat.le_of_ble_eq_true rfl)
  rw [lg_entry_eq]
  generalize (lg_sl ([.ref c0, .int px, .int py, .ref oj]) ++ List.replicate (5 - (lg_sl ([.ref c0, .int px, .int py, .ref oj])).length) Slot.unset).toArray = ls at hl ⊢
  have hl : lv_has ls 5 [(0, .ref c0), (1, .int px), (2, .int py), (3, .ref oj)] := hl
  refine lv_aload_n hx hb dL_nearest_0 rfl (lv_at hl 3 rfl) ?_
  refine lv_iconst (v := nI 0) hx hb dL_nearest_1 (by decide) ?_
  refine lv_aload_n hx hb dL_nearest_2 rfl (lv_at hl 0 rfl) ?_
  refine lv_iload_n hx hb dL_nearest_3 rfl (lv_at hl 1 rfl) ?_
  refine lv_iload_n hx hb dL_nearest_4 rfl (lv_at hl 2 rfl) ?_
  refine q_tV (en := q_IA) (wc' := [(c0, .inr (3, [.ref s0, .ref m0, .int st])), (s0, .inr (2, [.ref xa, .ref ya, .int (nI n)])), (xa, .inl (cI, 20, .inl x)), (ya, .inl (cI, 20, .inl y))]) (wsN := [(c0, .inr (3, [.ref s0, .ref m0, .int st])), (s0, .inr (2, [.ref xa, .ref ya, .int (nI n)])), (xa, .inl (cI, 20, .inl x)), (ya, .inl (cI, 20, .inl y)), (oj, .inl (cJ, 1, .inr (.inl ou)))]) (As := [.int px, .int py]) (rest := [.int (nI 0), .ref oj]) ⟨hx, hb, hml, hown, hts⟩ (t1_X3_nearest l hst9 dC dI c0 m0 s0 xa ya cI x y st n px py hf) (cwV 2 hts gL_nearest_X3_nearest rfl rfl rfl (by decide +kernel) ⟨Nat.le_of_ble_eq_true rfl, Nat.le_of_ble_eq_true rfl⟩) hE hK hP hD hS [0, 1, 2, 3] [0] 3 0 rfl rfl rfl rfl rfl rfl rfl rfl rfl hl.1 rfl (Nat.le_of_ble_eq_true rfl) ⟨Nat.le_of_ble_eq_true rfl, Nat.le_of_ble_eq_true rfl⟩ dL_nearest_5 rfl (fun H locs q9 ce hP hD hS hq9 hcv hcl => ?_)
  refine q_catchL (h := 13) (fun hpl => ?_) hq9 hcv hcl ?_
  · rw [htab]
    exact q_hit (x := ⟨0, 10, 13, 13⟩) hpl hown (by decide) (by decide) (hts (.classLink RL 13 "java/lang/IllegalArgumentException") (by decide +kernel)) (hE.2.2.1 _ (by decide)) hcl
  refine lv_astore (lv' := [(4, .ref q9), (0, .ref c0), (1, .int px), (2, .int py), (3, .ref oj)]) hx hb dL_nearest_13 hl (by decide) rfl (fun ls hl => ?_)
  refine lv_iconst (v := 1) hx hb dL_nearest_15 (by decide) ?_
  exact W.iret (v := 1) hx hb hr (q_retm hP hS) hS.2.2 dL_nearest_16
set_option maxHeartbeats 4000000 in
set_option maxRecDepth 100000 in
theorem l2_L_nearest (l : Launch) (hst9 : l.stackTraces = false) (dC : Nat → ClassId) (dI : Nat → Nat → Nat) (c0 m0 s0 xa ya : Nat) (cI : ClassId) (oj : Nat) (cJ : ClassId) (ou : Nat → Int64) (x y : Nat → Int32) (st : Int32) (n : Nat) (px py : Int32) (l0 : n = 0) (hf : r_far px py = false) : Met l yL_nearest wsL_nearest ({ frames := 8, cells := 1, slots := 6, locals := 125 }) (q_Py (dC, dI) [.ref c0, .int px, .int py, .ref oj] [(c0, .inr (3, [.ref s0, .ref m0, .int st])), (s0, .inr (2, [.ref xa, .ref ya, .int (nI n)])), (xa, .inl (cI, 20, .inl x)), (ya, .inl (cI, 20, .inl y)), (oj, .inl (cJ, 1, .inr (.inl ou)))] [(cI, .int), (cJ, .long)]) (q_Qm (dC, dI) (q_in [(c0, .inr (3, [.ref s0, .ref m0, .int st])), (s0, .inr (2, [.ref xa, .ref ya, .int (nI n)])), (xa, .inl (cI, 20, .inl x)), (ya, .inl (cI, 20, .inl y)), (oj, .inl (cJ, 1, .inr (.inl ou)))]) (some (.int 2)) [(c0, .inr (3, [.ref s0, .ref m0, .int st])), (s0, .inr (2, [.ref xa, .ref ya, .int (nI n)])), (xa, .inl (cI, 20, .inl x)), (ya, .inl (cI, 20, .inl y)), (oj, .inl (cJ, 1, .inr (.inl ou)))]) 1 6 (q_in [(c0, .inr (3, [.ref s0, .ref m0, .int st])), (s0, .inr (2, [.ref xa, .ref ya, .int (nI n)])), (xa, .inl (cI, 20, .inl x)), (ya, .inl (cI, 20, .inl y)), (oj, .inl (cJ, 1, .inr (.inl ou)))]) := by
  refine va_MetW (cc := cL_nearest) (maxL := 5) (ret := (some .int)) (hh := [(0, 10, 13, 13), (0, 10, 17, 15)]) (by decide) rfl ?_
  intro p e s m args below meth c s₁ B hml hv
  obtain ⟨rfl, hP, hK, hD0, hE, hNc⟩ := hv
  have hx := B.exec
  have hb := B.bytes
  have hr := B.returns
  have hts := atoms_spec (ws := wsL_nearest) B.pre
  have hown : s.vm.findClass RL = some m.cls := findClass_of_methodNamed B.named
  have hlocks := B.notSynchronized
  have htab := vx_table (x := yL_nearest) B (hts (.codeWith yL_nearest cL_nearest 5 (some .int) [(0, 10, 13, 13), (0, 10, 17, 15)]) List.mem_cons_self)
  have hD := q_inD hD0
  generalize hAe : q_in [(c0, .inr (3, [.ref s0, .ref m0, .int st])), (s0, .inr (2, [.ref xa, .ref ya, .int (nI n)])), (xa, .inl (cI, 20, .inl x)), (ya, .inl (cI, 20, .inl y)), (oj, .inl (cJ, 1, .inr (.inl ou)))] = A at hD hE ⊢
  have hS : va_S A s.heap s.heap [] := va_S.rf
  have hP : va_P (dC, dI) vwCl [(c0, .inr (3, [.ref s0, .ref m0, .int st])), (s0, .inr (2, [.ref xa, .ref ya, .int (nI n)])), (xa, .inl (cI, 20, .inl x)), (ya, .inl (cI, 20, .inl y)), (oj, .inl (cJ, 1, .inr (.inl ou)))] s.heap := hP
  have hl := lv_entry ([.ref c0, .int px, .int py, .ref oj]) (n := 5) (Nat.le_of_ble_eq_true rfl)
  rw [lg_entry_eq]
  generalize (lg_sl ([.ref c0, .int px, .int py, .ref oj]) ++ List.replicate (5 - (lg_sl ([.ref c0, .int px, .int py, .ref oj])).length) Slot.unset).toArray = ls at hl ⊢
  have hl : lv_has ls 5 [(0, .ref c0), (1, .int px), (2, .int py), (3, .ref oj)] := hl
  refine lv_aload_n hx hb dL_nearest_0 rfl (lv_at hl 3 rfl) ?_
  refine lv_iconst (v := nI 0) hx hb dL_nearest_1 (by decide) ?_
  refine lv_aload_n hx hb dL_nearest_2 rfl (lv_at hl 0 rfl) ?_
  refine lv_iload_n hx hb dL_nearest_3 rfl (lv_at hl 1 rfl) ?_
  refine lv_iload_n hx hb dL_nearest_4 rfl (lv_at hl 2 rfl) ?_
  refine q_tV (en := q_IS) (wc' := [(c0, .inr (3, [.ref s0, .ref m0, .int st])), (s0, .inr (2, [.ref xa, .ref ya, .int (nI n)])), (xa, .inl (cI, 20, .inl x)), (ya, .inl (cI, 20, .inl y))]) (wsN := [(c0, .inr (3, [.ref s0, .ref m0, .int st])), (s0, .inr (2, [.ref xa, .ref ya, .int (nI n)])), (xa, .inl (cI, 20, .inl x)), (ya, .inl (cI, 20, .inl y)), (oj, .inl (cJ, 1, .inr (.inl ou)))]) (As := [.int px, .int py]) (rest := [.int (nI 0), .ref oj]) ⟨hx, hb, hml, hown, hts⟩ (t2_X3_nearest l hst9 dC dI c0 m0 s0 xa ya cI x y st n px py l0 hf) (cwV 2 hts gL_nearest_X3_nearest rfl rfl rfl (by decide +kernel) ⟨Nat.le_of_ble_eq_true rfl, Nat.le_of_ble_eq_true rfl⟩) hE hK hP hD hS [0, 1, 2, 3] [0] 3 0 rfl rfl rfl rfl rfl rfl rfl rfl rfl hl.1 rfl (Nat.le_of_ble_eq_true rfl) ⟨Nat.le_of_ble_eq_true rfl, Nat.le_of_ble_eq_true rfl⟩ dL_nearest_5 rfl (fun H locs q9 ce hP hD hS hq9 hcv hcl => ?_)
  refine q_catchL (h := 17) (fun hpl => ?_) hq9 hcv hcl ?_
  · rw [htab]
    exact q_pass (nm := q_IA) (x := ⟨0, 10, 13, 13⟩) hpl hown (by decide) (by decide) (hts (.classLink RL 13 "java/lang/IllegalArgumentException") (by decide +kernel)) hNc.1 hcl (q_hit (x := ⟨0, 10, 17, 15⟩) hpl hown (by decide) (by decide) (hts (.classLink RL 15 "java/lang/IllegalStateException") (by decide +kernel)) (hE.2.2.1 _ (by decide)) hcl)
  refine lv_astore (lv' := [(4, .ref q9), (0, .ref c0), (1, .int px), (2, .int py), (3, .ref oj)]) hx hb dL_nearest_17 hl (by decide) rfl (fun ls hl => ?_)
  refine lv_iconst (v := 2) hx hb dL_nearest_19 (by decide) ?_
  exact W.iret (v := 2) hx hb hr (q_retm hP hS) hS.2.2 dL_nearest_20
set_option maxHeartbeats 4000000 in
set_option maxRecDepth 100000 in
theorem lR_L_cell (l : Launch) (hst9 : l.stackTraces = false) (dC : Nat → ClassId) (dI : Nat → Nat → Nat) (c0 m0 s0 g0 ra sa oa ma xa ya : Nat) (cI : ClassId) (oj : Nat) (cJ : ClassId) (ou : Nat → Int64) (x y : Nat → Int32) (st : Int32) (z : (Int32 × Int32 × Int64 × Int64 × Int64) × (Nat → Nat) × (Nat → Nat) × (Nat → Int32) × Nat) (rm : Nat → Int32) (rc n : Nat) (k : Nat) (i : Int32) (ln : n ≤ 20) (lr : ∀ j, z.2.1 j < 20) (ls0 : z.2.2.1 0 = 0) (hst : j_st (j_refr x y n st z rm rc)) (lk : k < (j_refr x y n st z rm rc).1.2.2.2.2) (hi : i = -1 ∨ r_out i (nI ((j_refr x y n st z rm rc).1.2.2.1 (k + 1) - (j_refr x y n st z rm rc).1.2.2.1 k)) = false) (R : ((Int32 × Int32 × Int64 × Int64 × Int64) × (Nat → Nat) × (Nat → Nat) × (Nat → Int32) × Nat) × (Nat → Int32) × Nat) (hR : j_refr x y n st z rm rc = R) : Met l yL_cell wsL_cell ({ frames := 8, cells := 1, slots := 6, locals := 160 }) (q_Py (dC, dI) [.ref c0, .int (nI k), .int i, .ref oj] [(c0, .inr (3, [.ref s0, .ref m0, .int st])), (m0, .inr (1, [.ref s0, .ref g0, .ref ra, .ref sa, .ref oa, .int (nI z.2.2.2.2), .ref ma, .int (nI rc)])), (g0, .inr (0, [.int z.1.1, .int z.1.2.1, .long z.1.2.2.1, .long z.1.2.2.2.1, .long z.1.2.2.2.2])), (s0, .inr (2, [.ref xa, .ref ya, .int (nI n)])), (xa, .inl (cI, 20, .inl x)), (ya, .inl (cI, 20, .inl y)), (ra, .inl (cI, 105, .inl (fun j9 => nI (z.2.1 j9)))), (sa, .inl (cI, 36, .inl (fun j9 => nI (z.2.2.1 j9)))), (oa, .inl (cI, 400, .inl z.2.2.2.1)), (ma, .inl (cI, 20, .inl rm)), (oj, .inl (cJ, 1, .inr (.inl ou)))] [(cI, .int), (cJ, .long)]) (q_Qm (dC, dI) (q_in [(c0, .inr (3, [.ref s0, .ref m0, .int st])), (m0, .inr (1, [.ref s0, .ref g0, .ref ra, .ref sa, .ref oa, .int (nI z.2.2.2.2), .ref ma, .int (nI rc)])), (g0, .inr (0, [.int z.1.1, .int z.1.2.1, .long z.1.2.2.1, .long z.1.2.2.2.1, .long z.1.2.2.2.2])), (s0, .inr (2, [.ref xa, .ref ya, .int (nI n)])), (xa, .inl (cI, 20, .inl x)), (ya, .inl (cI, 20, .inl y)), (ra, .inl (cI, 105, .inl (fun j9 => nI (z.2.1 j9)))), (sa, .inl (cI, 36, .inl (fun j9 => nI (z.2.2.1 j9)))), (oa, .inl (cI, 400, .inl z.2.2.2.1)), (ma, .inl (cI, 20, .inl rm)), (oj, .inl (cJ, 1, .inr (.inl ou)))]) (some (.int 0)) [(c0, .inr (3, [.ref s0, .ref m0, .int 0])), (m0, .inr (1, [.ref s0, .ref g0, .ref ra, .ref sa, .ref oa, .int (nI R.1.2.2.2.2), .ref ma, .int (nI R.2.2)])), (g0, .inr (0, [.int R.1.1.1, .int R.1.1.2.1, .long R.1.1.2.2.1, .long R.1.1.2.2.2.1, .long R.1.1.2.2.2.2])), (s0, .inr (2, [.ref xa, .ref ya, .int (nI n)])), (xa, .inl (cI, 20, .inl x)), (ya, .inl (cI, 20, .inl y)), (ra, .inl (cI, 105, .inl (fun j9 => nI (R.1.2.1 j9)))), (sa, .inl (cI, 36, .inl (fun j9 => nI (R.1.2.2.1 j9)))), (oa, .inl (cI, 400, .inl R.1.2.2.2.1)), (ma, .inl (cI, 20, .inl R.2.1)), (oj, .inl (cJ, 1, .inr (.inl (vp_updL ou 0 ((j_celV (nI k) i R).toInt64)))))]) 1 6 (q_in [(c0, .inr (3, [.ref s0, .ref m0, .int st])), (m0, .inr (1, [.ref s0, .ref g0, .ref ra, .ref sa, .ref oa, .int (nI z.2.2.2.2), .ref ma, .int (nI rc)])), (g0, .inr (0, [.int z.1.1, .int z.1.2.1, .long z.1.2.2.1, .long z.1.2.2.2.1, .long z.1.2.2.2.2])), (s0, .inr (2, [.ref xa, .ref ya, .int (nI n)])), (xa, .inl (cI, 20, .inl x)), (ya, .inl (cI, 20, .inl y)), (ra, .inl (cI, 105, .inl (fun j9 => nI (z.2.1 j9)))), (sa, .inl (cI, 36, .inl (fun j9 => nI (z.2.2.1 j9)))), (oa, .inl (cI, 400, .inl z.2.2.2.1)), (ma, .inl (cI, 20, .inl rm)), (oj, .inl (cJ, 1, .inr (.inl ou)))]) := by
  refine va_MetW (cc := cL_cell) (maxL := 5) (ret := (some .int)) (hh := [(0, 10, 13, 31), (0, 10, 17, 33)]) (by decide) rfl ?_
  intro p e s m args below meth c s₁ B hml hv
  obtain ⟨rfl, hP, hK, hD0, hE, hNc⟩ := hv
  have hx := B.exec
  have hb := B.bytes
  have hr := B.returns
  have hts := atoms_spec (ws := wsL_cell) B.pre
  have hown : s.vm.findClass RL = some m.cls := findClass_of_methodNamed B.named
  have hlocks := B.notSynchronized
  have htab := vx_table (x := yL_cell) B (hts (.codeWith yL_cell cL_cell 5 (some .int) [(0, 10, 13, 31), (0, 10, 17, 33)]) List.mem_cons_self)
  have hD := q_inD hD0
  generalize hAe : q_in [(c0, .inr (3, [.ref s0, .ref m0, .int st])), (m0, .inr (1, [.ref s0, .ref g0, .ref ra, .ref sa, .ref oa, .int (nI z.2.2.2.2), .ref ma, .int (nI rc)])), (g0, .inr (0, [.int z.1.1, .int z.1.2.1, .long z.1.2.2.1, .long z.1.2.2.2.1, .long z.1.2.2.2.2])), (s0, .inr (2, [.ref xa, .ref ya, .int (nI n)])), (xa, .inl (cI, 20, .inl x)), (ya, .inl (cI, 20, .inl y)), (ra, .inl (cI, 105, .inl (fun j9 => nI (z.2.1 j9)))), (sa, .inl (cI, 36, .inl (fun j9 => nI (z.2.2.1 j9)))), (oa, .inl (cI, 400, .inl z.2.2.2.1)), (ma, .inl (cI, 20, .inl rm)), (oj, .inl (cJ, 1, .inr (.inl ou)))] = A at hD hE ⊢
  have hS : va_S A s.heap s.heap [] := va_S.rf
  have hP : va_P (dC, dI) vwCl [(c0, .inr (3, [.ref s0, .ref m0, .int st])), (m0, .inr (1, [.ref s0, .ref g0, .ref ra, .ref sa, .ref oa, .int (nI z.2.2.2.2), .ref ma, .int (nI rc)])), (g0, .inr (0, [.int z.1.1, .int z.1.2.1, .long z.1.2.2.1, .long z.1.2.2.2.1, .long z.1.2.2.2.2])), (s0, .inr (2, [.ref xa, .ref ya, .int (nI n)])), (xa, .inl (cI, 20, .inl x)), (ya, .inl (cI, 20, .inl y)), (ra, .inl (cI, 105, .inl (fun j9 => nI (z.2.1 j9)))), (sa, .inl (cI, 36, .inl (fun j9 => nI (z.2.2.1 j9)))), (oa, .inl (cI, 400, .inl z.2.2.2.1)), (ma, .inl (cI, 20, .inl rm)), (oj, .inl (cJ, 1, .inr (.inl ou)))] s.heap := hP
  have hl := lv_entry ([.ref c0, .int (nI k), .int i, .ref oj]) (n := 5) (Nat.le_of_ble_eq_true rfl)
  rw [lg_entry_eq]
  generalize (lg_sl ([.ref c0, .int (nI k), .int i, .ref oj]) ++ List.replicate (5 - (lg_sl ([.ref c0, .int (nI k), .int i, .ref oj])).length) Slot.unset).toArray = ls at hl ⊢
  have hl : lv_has ls 5 [(0, .ref c0), (1, .int (nI k)), (2, .int i), (3, .ref oj)] := hl
  refine lv_aload_n hx hb dL_cell_0 rfl (lv_at hl 3 rfl) ?_
  refine lv_iconst (v := nI 0) hx hb dL_cell_1 (by decide) ?_
  refine lv_aload_n hx hb dL_cell_2 rfl (lv_at hl 0 rfl) ?_
  refine lv_iload_n hx hb dL_cell_3 rfl (lv_at hl 1 rfl) ?_
  refine lv_iload_n hx hb dL_cell_4 rfl (lv_at hl 2 rfl) ?_
  obtain ⟨r1, hr1⟩ : ∃ r : ((Int32 × Int32 × Int64 × Int64 × Int64) × (Nat → Nat) × (Nat → Nat) × (Nat → Int32) × Nat) × (Nat → Int32) × Nat, j_refr x y n st z rm rc = r := ⟨_, rfl⟩
  refine q_mV (wc' := [(c0, .inr (3, [.ref s0, .ref m0, .int 0])), (m0, .inr (1, [.ref s0, .ref g0, .ref ra, .ref sa, .ref oa, .int (nI r1.1.2.2.2.2), .ref ma, .int (nI r1.2.2)])), (g0, .inr (0, [.int r1.1.1.1, .int r1.1.1.2.1, .long r1.1.1.2.2.1, .long r1.1.1.2.2.2.1, .long r1.1.1.2.2.2.2])), (s0, .inr (2, [.ref xa, .ref ya, .int (nI n)])), (xa, .inl (cI, 20, .inl x)), (ya, .inl (cI, 20, .inl y)), (ra, .inl (cI, 105, .inl (fun j9 => nI (r1.1.2.1 j9)))), (sa, .inl (cI, 36, .inl (fun j9 => nI (r1.1.2.2.1 j9)))), (oa, .inl (cI, 400, .inl r1.1.2.2.2.1)), (ma, .inl (cI, 20, .inl r1.2.1))]) (wsN := [(c0, .inr (3, [.ref s0, .ref m0, .int 0])), (m0, .inr (1, [.ref s0, .ref g0, .ref ra, .ref sa, .ref oa, .int (nI r1.1.2.2.2.2), .ref ma, .int (nI r1.2.2)])), (g0, .inr (0, [.int r1.1.1.1, .int r1.1.1.2.1, .long r1.1.1.2.2.1, .long r1.1.1.2.2.2.1, .long r1.1.1.2.2.2.2])), (s0, .inr (2, [.ref xa, .ref ya, .int (nI n)])), (xa, .inl (cI, 20, .inl x)), (ya, .inl (cI, 20, .inl y)), (ra, .inl (cI, 105, .inl (fun j9 => nI (r1.1.2.1 j9)))), (sa, .inl (cI, 36, .inl (fun j9 => nI (r1.1.2.2.1 j9)))), (oa, .inl (cI, 400, .inl r1.1.2.2.2.1)), (ma, .inl (cI, 20, .inl r1.2.1)), (oj, .inl (cJ, 1, .inr (.inl ou)))]) (As := [.int (nI k), .int i]) (rest := [.int (nI 0), .ref oj]) ⟨hx, hb, hml, hown, hts⟩ (c_X3_cell l dC dI c0 m0 s0 g0 ra sa oa ma xa ya cI x y st (by omega) rm rc n k i ln lr ls0 hst lk hi r1 hr1) (cwV 2 hts gL_cell_X3_cell rfl rfl rfl (by decide +kernel) ⟨Nat.le_of_ble_eq_true rfl, Nat.le_of_ble_eq_true rfl⟩) hK hP hD hS [0, 1, 2, 3, 4, 5, 6, 7, 8, 9] [0] 3 0 rfl rfl rfl rfl rfl rfl rfl rfl rfl hl.1 rfl (Nat.le_of_ble_eq_true rfl) ⟨Nat.zero_le _, Nat.zero_le _⟩ dL_cell_5 rfl (fun H locs hP hD hS => ?_)
  refine W.eq (g2 := F0 m 8 ls [.int (j_celV (nI k) i r1), .int (nI 0), .ref oj]) rfl ?_
  rw [hr1] at hR
  subst hR
  refine lv_i2l (v := (j_celV (nI k) i r1).toInt64) hx hb dL_cell_8 rfl ?_
  refine q_last (ws' := [(c0, .inr (3, [.ref s0, .ref m0, .int 0])), (m0, .inr (1, [.ref s0, .ref g0, .ref ra, .ref sa, .ref oa, .int (nI r1.1.2.2.2.2), .ref ma, .int (nI r1.2.2)])), (g0, .inr (0, [.int r1.1.1.1, .int r1.1.1.2.1, .long r1.1.1.2.2.1, .long r1.1.1.2.2.2.1, .long r1.1.1.2.2.2.2])), (s0, .inr (2, [.ref xa, .ref ya, .int (nI n)])), (xa, .inl (cI, 20, .inl x)), (ya, .inl (cI, 20, .inl y)), (ra, .inl (cI, 105, .inl (fun j9 => nI (r1.1.2.1 j9)))), (sa, .inl (cI, 36, .inl (fun j9 => nI (r1.1.2.2.1 j9)))), (oa, .inl (cI, 400, .inl r1.1.2.2.2.1)), (ma, .inl (cI, 20, .inl r1.2.1)), (oj, .inl (cJ, 1, .inr (.inl (vp_updL ou 0 ((j_celV (nI k) i r1).toInt64)))))]) hx hb hK hP hD hS 10 1 rfl rfl (0) rfl (by omega) (by decide) dL_cell_9 rfl (fun H locs hP hD hS => ?_)
  refine lv_goto (tgt := 21) hx hb dL_cell_10 (by decide) ?_
  refine lv_iconst (v := 0) hx hb dL_cell_21 (by decide) ?_
  refine W.widen (k := 1) (n := 6) (Nat.zero_le _) (Nat.zero_le _) ?_
  exact W.iret (v := 0) hx hb hr (q_retm hP hS) hS.2.2 dL_cell_22
set_option maxHeartbeats 4000000 in
set_option maxRecDepth 100000 in
theorem l1_L_cell (l : Launch) (hst9 : l.stackTraces = false) (dC : Nat → ClassId) (dI : Nat → Nat → Nat) (c0 m0 s0 g0 ra sa oa ma xa ya : Nat) (cI : ClassId) (oj : Nat) (cJ : ClassId) (ou : Nat → Int64) (x y : Nat → Int32) (st : Int32) (z : (Int32 × Int32 × Int64 × Int64 × Int64) × (Nat → Nat) × (Nat → Nat) × (Nat → Int32) × Nat) (rm : Nat → Int32) (rc n : Nat) (w i : Int32) (ln : n ≤ 20) (lr : ∀ j, z.2.1 j < 20) (ls0 : z.2.2.1 0 = 0) (hf : r_out w (nI (j_refr x y n st z rm rc).1.2.2.2.2) = true) (R : ((Int32 × Int32 × Int64 × Int64 × Int64) × (Nat → Nat) × (Nat → Nat) × (Nat → Int32) × Nat) × (Nat → Int32) × Nat) (hR : j_refr x y n st z rm rc = R) : Met l yL_cell wsL_cell ({ frames := 8, cells := 1, slots := 6, locals := 160 }) (q_Py (dC, dI) [.ref c0, .int w, .int i, .ref oj] [(c0, .inr (3, [.ref s0, .ref m0, .int st])), (m0, .inr (1, [.ref s0, .ref g0, .ref ra, .ref sa, .ref oa, .int (nI z.2.2.2.2), .ref ma, .int (nI rc)])), (g0, .inr (0, [.int z.1.1, .int z.1.2.1, .long z.1.2.2.1, .long z.1.2.2.2.1, .long z.1.2.2.2.2])), (s0, .inr (2, [.ref xa, .ref ya, .int (nI n)])), (xa, .inl (cI, 20, .inl x)), (ya, .inl (cI, 20, .inl y)), (ra, .inl (cI, 105, .inl (fun j9 => nI (z.2.1 j9)))), (sa, .inl (cI, 36, .inl (fun j9 => nI (z.2.2.1 j9)))), (oa, .inl (cI, 400, .inl z.2.2.2.1)), (ma, .inl (cI, 20, .inl rm)), (oj, .inl (cJ, 1, .inr (.inl ou)))] [(cI, .int), (cJ, .long)]) (q_Qm (dC, dI) (q_in [(c0, .inr (3, [.ref s0, .ref m0, .int st])), (m0, .inr (1, [.ref s0, .ref g0, .ref ra, .ref sa, .ref oa, .int (nI z.2.2.2.2), .ref ma, .int (nI rc)])), (g0, .inr (0, [.int z.1.1, .int z.1.2.1, .long z.1.2.2.1, .long z.1.2.2.2.1, .long z.1.2.2.2.2])), (s0, .inr (2, [.ref xa, .ref ya, .int (nI n)])), (xa, .inl (cI, 20, .inl x)), (ya, .inl (cI, 20, .inl y)), (ra, .inl (cI, 105, .inl (fun j9 => nI (z.2.1 j9)))), (sa, .inl (cI, 36, .inl (fun j9 => nI (z.2.2.1 j9)))), (oa, .inl (cI, 400, .inl z.2.2.2.1)), (ma, .inl (cI, 20, .inl rm)), (oj, .inl (cJ, 1, .inr (.inl ou)))]) (some (.int 1)) [(c0, .inr (3, [.ref s0, .ref m0, .int 0])), (m0, .inr (1, [.ref s0, .ref g0, .ref ra, .ref sa, .ref oa, .int (nI R.1.2.2.2.2), .ref ma, .int (nI R.2.2)])), (g0, .inr (0, [.int R.1.1.1, .int R.1.1.2.1, .long R.1.1.2.2.1, .long R.1.1.2.2.2.1, .long R.1.1.2.2.2.2])), (s0, .inr (2, [.ref xa, .ref ya, .int (nI n)])), (xa, .inl (cI, 20, .inl x)), (ya, .inl (cI, 20, .inl y)), (ra, .inl (cI, 105, .inl (fun j9 => nI (R.1.2.1 j9)))), (sa, .inl (cI, 36, .inl (fun j9 => nI (R.1.2.2.1 j9)))), (oa, .inl (cI, 400, .inl R.1.2.2.2.1)), (ma, .inl (cI, 20, .inl R.2.1)), (oj, .inl (cJ, 1, .inr (.inl ou)))]) 1 6 (q_in [(c0, .inr (3, [.ref s0, .ref m0, .int st])), (m0, .inr (1, [.ref s0, .ref g0, .ref ra, .ref sa, .ref oa, .int (nI z.2.2.2.2), .ref ma, .int (nI rc)])), (g0, .inr (0, [.int z.1.1, .int z.1.2.1, .long z.1.2.2.1, .long z.1.2.2.2.1, .long z.1.2.2.2.2])), (s0, .inr (2, [.ref xa, .ref ya, .int (nI n)])), (xa, .inl (cI, 20, .inl x)), (ya, .inl (cI, 20, .inl y)), (ra, .inl (cI, 105, .inl (fun j9 => nI (z.2.1 j9)))), (sa, .inl (cI, 36, .inl (fun j9 => nI (z.2.2.1 j9)))), (oa, .inl (cI, 400, .inl z.2.2.2.1)), (ma, .inl (cI, 20, .inl rm)), (oj, .inl (cJ, 1, .inr (.inl ou)))]) := by
  refine va_MetW (cc := cL_cell) (maxL := 5) (ret := (some .int)) (hh := [(0, 10, 13, 31), (0, 10, 17, 33)]) (by decide) rfl ?_
  intro p e s m args below meth c s₁ B hml hv
  obtain ⟨rfl, hP, hK, hD0, hE, hNc⟩ := hv
  have hx := B.exec
  have hb := B.bytes
  have hr := B.returns
  have hts := atoms_spec (ws := wsL_cell) B.pre
  have hown : s.vm.findClass RL = some m.cls := findClass_of_methodNamed B.named
  have hlocks := B.notSynchronized
  have htab := vx_table (x := yL_cell) B (hts (.codeWith yL_cell cL_cell 5 (some .int) [(0, 10, 13, 31), (0, 10, 17, 33)]) List.mem_cons_self)
  have hD := q_inD hD0
  generalize hAe : q_in [(c0, .inr (3, [.ref s0, .ref m0, .int st])), (m0, .inr (1, [.ref s0, .ref g0, .ref ra, .ref sa, .ref oa, .int (nI z.2.2.2.2), .ref ma, .int (nI rc)])), (g0, .inr (0, [.int z.1.1, .int z.1.2.1, .long z.1.2.2.1, .long z.1.2.2.2.1, .long z.1.2.2.2.2])), (s0, .inr (2, [.ref xa, .ref ya, .int (nI n)])), (xa, .inl (cI, 20, .inl x)), (ya, .inl (cI, 20, .inl y)), (ra, .inl (cI, 105, .inl (fun j9 => nI (z.2.1 j9)))), (sa, .inl (cI, 36, .inl (fun j9 => nI (z.2.2.1 j9)))), (oa, .inl (cI, 400, .inl z.2.2.2.1)), (ma, .inl (cI, 20, .inl rm)), (oj, .inl (cJ, 1, .inr (.inl ou)))] = A at hD hE ⊢
  have hS : va_S A s.heap s.heap [] := va_S.rf
  have hP : va_P (dC, dI) vwCl [(c0, .inr (3, [.ref s0, .ref m0, .int st])), (m0, .inr (1, [.ref s0, .ref g0, .ref ra, .ref sa, .ref oa, .int (nI z.2.2.2.2), .ref ma, .int (nI rc)])), (g0, .inr (0, [.int z.1.1, .int z.1.2.1, .long z.1.2.2.1, .long z.1.2.2.2.1, .long z.1.2.2.2.2])), (s0, .inr (2, [.ref xa, .ref ya, .int (nI n)])), (xa, .inl (cI, 20, .inl x)), (ya, .inl (cI, 20, .inl y)), (ra, .inl (cI, 105, .inl (fun j9 => nI (z.2.1 j9)))), (sa, .inl (cI, 36, .inl (fun j9 => nI (z.2.2.1 j9)))), (oa, .inl (cI, 400, .inl z.2.2.2.1)), (ma, .inl (cI, 20, .inl rm)), (oj, .inl (cJ, 1, .inr (.inl ou)))] s.heap := hP
  have hl := lv_entry ([.ref c0, .int w, .int i, .ref oj]) (n := 5) (Nat.le_of_ble_eq_true rfl)
  rw [lg_entry_eq]
  generalize (lg_sl ([.ref c0, .int w, .int i, .ref oj]) ++ List.replicate (5 - (lg_sl ([.ref c0, .int w, .int i, .ref oj])).length) Slot.unset).toArray = ls at hl ⊢
  have hl : lv_has ls 5 [(0, .ref c0), (1, .int w), (2, .int i), (3, .ref oj)] := hl
  refine lv_aload_n hx hb dL_cell_0 rfl (lv_at hl 3 rfl) ?_
  refine lv_iconst (v := nI 0) hx hb dL_cell_1 (by decide) ?_
  refine lv_aload_n hx hb dL_cell_2 rfl (lv_at hl 0 rfl) ?_
  refine lv_iload_n hx hb dL_cell_3 rfl (lv_at hl 1 rfl) ?_
  refine lv_iload_n hx hb dL_cell_4 rfl (lv_at hl 2 rfl) ?_
  obtain ⟨r1, hr1⟩ : ∃ r : ((Int32 × Int32 × Int64 × Int64 × Int64) × (Nat → Nat) × (Nat → Nat) × (Nat → Int32) × Nat) × (Nat → Int32) × Nat, j_refr x y n st z rm rc = r := ⟨_, rfl⟩
  refine q_tV (en := q_NE) (wc' := [(c0, .inr (3, [.ref s0, .ref m0, .int 0])), (m0, .inr (1, [.ref s0, .ref g0, .ref ra, .ref sa, .ref oa, .int (nI r1.1.2.2.2.2), .ref ma, .int (nI r1.2.2)])), (g0, .inr (0, [.int r1.1.1.1, .int r1.1.1.2.1, .long r1.1.1.2.2.1, .long r1.1.1.2.2.2.1, .long r1.1.1.2.2.2.2])), (s0, .inr (2, [.ref xa, .ref ya, .int (nI n)])), (xa, .inl (cI, 20, .inl x)), (ya, .inl (cI, 20, .inl y)), (ra, .inl (cI, 105, .inl (fun j9 => nI (r1.1.2.1 j9)))), (sa, .inl (cI, 36, .inl (fun j9 => nI (r1.1.2.2.1 j9)))), (oa, .inl (cI, 400, .inl r1.1.2.2.2.1)), (ma, .inl (cI, 20, .inl r1.2.1))]) (wsN := [(c0, .inr (3, [.ref s0, .ref m0, .int 0])), (m0, .inr (1, [.ref s0, .ref g0, .ref ra, .ref sa, .ref oa, .int (nI r1.1.2.2.2.2), .ref ma, .int (nI r1.2.2)])), (g0, .inr (0, [.int r1.1.1.1, .int r1.1.1.2.1, .long r1.1.1.2.2.1, .long r1.1.1.2.2.2.1, .long r1.1.1.2.2.2.2])), (s0, .inr (2, [.ref xa, .ref ya, .int (nI n)])), (xa, .inl (cI, 20, .inl x)), (ya, .inl (cI, 20, .inl y)), (ra, .inl (cI, 105, .inl (fun j9 => nI (r1.1.2.1 j9)))), (sa, .inl (cI, 36, .inl (fun j9 => nI (r1.1.2.2.1 j9)))), (oa, .inl (cI, 400, .inl r1.1.2.2.2.1)), (ma, .inl (cI, 20, .inl r1.2.1)), (oj, .inl (cJ, 1, .inr (.inl ou)))]) (As := [.int w, .int i]) (rest := [.int (nI 0), .ref oj]) ⟨hx, hb, hml, hown, hts⟩ (t1_X3_cell l hst9 dC dI c0 m0 s0 g0 ra sa oa ma xa ya cI x y st (by omega) rm rc n w i ln lr ls0 hf r1 hr1) (cwV 2 hts gL_cell_X3_cell rfl rfl rfl (by decide +kernel) ⟨Nat.le_of_ble_eq_true rfl, Nat.le_of_ble_eq_true rfl⟩) hE hK hP hD hS [0, 1, 2, 3, 4, 5, 6, 7, 8, 9] [0] 3 0 rfl rfl rfl rfl rfl rfl rfl rfl rfl hl.1 rfl (Nat.le_of_ble_eq_true rfl) ⟨Nat.le_of_ble_eq_true rfl, Nat.le_of_ble_eq_true rfl⟩ dL_cell_5 rfl (fun H locs q9 ce hP hD hS hq9 hcv hcl => ?_)
  rw [hr1] at hR
  subst hR
  refine q_catchL (h := 13) (fun hpl => ?_) hq9 hcv hcl ?_
  · rw [htab]
    exact q_hit (x := ⟨0, 10, 13, 31⟩) hpl hown (by decide) (by decide) (hts (.classLink RL 31 "java/util/NoSuchElementException") (by decide +kernel)) (hE.2.2.1 _ (by decide)) hcl
  refine lv_astore (lv' := [(4, .ref q9), (0, .ref c0), (1, .int w), (2, .int i), (3, .ref oj)]) hx hb dL_cell_13 hl (by decide) rfl (fun ls hl => ?_)
  refine lv_iconst (v := 1) hx hb dL_cell_15 (by decide) ?_
  exact W.iret (v := 1) hx hb hr (q_retm hP hS) hS.2.2 dL_cell_16
set_option maxHeartbeats 4000000 in
set_option maxRecDepth 100000 in
theorem l2_L_cell (l : Launch) (hst9 : l.stackTraces = false) (dC : Nat → ClassId) (dI : Nat → Nat → Nat) (c0 m0 s0 g0 ra sa oa ma xa ya : Nat) (cI : ClassId) (oj : Nat) (cJ : ClassId) (ou : Nat → Int64) (x y : Nat → Int32) (st : Int32) (z : (Int32 × Int32 × Int64 × Int64 × Int64) × (Nat → Nat) × (Nat → Nat) × (Nat → Int32) × Nat) (rm : Nat → Int32) (rc n : Nat) (k : Nat) (i : Int32) (ln : n ≤ 20) (lr : ∀ j, z.2.1 j < 20) (ls0 : z.2.2.1 0 = 0) (hst : j_st (j_refr x y n st z rm rc)) (lk : k < (j_refr x y n st z rm rc).1.2.2.2.2) (hi1 : ¬ i = -1) (hi : r_out i (nI ((j_refr x y n st z rm rc).1.2.2.1 (k + 1) - (j_refr x y n st z rm rc).1.2.2.1 k)) = true) (R : ((Int32 × Int32 × Int64 × Int64 × Int64) × (Nat → Nat) × (Nat → Nat) × (Nat → Int32) × Nat) × (Nat → Int32) × Nat) (hR : j_refr x y n st z rm rc = R) : Met l yL_cell wsL_cell ({ frames := 8, cells := 1, slots := 6, locals := 160 }) (q_Py (dC, dI) [.ref c0, .int (nI k), .int i, .ref oj] [(c0, .inr (3, [.ref s0, .ref m0, .int st])), (m0, .inr (1, [.ref s0, .ref g0, .ref ra, .ref sa, .ref oa, .int (nI z.2.2.2.2), .ref ma, .int (nI rc)])), (g0, .inr (0, [.int z.1.1, .int z.1.2.1, .long z.1.2.2.1, .long z.1.2.2.2.1, .long z.1.2.2.2.2])), (s0, .inr (2, [.ref xa, .ref ya, .int (nI n)])), (xa, .inl (cI, 20, .inl x)), (ya, .inl (cI, 20, .inl y)), (ra, .inl (cI, 105, .inl (fun j9 => nI (z.2.1 j9)))), (sa, .inl (cI, 36, .inl (fun j9 => nI (z.2.2.1 j9)))), (oa, .inl (cI, 400, .inl z.2.2.2.1)), (ma, .inl (cI, 20, .inl rm)), (oj, .inl (cJ, 1, .inr (.inl ou)))] [(cI, .int), (cJ, .long)]) (q_Qm (dC, dI) (q_in [(c0, .inr (3, [.ref s0, .ref m0, .int st])), (m0, .inr (1, [.ref s0, .ref g0, .ref ra, .ref sa, .ref oa, .int (nI z.2.2.2.2), .ref ma, .int (nI rc)])), (g0, .inr (0, [.int z.1.1, .int z.1.2.1, .long z.1.2.2.1, .long z.1.2.2.2.1, .long z.1.2.2.2.2])), (s0, .inr (2, [.ref xa, .ref ya, .int (nI n)])), (xa, .inl (cI, 20, .inl x)), (ya, .inl (cI, 20, .inl y)), (ra, .inl (cI, 105, .inl (fun j9 => nI (z.2.1 j9)))), (sa, .inl (cI, 36, .inl (fun j9 => nI (z.2.2.1 j9)))), (oa, .inl (cI, 400, .inl z.2.2.2.1)), (ma, .inl (cI, 20, .inl rm)), (oj, .inl (cJ, 1, .inr (.inl ou)))]) (some (.int 2)) [(c0, .inr (3, [.ref s0, .ref m0, .int 0])), (m0, .inr (1, [.ref s0, .ref g0, .ref ra, .ref sa, .ref oa, .int (nI R.1.2.2.2.2), .ref ma, .int (nI R.2.2)])), (g0, .inr (0, [.int R.1.1.1, .int R.1.1.2.1, .long R.1.1.2.2.1, .long R.1.1.2.2.2.1, .long R.1.1.2.2.2.2])), (s0, .inr (2, [.ref xa, .ref ya, .int (nI n)])), (xa, .inl (cI, 20, .inl x)), (ya, .inl (cI, 20, .inl y)), (ra, .inl (cI, 105, .inl (fun j9 => nI (R.1.2.1 j9)))), (sa, .inl (cI, 36, .inl (fun j9 => nI (R.1.2.2.1 j9)))), (oa, .inl (cI, 400, .inl R.1.2.2.2.1)), (ma, .inl (cI, 20, .inl R.2.1)), (oj, .inl (cJ, 1, .inr (.inl ou)))]) 1 6 (q_in [(c0, .inr (3, [.ref s0, .ref m0, .int st])), (m0, .inr (1, [.ref s0, .ref g0, .ref ra, .ref sa, .ref oa, .int (nI z.2.2.2.2), .ref ma, .int (nI rc)])), (g0, .inr (0, [.int z.1.1, .int z.1.2.1, .long z.1.2.2.1, .long z.1.2.2.2.1, .long z.1.2.2.2.2])), (s0, .inr (2, [.ref xa, .ref ya, .int (nI n)])), (xa, .inl (cI, 20, .inl x)), (ya, .inl (cI, 20, .inl y)), (ra, .inl (cI, 105, .inl (fun j9 => nI (z.2.1 j9)))), (sa, .inl (cI, 36, .inl (fun j9 => nI (z.2.2.1 j9)))), (oa, .inl (cI, 400, .inl z.2.2.2.1)), (ma, .inl (cI, 20, .inl rm)), (oj, .inl (cJ, 1, .inr (.inl ou)))]) := by
  refine va_MetW (cc := cL_cell) (maxL := 5) (ret := (some .int)) (hh := [(0, 10, 13, 31), (0, 10, 17, 33)]) (by decide) rfl ?_
  intro p e s m args below meth c s₁ B hml hv
  obtain ⟨rfl, hP, hK, hD0, hE, hNc⟩ := hv
  have hx := B.exec
  have hb := B.bytes
  have hr := B.returns
  have hts := atoms_spec (ws := wsL_cell) B.pre
  have hown : s.vm.findClass RL = some m.cls := findClass_of_methodNamed B.named
  have hlocks := B.notSynchronized
  have htab := vx_table (x := yL_cell) B (hts (.codeWith yL_cell cL_cell 5 (some .int) [(0, 10, 13, 31), (0, 10, 17, 33)]) List.mem_cons_self)
  have hD := q_inD hD0
  generalize hAe : q_in [(c0, .inr (3, [.ref s0, .ref m0, .int st])), (m0, .inr (1, [.ref s0, .ref g0, .ref ra, .ref sa, .ref oa, .int (nI z.2.2.2.2), .ref ma, .int (nI rc)])), (g0, .inr (0, [.int z.1.1, .int z.1.2.1, .long z.1.2.2.1, .long z.1.2.2.2.1, .long z.1.2.2.2.2])), (s0, .inr (2, [.ref xa, .ref ya, .int (nI n)])), (xa, .inl (cI, 20, .inl x)), (ya, .inl (cI, 20, .inl y)), (ra, .inl (cI, 105, .inl (fun j9 => nI (z.2.1 j9)))), (sa, .inl (cI, 36, .inl (fun j9 => nI (z.2.2.1 j9)))), (oa, .inl (cI, 400, .inl z.2.2.2.1)), (ma, .inl (cI, 20, .inl rm)), (oj, .inl (cJ, 1, .inr (.inl ou)))] = A at hD hE ⊢
  have hS : va_S A s.heap s.heap [] := va_S.rf
  have hP : va_P (dC, dI) vwCl [(c0, .inr (3, [.ref s0, .ref m0, .int st])), (m0, .inr (1, [.ref s0, .ref g0, .ref ra, .ref sa, .ref oa, .int (nI z.2.2.2.2), .ref ma, .int (nI rc)])), (g0, .inr (0, [.int z.1.1, .int z.1.2.1, .long z.1.2.2.1, .long z.1.2.2.2.1, .long z.1.2.2.2.2])), (s0, .inr (2, [.ref xa, .ref ya, .int (nI n)])), (xa, .inl (cI, 20, .inl x)), (ya, .inl (cI, 20, .inl y)), (ra, .inl (cI, 105, .inl (fun j9 => nI (z.2.1 j9)))), (sa, .inl (cI, 36, .inl (fun j9 => nI (z.2.2.1 j9)))), (oa, .inl (cI, 400, .inl z.2.2.2.1)), (ma, .inl (cI, 20, .inl rm)), (oj, .inl (cJ, 1, .inr (.inl ou)))] s.heap := hP
  have hl := lv_entry ([.ref c0, .int (nI k), .int i, .ref oj]) (n := 5) (Nat.le_of_ble_eq_true rfl)
  rw [lg_entry_eq]
  generalize (lg_sl ([.ref c0, .int (nI k), .int i, .ref oj]) ++ List.replicate (5 - (lg_sl ([.ref c0, .int (nI k), .int i, .ref oj])).length) Slot.unset).toArray = ls at hl ⊢
  have hl : lv_has ls 5 [(0, .ref c0), (1, .int (nI k)), (2, .int i), (3, .ref oj)] := hl
  refine lv_aload_n hx hb dL_cell_0 rfl (lv_at hl 3 rfl) ?_
  refine lv_iconst (v := nI 0) hx hb dL_cell_1 (by decide) ?_
  refine lv_aload_n hx hb dL_cell_2 rfl (lv_at hl 0 rfl) ?_
  refine lv_iload_n hx hb dL_cell_3 rfl (lv_at hl 1 rfl) ?_
  refine lv_iload_n hx hb dL_cell_4 rfl (lv_at hl 2 rfl) ?_
  obtain ⟨r1, hr1⟩ : ∃ r : ((Int32 × Int32 × Int64 × Int64 × Int64) × (Nat → Nat) × (Nat → Nat) × (Nat → Int32) × Nat) × (Nat → Int32) × Nat, j_refr x y n st z rm rc = r := ⟨_, rfl⟩
  refine q_tV (en := q_IO) (wc' := [(c0, .inr (3, [.ref s0, .ref m0, .int 0])), (m0, .inr (1, [.ref s0, .ref g0, .ref ra, .ref sa, .ref oa, .int (nI r1.1.2.2.2.2), .ref ma, .int (nI r1.2.2)])), (g0, .inr (0, [.int r1.1.1.1, .int r1.1.1.2.1, .long r1.1.1.2.2.1, .long r1.1.1.2.2.2.1, .long r1.1.1.2.2.2.2])), (s0, .inr (2, [.ref xa, .ref ya, .int (nI n)])), (xa, .inl (cI, 20, .inl x)), (ya, .inl (cI, 20, .inl y)), (ra, .inl (cI, 105, .inl (fun j9 => nI (r1.1.2.1 j9)))), (sa, .inl (cI, 36, .inl (fun j9 => nI (r1.1.2.2.1 j9)))), (oa, .inl (cI, 400, .inl r1.1.2.2.2.1)), (ma, .inl (cI, 20, .inl r1.2.1))]) (wsN := [(c0, .inr (3, [.ref s0, .ref m0, .int 0])), (m0, .inr (1, [.ref s0, .ref g0, .ref ra, .ref sa, .ref oa, .int (nI r1.1.2.2.2.2), .ref ma, .int (nI r1.2.2)])), (g0, .inr (0, [.int r1.1.1.1, .int r1.1.1.2.1, .long r1.1.1.2.2.1, .long r1.1.1.2.2.2.1, .long r1.1.1.2.2.2.2])), (s0, .inr (2, [.ref xa, .ref ya, .int (nI n)])), (xa, .inl (cI, 20, .inl x)), (ya, .inl (cI, 20, .inl y)), (ra, .inl (cI, 105, .inl (fun j9 => nI (r1.1.2.1 j9)))), (sa, .inl (cI, 36, .inl (fun j9 => nI (r1.1.2.2.1 j9)))), (oa, .inl (cI, 400, .inl r1.1.2.2.2.1)), (ma, .inl (cI, 20, .inl r1.2.1)), (oj, .inl (cJ, 1, .inr (.inl ou)))]) (As := [.int (nI k), .int i]) (rest := [.int (nI 0), .ref oj]) ⟨hx, hb, hml, hown, hts⟩ (t2_X3_cell l hst9 dC dI c0 m0 s0 g0 ra sa oa ma xa ya cI x y st (by omega) rm rc n k i ln lr ls0 hst lk hi1 hi r1 hr1) (cwV 2 hts gL_cell_X3_cell rfl rfl rfl (by decide +kernel) ⟨Nat.le_of_ble_eq_true rfl, Nat.le_of_ble_eq_true rfl⟩) hE hK hP hD hS [0, 1, 2, 3, 4, 5, 6, 7, 8, 9] [0] 3 0 rfl rfl rfl rfl rfl rfl rfl rfl rfl hl.1 rfl (Nat.le_of_ble_eq_true rfl) ⟨Nat.le_of_ble_eq_true rfl, Nat.le_of_ble_eq_true rfl⟩ dL_cell_5 rfl (fun H locs q9 ce hP hD hS hq9 hcv hcl => ?_)
  rw [hr1] at hR
  subst hR
  refine q_catchL (h := 17) (fun hpl => ?_) hq9 hcv hcl ?_
  · rw [htab]
    exact q_pass (nm := q_NE) (x := ⟨0, 10, 13, 31⟩) hpl hown (by decide) (by decide) (hts (.classLink RL 31 "java/util/NoSuchElementException") (by decide +kernel)) hNc.2.1 hcl (q_hit (x := ⟨0, 10, 17, 33⟩) hpl hown (by decide) (by decide) (hts (.classLink RL 33 "java/lang/IndexOutOfBoundsException") (by decide +kernel)) (hE.2.2.1 _ (by decide)) hcl)
  refine lv_astore (lv' := [(4, .ref q9), (0, .ref c0), (1, .int (nI k)), (2, .int i), (3, .ref oj)]) hx hb dL_cell_17 hl (by decide) rfl (fun ls hl => ?_)
  refine lv_iconst (v := 2) hx hb dL_cell_19 (by decide) ?_
  exact W.iret (v := 2) hx hb hr (q_retm hP hS) hS.2.2 dL_cell_20
set_option maxHeartbeats 4000000 in
set_option maxRecDepth 100000 in
theorem lR_L_beside (l : Launch) (hst9 : l.stackTraces = false) (dC : Nat → ClassId) (dI : Nat → Nat → Nat) (c0 m0 s0 g0 ra sa oa ma xa ya : Nat) (cI : ClassId) (oj : Nat) (cJ : ClassId) (ou : Nat → Int64) (x y : Nat → Int32) (st : Int32) (z : (Int32 × Int32 × Int64 × Int64 × Int64) × (Nat → Nat) × (Nat → Nat) × (Nat → Int32) × Nat) (rm : Nat → Int32) (rc n : Nat) (k t : Nat) (ln : n ≤ 20) (lr : ∀ j, z.2.1 j < 20) (ls0 : z.2.2.1 0 = 0) (hst : j_st (j_refr x y n st z rm rc)) (lk : k < (j_refr x y n st z rm rc).1.2.2.2.2) (hi : t < (j_refr x y n st z rm rc).1.2.2.1 (k + 1) - (j_refr x y n st z rm rc).1.2.2.1 k) (R : ((Int32 × Int32 × Int64 × Int64 × Int64) × (Nat → Nat) × (Nat → Nat) × (Nat → Int32) × Nat) × (Nat → Int32) × Nat) (hR : j_refr x y n st z rm rc = R) : Met l yL_beside wsL_beside ({ frames := 8, cells := 1, slots := 6, locals := 159 }) (q_Py (dC, dI) [.ref c0, .int (nI k), .int (nI t), .ref oj] [(c0, .inr (3, [.ref s0, .ref m0, .int st])), (m0, .inr (1, [.ref s0, .ref g0, .ref ra, .ref sa, .ref oa, .int (nI z.2.2.2.2), .ref ma, .int (nI rc)])), (g0, .inr (0, [.int z.1.1, .int z.1.2.1, .long z.1.2.2.1, .long z.1.2.2.2.1, .long z.1.2.2.2.2])), (s0, .inr (2, [.ref xa, .ref ya, .int (nI n)])), (xa, .inl (cI, 20, .inl x)), (ya, .inl (cI, 20, .inl y)), (ra, .inl (cI, 105, .inl (fun j9 => nI (z.2.1 j9)))), (sa, .inl (cI, 36, .inl (fun j9 => nI (z.2.2.1 j9)))), (oa, .inl (cI, 400, .inl z.2.2.2.1)), (ma, .inl (cI, 20, .inl rm)), (oj, .inl (cJ, 1, .inr (.inl ou)))] [(cI, .int), (cJ, .long)]) (q_Qm (dC, dI) (q_in [(c0, .inr (3, [.ref s0, .ref m0, .int st])), (m0, .inr (1, [.ref s0, .ref g0, .ref ra, .ref sa, .ref oa, .int (nI z.2.2.2.2), .ref ma, .int (nI rc)])), (g0, .inr (0, [.int z.1.1, .int z.1.2.1, .long z.1.2.2.1, .long z.1.2.2.2.1, .long z.1.2.2.2.2])), (s0, .inr (2, [.ref xa, .ref ya, .int (nI n)])), (xa, .inl (cI, 20, .inl x)), (ya, .inl (cI, 20, .inl y)), (ra, .inl (cI, 105, .inl (fun j9 => nI (z.2.1 j9)))), (sa, .inl (cI, 36, .inl (fun j9 => nI (z.2.2.1 j9)))), (oa, .inl (cI, 400, .inl z.2.2.2.1)), (ma, .inl (cI, 20, .inl rm)), (oj, .inl (cJ, 1, .inr (.inl ou)))]) (some (.int 0)) [(c0, .inr (3, [.ref s0, .ref m0, .int 0])), (m0, .inr (1, [.ref s0, .ref g0, .ref ra, .ref sa, .ref oa, .int (nI R.1.2.2.2.2), .ref ma, .int (nI R.2.2)])), (g0, .inr (0, [.int R.1.1.1, .int R.1.1.2.1, .long R.1.1.2.2.1, .long R.1.1.2.2.2.1, .long R.1.1.2.2.2.2])), (s0, .inr (2, [.ref xa, .ref ya, .int (nI n)])), (xa, .inl (cI, 20, .inl x)), (ya, .inl (cI, 20, .inl y)), (ra, .inl (cI, 105, .inl (fun j9 => nI (R.1.2.1 j9)))), (sa, .inl (cI, 36, .inl (fun j9 => nI (R.1.2.2.1 j9)))), (oa, .inl (cI, 400, .inl R.1.2.2.2.1)), (ma, .inl (cI, 20, .inl R.2.1)), (oj, .inl (cJ, 1, .inr (.inl (vp_updL ou 0 ((j_besV (nI k) (nI t) R).toInt64)))))]) 1 6 (q_in [(c0, .inr (3, [.ref s0, .ref m0, .int st])), (m0, .inr (1, [.ref s0, .ref g0, .ref ra, .ref sa, .ref oa, .int (nI z.2.2.2.2), .ref ma, .int (nI rc)])), (g0, .inr (0, [.int z.1.1, .int z.1.2.1, .long z.1.2.2.1, .long z.1.2.2.2.1, .long z.1.2.2.2.2])), (s0, .inr (2, [.ref xa, .ref ya, .int (nI n)])), (xa, .inl (cI, 20, .inl x)), (ya, .inl (cI, 20, .inl y)), (ra, .inl (cI, 105, .inl (fun j9 => nI (z.2.1 j9)))), (sa, .inl (cI, 36, .inl (fun j9 => nI (z.2.2.1 j9)))), (oa, .inl (cI, 400, .inl z.2.2.2.1)), (ma, .inl (cI, 20, .inl rm)), (oj, .inl (cJ, 1, .inr (.inl ou)))]) := by
  refine va_MetW (cc := cL_beside) (maxL := 5) (ret := (some .int)) (hh := [(0, 10, 13, 31), (0, 10, 17, 33)]) (by decide) rfl ?_
  intro p e s m args below meth c s₁ B hml hv
  obtain ⟨rfl, hP, hK, hD0, hE, hNc⟩ := hv
  have hx := B.exec
  have hb := B.bytes
  have hr := B.returns
  have hts := atoms_spec (ws := wsL_beside) B.pre
  have hown : s.vm.findClass RL = some m.cls := findClass_of_methodNamed B.named
  have hlocks := B.notSynchronized
  have htab := vx_table (x := yL_beside) B (hts (.codeWith yL_beside cL_beside 5 (some .int) [(0, 10, 13, 31), (0, 10, 17, 33)]) List.mem_cons_self)
  have hD := q_inD hD0
  generalize hAe : q_in [(c0, .inr (3, [.ref s0, .ref m0, .int st])), (m0, .inr (1, [.ref s0, .ref g0, .ref ra, .ref sa, .ref oa, .int (nI z.2.2.2.2), .ref ma, .int (nI rc)])), (g0, .inr (0, [.int z.1.1, .int z.1.2.1, .long z.1.2.2.1, .long z.1.2.2.2.1, .long z.1.2.2.2.2])), (s0, .inr (2, [.ref xa, .ref ya, .int (nI n)])), (xa, .inl (cI, 20, .inl x)), (ya, .inl (cI, 20, .inl y)), (ra, .inl (cI, 105, .inl (fun j9 => nI (z.2.1 j9)))), (sa, .inl (cI, 36, .inl (fun j9 => nI (z.2.2.1 j9)))), (oa, .inl (cI, 400, .inl z.2.2.2.1)), (ma, .inl (cI, 20, .inl rm)), (oj, .inl (cJ, 1, .inr (.inl ou)))] = A at hD hE ⊢
  have hS : va_S A s.heap s.heap [] := va_S.rf
  have hP : va_P (dC, dI) vwCl [(c0, .inr (3, [.ref s0, .ref m0, .int st])), (m0, .inr (1, [.ref s0, .ref g0, .ref ra, .ref sa, .ref oa, .int (nI z.2.2.2.2), .ref ma, .int (nI rc)])), (g0, .inr (0, [.int z.1.1, .int z.1.2.1, .long z.1.2.2.1, .long z.1.2.2.2.1, .long z.1.2.2.2.2])), (s0, .inr (2, [.ref xa, .ref ya, .int (nI n)])), (xa, .inl (cI, 20, .inl x)), (ya, .inl (cI, 20, .inl y)), (ra, .inl (cI, 105, .inl (fun j9 => nI (z.2.1 j9)))), (sa, .inl (cI, 36, .inl (fun j9 => nI (z.2.2.1 j9)))), (oa, .inl (cI, 400, .inl z.2.2.2.1)), (ma, .inl (cI, 20, .inl rm)), (oj, .inl (cJ, 1, .inr (.inl ou)))] s.heap := hP
  have hl := lv_entry ([.ref c0, .int (nI k), .int (nI t), .ref oj]) (n := 5) (Nat.le_of_ble_eq_true rfl)
  rw [lg_entry_eq]
  generalize (lg_sl ([.ref c0, .int (nI k), .int (nI t), .ref oj]) ++ List.replicate (5 - (lg_sl ([.ref c0, .int (nI k), .int (nI t), .ref oj])).length) Slot.unset).toArray = ls at hl ⊢
  have hl : lv_has ls 5 [(0, .ref c0), (1, .int (nI k)), (2, .int (nI t)), (3, .ref oj)] := hl
  refine lv_aload_n hx hb dL_beside_0 rfl (lv_at hl 3 rfl) ?_
  refine lv_iconst (v := nI 0) hx hb dL_beside_1 (by decide) ?_
  refine lv_aload_n hx hb dL_beside_2 rfl (lv_at hl 0 rfl) ?_
  refine lv_iload_n hx hb dL_beside_3 rfl (lv_at hl 1 rfl) ?_
  refine lv_iload_n hx hb dL_beside_4 rfl (lv_at hl 2 rfl) ?_
  obtain ⟨r1, hr1⟩ : ∃ r : ((Int32 × Int32 × Int64 × Int64 × Int64) × (Nat → Nat) × (Nat → Nat) × (Nat → Int32) × Nat) × (Nat → Int32) × Nat, j_refr x y n st z rm rc = r := ⟨_, rfl⟩
  refine q_mV (wc' := [(c0, .inr (3, [.ref s0, .ref m0, .int 0])), (m0, .inr (1, [.ref s0, .ref g0, .ref ra, .ref sa, .ref oa, .int (nI r1.1.2.2.2.2), .ref ma, .int (nI r1.2.2)])), (g0, .inr (0, [.int r1.1.1.1, .int r1.1.1.2.1, .long r1.1.1.2.2.1, .long r1.1.1.2.2.2.1, .long r1.1.1.2.2.2.2])), (s0, .inr (2, [.ref xa, .ref ya, .int (nI n)])), (xa, .inl (cI, 20, .inl x)), (ya, .inl (cI, 20, .inl y)), (ra, .inl (cI, 105, .inl (fun j9 => nI (r1.1.2.1 j9)))), (sa, .inl (cI, 36, .inl (fun j9 => nI (r1.1.2.2.1 j9)))), (oa, .inl (cI, 400, .inl r1.1.2.2.2.1)), (ma, .inl (cI, 20, .inl r1.2.1))]) (wsN := [(c0, .inr (3, [.ref s0, .ref m0, .int 0])), (m0, .inr (1, [.ref s0, .ref g0, .ref ra, .ref sa, .ref oa, .int (nI r1.1.2.2.2.2), .ref ma, .int (nI r1.2.2)])), (g0, .inr (0, [.int r1.1.1.1, .int r1.1.1.2.1, .long r1.1.1.2.2.1, .long r1.1.1.2.2.2.1, .long r1.1.1.2.2.2.2])), (s0, .inr (2, [.ref xa, .ref ya, .int (nI n)])), (xa, .inl (cI, 20, .inl x)), (ya, .inl (cI, 20, .inl y)), (ra, .inl (cI, 105, .inl (fun j9 => nI (r1.1.2.1 j9)))), (sa, .inl (cI, 36, .inl (fun j9 => nI (r1.1.2.2.1 j9)))), (oa, .inl (cI, 400, .inl r1.1.2.2.2.1)), (ma, .inl (cI, 20, .inl r1.2.1)), (oj, .inl (cJ, 1, .inr (.inl ou)))]) (As := [.int (nI k), .int (nI t)]) (rest := [.int (nI 0), .ref oj]) ⟨hx, hb, hml, hown, hts⟩ (c_X3_beside l dC dI c0 m0 s0 g0 ra sa oa ma xa ya cI x y st (by omega) rm rc n k t ln lr ls0 hst lk hi r1 hr1) (cwV 2 hts gL_beside_X3_beside rfl rfl rfl (by decide +kernel) ⟨Nat.le_of_ble_eq_true rfl, Nat.le_of_ble_eq_true rfl⟩) hK hP hD hS [0, 1, 2, 3, 4, 5, 6, 7, 8, 9] [0] 3 0 rfl rfl rfl rfl rfl rfl rfl rfl rfl hl.1 rfl (Nat.le_of_ble_eq_true rfl) ⟨Nat.zero_le _, Nat.zero_le _⟩ dL_beside_5 rfl (fun H locs hP hD hS => ?_)
  refine W.eq (g2 := F0 m 8 ls [.int (j_besV (nI k) (nI t) r1), .int (nI 0), .ref oj]) rfl ?_
  rw [hr1] at hR
  subst hR
  refine lv_i2l (v := (j_besV (nI k) (nI t) r1).toInt64) hx hb dL_beside_8 rfl ?_
  refine q_last (ws' := [(c0, .inr (3, [.ref s0, .ref m0, .int 0])), (m0, .inr (1, [.ref s0, .ref g0, .ref ra, .ref sa, .ref oa, .int (nI r1.1.2.2.2.2), .ref ma, .int (nI r1.2.2)])), (g0, .inr (0, [.int r1.1.1.1, .int r1.1.1.2.1, .long r1.1.1.2.2.1, .long r1.1.1.2.2.2.1, .long r1.1.1.2.2.2.2])), (s0, .inr (2, [.ref xa, .ref ya, .int (nI n)])), (xa, .inl (cI, 20, .inl x)), (ya, .inl (cI, 20, .inl y)), (ra, .inl (cI, 105, .inl (fun j9 => nI (r1.1.2.1 j9)))), (sa, .inl (cI, 36, .inl (fun j9 => nI (r1.1.2.2.1 j9)))), (oa, .inl (cI, 400, .inl r1.1.2.2.2.1)), (ma, .inl (cI, 20, .inl r1.2.1)), (oj, .inl (cJ, 1, .inr (.inl (vp_updL ou 0 ((j_besV (nI k) (nI t) r1).toInt64)))))]) hx hb hK hP hD hS 10 1 rfl rfl (0) rfl (by omega) (by decide) dL_beside_9 rfl (fun H locs hP hD hS => ?_)
  refine lv_goto (tgt := 21) hx hb dL_beside_10 (by decide) ?_
  refine lv_iconst (v := 0) hx hb dL_beside_21 (by decide) ?_
  refine W.widen (k := 1) (n := 6) (Nat.zero_le _) (Nat.zero_le _) ?_
  exact W.iret (v := 0) hx hb hr (q_retm hP hS) hS.2.2 dL_beside_22
set_option maxHeartbeats 4000000 in
set_option maxRecDepth 100000 in
theorem l1_L_beside (l : Launch) (hst9 : l.stackTraces = false) (dC : Nat → ClassId) (dI : Nat → Nat → Nat) (c0 m0 s0 g0 ra sa oa ma xa ya : Nat) (cI : ClassId) (oj : Nat) (cJ : ClassId) (ou : Nat → Int64) (x y : Nat → Int32) (st : Int32) (z : (Int32 × Int32 × Int64 × Int64 × Int64) × (Nat → Nat) × (Nat → Nat) × (Nat → Int32) × Nat) (rm : Nat → Int32) (rc n : Nat) (w i : Int32) (ln : n ≤ 20) (lr : ∀ j, z.2.1 j < 20) (ls0 : z.2.2.1 0 = 0) (hf : r_out w (nI (j_refr x y n st z rm rc).1.2.2.2.2) = true) (R : ((Int32 × Int32 × Int64 × Int64 × Int64) × (Nat → Nat) × (Nat → Nat) × (Nat → Int32) × Nat) × (Nat → Int32) × Nat) (hR : j_refr x y n st z rm rc = R) : Met l yL_beside wsL_beside ({ frames := 8, cells := 1, slots := 6, locals := 159 }) (q_Py (dC, dI) [.ref c0, .int w, .int i, .ref oj] [(c0, .inr (3, [.ref s0, .ref m0, .int st])), (m0, .inr (1, [.ref s0, .ref g0, .ref ra, .ref sa, .ref oa, .int (nI z.2.2.2.2), .ref ma, .int (nI rc)])), (g0, .inr (0, [.int z.1.1, .int z.1.2.1, .long z.1.2.2.1, .long z.1.2.2.2.1, .long z.1.2.2.2.2])), (s0, .inr (2, [.ref xa, .ref ya, .int (nI n)])), (xa, .inl (cI, 20, .inl x)), (ya, .inl (cI, 20, .inl y)), (ra, .inl (cI, 105, .inl (fun j9 => nI (z.2.1 j9)))), (sa, .inl (cI, 36, .inl (fun j9 => nI (z.2.2.1 j9)))), (oa, .inl (cI, 400, .inl z.2.2.2.1)), (ma, .inl (cI, 20, .inl rm)), (oj, .inl (cJ, 1, .inr (.inl ou)))] [(cI, .int), (cJ, .long)]) (q_Qm (dC, dI) (q_in [(c0, .inr (3, [.ref s0, .ref m0, .int st])), (m0, .inr (1, [.ref s0, .ref g0, .ref ra, .ref sa, .ref oa, .int (nI z.2.2.2.2), .ref ma, .int (nI rc)])), (g0, .inr (0, [.int z.1.1, .int z.1.2.1, .long z.1.2.2.1, .long z.1.2.2.2.1, .long z.1.2.2.2.2])), (s0, .inr (2, [.ref xa, .ref ya, .int (nI n)])), (xa, .inl (cI, 20, .inl x)), (ya, .inl (cI, 20, .inl y)), (ra, .inl (cI, 105, .inl (fun j9 => nI (z.2.1 j9)))), (sa, .inl (cI, 36, .inl (fun j9 => nI (z.2.2.1 j9)))), (oa, .inl (cI, 400, .inl z.2.2.2.1)), (ma, .inl (cI, 20, .inl rm)), (oj, .inl (cJ, 1, .inr (.inl ou)))]) (some (.int 1)) [(c0, .inr (3, [.ref s0, .ref m0, .int 0])), (m0, .inr (1, [.ref s0, .ref g0, .ref ra, .ref sa, .ref oa, .int (nI R.1.2.2.2.2), .ref ma, .int (nI R.2.2)])), (g0, .inr (0, [.int R.1.1.1, .int R.1.1.2.1, .long R.1.1.2.2.1, .long R.1.1.2.2.2.1, .long R.1.1.2.2.2.2])), (s0, .inr (2, [.ref xa, .ref ya, .int (nI n)])), (xa, .inl (cI, 20, .inl x)), (ya, .inl (cI, 20, .inl y)), (ra, .inl (cI, 105, .inl (fun j9 => nI (R.1.2.1 j9)))), (sa, .inl (cI, 36, .inl (fun j9 => nI (R.1.2.2.1 j9)))), (oa, .inl (cI, 400, .inl R.1.2.2.2.1)), (ma, .inl (cI, 20, .inl R.2.1)), (oj, .inl (cJ, 1, .inr (.inl ou)))]) 1 6 (q_in [(c0, .inr (3, [.ref s0, .ref m0, .int st])), (m0, .inr (1, [.ref s0, .ref g0, .ref ra, .ref sa, .ref oa, .int (nI z.2.2.2.2), .ref ma, .int (nI rc)])), (g0, .inr (0, [.int z.1.1, .int z.1.2.1, .long z.1.2.2.1, .long z.1.2.2.2.1, .long z.1.2.2.2.2])), (s0, .inr (2, [.ref xa, .ref ya, .int (nI n)])), (xa, .inl (cI, 20, .inl x)), (ya, .inl (cI, 20, .inl y)), (ra, .inl (cI, 105, .inl (fun j9 => nI (z.2.1 j9)))), (sa, .inl (cI, 36, .inl (fun j9 => nI (z.2.2.1 j9)))), (oa, .inl (cI, 400, .inl z.2.2.2.1)), (ma, .inl (cI, 20, .inl rm)), (oj, .inl (cJ, 1, .inr (.inl ou)))]) := by
  refine va_MetW (cc := cL_beside) (maxL := 5) (ret := (some .int)) (hh := [(0, 10, 13, 31), (0, 10, 17, 33)]) (by decide) rfl ?_
  intro p e s m args below meth c s₁ B hml hv
  obtain ⟨rfl, hP, hK, hD0, hE, hNc⟩ := hv
  have hx := B.exec
  have hb := B.bytes
  have hr := B.returns
  have hts := atoms_spec (ws := wsL_beside) B.pre
  have hown : s.vm.findClass RL = some m.cls := findClass_of_methodNamed B.named
  have hlocks := B.notSynchronized
  have htab := vx_table (x := yL_beside) B (hts (.codeWith yL_beside cL_beside 5 (some .int) [(0, 10, 13, 31), (0, 10, 17, 33)]) List.mem_cons_self)
  have hD := q_inD hD0
  generalize hAe : q_in [(c0, .inr (3, [.ref s0, .ref m0, .int st])), (m0, .inr (1, [.ref s0, .ref g0, .ref ra, .ref sa, .ref oa, .int (nI z.2.2.2.2), .ref ma, .int (nI rc)])), (g0, .inr (0, [.int z.1.1, .int z.1.2.1, .long z.1.2.2.1, .long z.1.2.2.2.1, .long z.1.2.2.2.2])), (s0, .inr (2, [.ref xa, .ref ya, .int (nI n)])), (xa, .inl (cI, 20, .inl x)), (ya, .inl (cI, 20, .inl y)), (ra, .inl (cI, 105, .inl (fun j9 => nI (z.2.1 j9)))), (sa, .inl (cI, 36, .inl (fun j9 => nI (z.2.2.1 j9)))), (oa, .inl (cI, 400, .inl z.2.2.2.1)), (ma, .inl (cI, 20, .inl rm)), (oj, .inl (cJ, 1, .inr (.inl ou)))] = A at hD hE ⊢
  have hS : va_S A s.heap s.heap [] := va_S.rf
  have hP : va_P (dC, dI) vwCl [(c0, .inr (3, [.ref s0, .ref m0, .int st])), (m0, .inr (1, [.ref s0, .ref g0, .ref ra, .ref sa, .ref oa, .int (nI z.2.2.2.2), .ref ma, .int (nI rc)])), (g0, .inr (0, [.int z.1.1, .int z.1.2.1, .long z.1.2.2.1, .long z.1.2.2.2.1, .long z.1.2.2.2.2])), (s0, .inr (2, [.ref xa, .ref ya, .int (nI n)])), (xa, .inl (cI, 20, .inl x)), (ya, .inl (cI, 20, .inl y)), (ra, .inl (cI, 105, .inl (fun j9 => nI (z.2.1 j9)))), (sa, .inl (cI, 36, .inl (fun j9 => nI (z.2.2.1 j9)))), (oa, .inl (cI, 400, .inl z.2.2.2.1)), (ma, .inl (cI, 20, .inl rm)), (oj, .inl (cJ, 1, .inr (.inl ou)))] s.heap := hP
  have hl := lv_entry ([.ref c0, .int w, .int i, .ref oj]) (n := 5) (Nat.le_of_ble_eq_true rfl)
  rw [lg_entry_eq]
  generalize (lg_sl ([.ref c0, .int w, .int i, .ref oj]) ++ List.replicate (5 - (lg_sl ([.ref c0, .int w, .int i, .ref oj])).length) Slot.unset).toArray = ls at hl ⊢
  have hl : lv_has ls 5 [(0, .ref c0), (1, .int w), (2, .int i), (3, .ref oj)] := hl
  refine lv_aload_n hx hb dL_beside_0 rfl (lv_at hl 3 rfl) ?_
  refine lv_iconst (v := nI 0) hx hb dL_beside_1 (by decide) ?_
  refine lv_aload_n hx hb dL_beside_2 rfl (lv_at hl 0 rfl) ?_
  refine lv_iload_n hx hb dL_beside_3 rfl (lv_at hl 1 rfl) ?_
  refine lv_iload_n hx hb dL_beside_4 rfl (lv_at hl 2 rfl) ?_
  obtain ⟨r1, hr1⟩ : ∃ r : ((Int32 × Int32 × Int64 × Int64 × Int64) × (Nat → Nat) × (Nat → Nat) × (Nat → Int32) × Nat) × (Nat → Int32) × Nat, j_refr x y n st z rm rc = r := ⟨_, rfl⟩
  refine q_tV (en := q_NE) (wc' := [(c0, .inr (3, [.ref s0, .ref m0, .int 0])), (m0, .inr (1, [.ref s0, .ref g0, .ref ra, .ref sa, .ref oa, .int (nI r1.1.2.2.2.2), .ref ma, .int (nI r1.2.2)])), (g0, .inr (0, [.int r1.1.1.1, .int r1.1.1.2.1, .long r1.1.1.2.2.1, .long r1.1.1.2.2.2.1, .long r1.1.1.2.2.2.2])), (s0, .inr (2, [.ref xa, .ref ya, .int (nI n)])), (xa, .inl (cI, 20, .inl x)), (ya, .inl (cI, 20, .inl y)), (ra, .inl (cI, 105, .inl (fun j9 => nI (r1.1.2.1 j9)))), (sa, .inl (cI, 36, .inl (fun j9 => nI (r1.1.2.2.1 j9)))), (oa, .inl (cI, 400, .inl r1.1.2.2.2.1)), (ma, .inl (cI, 20, .inl r1.2.1))]) (wsN := [(c0, .inr (3, [.ref s0, .ref m0, .int 0])), (m0, .inr (1, [.ref s0, .ref g0, .ref ra, .ref sa, .ref oa, .int (nI r1.1.2.2.2.2), .ref ma, .int (nI r1.2.2)])), (g0, .inr (0, [.int r1.1.1.1, .int r1.1.1.2.1, .long r1.1.1.2.2.1, .long r1.1.1.2.2.2.1, .long r1.1.1.2.2.2.2])), (s0, .inr (2, [.ref xa, .ref ya, .int (nI n)])), (xa, .inl (cI, 20, .inl x)), (ya, .inl (cI, 20, .inl y)), (ra, .inl (cI, 105, .inl (fun j9 => nI (r1.1.2.1 j9)))), (sa, .inl (cI, 36, .inl (fun j9 => nI (r1.1.2.2.1 j9)))), (oa, .inl (cI, 400, .inl r1.1.2.2.2.1)), (ma, .inl (cI, 20, .inl r1.2.1)), (oj, .inl (cJ, 1, .inr (.inl ou)))]) (As := [.int w, .int i]) (rest := [.int (nI 0), .ref oj]) ⟨hx, hb, hml, hown, hts⟩ (t1_X3_beside l hst9 dC dI c0 m0 s0 g0 ra sa oa ma xa ya cI x y st (by omega) rm rc n w i ln lr ls0 hf r1 hr1) (cwV 2 hts gL_beside_X3_beside rfl rfl rfl (by decide +kernel) ⟨Nat.le_of_ble_eq_true rfl, Nat.le_of_ble_eq_true rfl⟩) hE hK hP hD hS [0, 1, 2, 3, 4, 5, 6, 7, 8, 9] [0] 3 0 rfl rfl rfl rfl rfl rfl rfl rfl rfl hl.1 rfl (Nat.le_of_ble_eq_true rfl) ⟨Nat.le_of_ble_eq_true rfl, Nat.le_of_ble_eq_true rfl⟩ dL_beside_5 rfl (fun H locs q9 ce hP hD hS hq9 hcv hcl => ?_)
  rw [hr1] at hR
  subst hR
  refine q_catchL (h := 13) (fun hpl => ?_) hq9 hcv hcl ?_
  · rw [htab]
    exact q_hit (x := ⟨0, 10, 13, 31⟩) hpl hown (by decide) (by decide) (hts (.classLink RL 31 "java/util/NoSuchElementException") (by decide +kernel)) (hE.2.2.1 _ (by decide)) hcl
  refine lv_astore (lv' := [(4, .ref q9), (0, .ref c0), (1, .int w), (2, .int i), (3, .ref oj)]) hx hb dL_beside_13 hl (by decide) rfl (fun ls hl => ?_)
  refine lv_iconst (v := 1) hx hb dL_beside_15 (by decide) ?_
  exact W.iret (v := 1) hx hb hr (q_retm hP hS) hS.2.2 dL_beside_16
set_option maxHeartbeats 4000000 in
set_option maxRecDepth 100000 in
theorem l2_L_beside (l : Launch) (hst9 : l.stackTraces = false) (dC : Nat → ClassId) (dI : Nat → Nat → Nat) (c0 m0 s0 g0 ra sa oa ma xa ya : Nat) (cI : ClassId) (oj : Nat) (cJ : ClassId) (ou : Nat → Int64) (x y : Nat → Int32) (st : Int32) (z : (Int32 × Int32 × Int64 × Int64 × Int64) × (Nat → Nat) × (Nat → Nat) × (Nat → Int32) × Nat) (rm : Nat → Int32) (rc n : Nat) (k : Nat) (i : Int32) (ln : n ≤ 20) (lr : ∀ j, z.2.1 j < 20) (ls0 : z.2.2.1 0 = 0) (hst : j_st (j_refr x y n st z rm rc)) (lk : k < (j_refr x y n st z rm rc).1.2.2.2.2) (hi : r_out i (nI ((j_refr x y n st z rm rc).1.2.2.1 (k + 1) - (j_refr x y n st z rm rc).1.2.2.1 k)) = true) (R : ((Int32 × Int32 × Int64 × Int64 × Int64) × (Nat → Nat) × (Nat → Nat) × (Nat → Int32) × Nat) × (Nat → Int32) × Nat) (hR : j_refr x y n st z rm rc = R) : Met l yL_beside wsL_beside ({ frames := 8, cells := 1, slots := 6, locals := 159 }) (q_Py (dC, dI) [.ref c0, .int (nI k), .int i, .ref oj] [(c0, .inr (3, [.ref s0, .ref m0, .int st])), (m0, .inr (1, [.ref s0, .ref g0, .ref ra, .ref sa, .ref oa, .int (nI z.2.2.2.2), .ref ma, .int (nI rc)])), (g0, .inr (0, [.int z.1.1, .int z.1.2.1, .long z.1.2.2.1, .long z.1.2.2.2.1, .long z.1.2.2.2.2])), (s0, .inr (2, [.ref xa, .ref ya, .int (nI n)])), (xa, .inl (cI, 20, .inl x)), (ya, .inl (cI, 20, .inl y)), (ra, .inl (cI, 105, .inl (fun j9 => nI (z.2.1 j9)))), (sa, .inl (cI, 36, .inl (fun j9 => nI (z.2.2.1 j9)))), (oa, .inl (cI, 400, .inl z.2.2.2.1)), (ma, .inl (cI, 20, .inl rm)), (oj, .inl (cJ, 1, .inr (.inl ou)))] [(cI, .int), (cJ, .long)]) (q_Qm (dC, dI) (q_in [(c0, .inr (3, [.ref s0, .ref m0, .int st])), (m0, .inr (1, [.ref s0, .ref g0, .ref ra, .ref sa, .ref oa, .int (nI z.2.2.2.2), .ref ma, .int (nI rc)])), (g0, .inr (0, [.int z.1.1, .int z.1.2.1, .long z.1.2.2.1, .long z.1.2.2.2.1, .long z.1.2.2.2.2])), (s0, .inr (2, [.ref xa, .ref ya, .int (nI n)])), (xa, .inl (cI, 20, .inl x)), (ya, .inl (cI, 20, .inl y)), (ra, .inl (cI, 105, .inl (fun j9 => nI (z.2.1 j9)))), (sa, .inl (cI, 36, .inl (fun j9 => nI (z.2.2.1 j9)))), (oa, .inl (cI, 400, .inl z.2.2.2.1)), (ma, .inl (cI, 20, .inl rm)), (oj, .inl (cJ, 1, .inr (.inl ou)))]) (some (.int 2)) [(c0, .inr (3, [.ref s0, .ref m0, .int 0])), (m0, .inr (1, [.ref s0, .ref g0, .ref ra, .ref sa, .ref oa, .int (nI R.1.2.2.2.2), .ref ma, .int (nI R.2.2)])), (g0, .inr (0, [.int R.1.1.1, .int R.1.1.2.1, .long R.1.1.2.2.1, .long R.1.1.2.2.2.1, .long R.1.1.2.2.2.2])), (s0, .inr (2, [.ref xa, .ref ya, .int (nI n)])), (xa, .inl (cI, 20, .inl x)), (ya, .inl (cI, 20, .inl y)), (ra, .inl (cI, 105, .inl (fun j9 => nI (R.1.2.1 j9)))), (sa, .inl (cI, 36, .inl (fun j9 => nI (R.1.2.2.1 j9)))), (oa, .inl (cI, 400, .inl R.1.2.2.2.1)), (ma, .inl (cI, 20, .inl R.2.1)), (oj, .inl (cJ, 1, .inr (.inl ou)))]) 1 6 (q_in [(c0, .inr (3, [.ref s0, .ref m0, .int st])), (m0, .inr (1, [.ref s0, .ref g0, .ref ra, .ref sa, .ref oa, .int (nI z.2.2.2.2), .ref ma, .int (nI rc)])), (g0, .inr (0, [.int z.1.1, .int z.1.2.1, .long z.1.2.2.1, .long z.1.2.2.2.1, .long z.1.2.2.2.2])), (s0, .inr (2, [.ref xa, .ref ya, .int (nI n)])), (xa, .inl (cI, 20, .inl x)), (ya, .inl (cI, 20, .inl y)), (ra, .inl (cI, 105, .inl (fun j9 => nI (z.2.1 j9)))), (sa, .inl (cI, 36, .inl (fun j9 => nI (z.2.2.1 j9)))), (oa, .inl (cI, 400, .inl z.2.2.2.1)), (ma, .inl (cI, 20, .inl rm)), (oj, .inl (cJ, 1, .inr (.inl ou)))]) := by
  refine va_MetW (cc := cL_beside) (maxL := 5) (ret := (some .int)) (hh := [(0, 10, 13, 31), (0, 10, 17, 33)]) (by decide) rfl ?_
  intro p e s m args below meth c s₁ B hml hv
  obtain ⟨rfl, hP, hK, hD0, hE, hNc⟩ := hv
  have hx := B.exec
  have hb := B.bytes
  have hr := B.returns
  have hts := atoms_spec (ws := wsL_beside) B.pre
  have hown : s.vm.findClass RL = some m.cls := findClass_of_methodNamed B.named
  have hlocks := B.notSynchronized
  have htab := vx_table (x := yL_beside) B (hts (.codeWith yL_beside cL_beside 5 (some .int) [(0, 10, 13, 31), (0, 10, 17, 33)]) List.mem_cons_self)
  have hD := q_inD hD0
  generalize hAe : q_in [(c0, .inr (3, [.ref s0, .ref m0, .int st])), (m0, .inr (1, [.ref s0, .ref g0, .ref ra, .ref sa, .ref oa, .int (nI z.2.2.2.2), .ref ma, .int (nI rc)])), (g0, .inr (0, [.int z.1.1, .int z.1.2.1, .long z.1.2.2.1, .long z.1.2.2.2.1, .long z.1.2.2.2.2])), (s0, .inr (2, [.ref xa, .ref ya, .int (nI n)])), (xa, .inl (cI, 20, .inl x)), (ya, .inl (cI, 20, .inl y)), (ra, .inl (cI, 105, .inl (fun j9 => nI (z.2.1 j9)))), (sa, .inl (cI, 36, .inl (fun j9 => nI (z.2.2.1 j9)))), (oa, .inl (cI, 400, .inl z.2.2.2.1)), (ma, .inl (cI, 20, .inl rm)), (oj, .inl (cJ, 1, .inr (.inl ou)))] = A at hD hE ⊢
  have hS : va_S A s.heap s.heap [] := va_S.rf
  have hP : va_P (dC, dI) vwCl [(c0, .inr (3, [.ref s0, .ref m0, .int st])), (m0, .inr (1, [.ref s0, .ref g0, .ref ra, .ref sa, .ref oa, .int (nI z.2.2.2.2), .ref ma, .int (nI rc)])), (g0, .inr (0, [.int z.1.1, .int z.1.2.1, .long z.1.2.2.1, .long z.1.2.2.2.1, .long z.1.2.2.2.2])), (s0, .inr (2, [.ref xa, .ref ya, .int (nI n)])), (xa, .inl (cI, 20, .inl x)), (ya, .inl (cI, 20, .inl y)), (ra, .inl (cI, 105, .inl (fun j9 => nI (z.2.1 j9)))), (sa, .inl (cI, 36, .inl (fun j9 => nI (z.2.2.1 j9)))), (oa, .inl (cI, 400, .inl z.2.2.2.1)), (ma, .inl (cI, 20, .inl rm)), (oj, .inl (cJ, 1, .inr (.inl ou)))] s.heap := hP
  have hl := lv_entry ([.ref c0, .int (nI k), .int i, .ref oj]) (n := 5) (Nat.le_of_ble_eq_true rfl)
  rw [lg_entry_eq]
  generalize (lg_sl ([.ref c0, .int (nI k), .int i, .ref oj]) ++ List.replicate (5 - (lg_sl ([.ref c0, .int (nI k), .int i, .ref oj])).length) Slot.unset).toArray = ls at hl ⊢
  have hl : lv_has ls 5 [(0, .ref c0), (1, .int (nI k)), (2, .int i), (3, .ref oj)] := hl
  refine lv_aload_n hx hb dL_beside_0 rfl (lv_at hl 3 rfl) ?_
  refine lv_iconst (v := nI 0) hx hb dL_beside_1 (by decide) ?_
  refine lv_aload_n hx hb dL_beside_2 rfl (lv_at hl 0 rfl) ?_
  refine lv_iload_n hx hb dL_beside_3 rfl (lv_at hl 1 rfl) ?_
  refine lv_iload_n hx hb dL_beside_4 rfl (lv_at hl 2 rfl) ?_
  obtain ⟨r1, hr1⟩ : ∃ r : ((Int32 × Int32 × Int64 × Int64 × Int64) × (Nat → Nat) × (Nat → Nat) × (Nat → Int32) × Nat) × (Nat → Int32) × Nat, j_refr x y n st z rm rc = r := ⟨_, rfl⟩
  refine q_tV (en := q_IO) (wc' := [(c0, .inr (3, [.ref s0, .ref m0, .int 0])), (m0, .inr (1, [.ref s0, .ref g0, .ref ra, .ref sa, .ref oa, .int (nI r1.1.2.2.2.2), .ref ma, .int (nI r1.2.2)])), (g0, .inr (0, [.int r1.1.1.1, .int r1.1.1.2.1, .long r1.1.1.2.2.1, .long r1.1.1.2.2.2.1, .long r1.1.1.2.2.2.2])), (s0, .inr (2, [.ref xa, .ref ya, .int (nI n)])), (xa, .inl (cI, 20, .inl x)), (ya, .inl (cI, 20, .inl y)), (ra, .inl (cI, 105, .inl (fun j9 => nI (r1.1.2.1 j9)))), (sa, .inl (cI, 36, .inl (fun j9 => nI (r1.1.2.2.1 j9)))), (oa, .inl (cI, 400, .inl r1.1.2.2.2.1)), (ma, .inl (cI, 20, .inl r1.2.1))]) (wsN := [(c0, .inr (3, [.ref s0, .ref m0, .int 0])), (m0, .inr (1, [.ref s0, .ref g0, .ref ra, .ref sa, .ref oa, .int (nI r1.1.2.2.2.2), .ref ma, .int (nI r1.2.2)])), (g0, .inr (0, [.int r1.1.1.1, .int r1.1.1.2.1, .long r1.1.1.2.2.1, .long r1.1.1.2.2.2.1, .long r1.1.1.2.2.2.2])), (s0, .inr (2, [.ref xa, .ref ya, .int (nI n)])), (xa, .inl (cI, 20, .inl x)), (ya, .inl (cI, 20, .inl y)), (ra, .inl (cI, 105, .inl (fun j9 => nI (r1.1.2.1 j9)))), (sa, .inl (cI, 36, .inl (fun j9 => nI (r1.1.2.2.1 j9)))), (oa, .inl (cI, 400, .inl r1.1.2.2.2.1)), (ma, .inl (cI, 20, .inl r1.2.1)), (oj, .inl (cJ, 1, .inr (.inl ou)))]) (As := [.int (nI k), .int i]) (rest := [.int (nI 0), .ref oj]) ⟨hx, hb, hml, hown, hts⟩ (t2_X3_beside l hst9 dC dI c0 m0 s0 g0 ra sa oa ma xa ya cI x y st (by omega) rm rc n k i ln lr ls0 hst lk hi r1 hr1) (cwV 2 hts gL_beside_X3_beside rfl rfl rfl (by decide +kernel) ⟨Nat.le_of_ble_eq_true rfl, Nat.le_of_ble_eq_true rfl⟩) hE hK hP hD hS [0, 1, 2, 3, 4, 5, 6, 7, 8, 9] [0] 3 0 rfl rfl rfl rfl rfl rfl rfl rfl rfl hl.1 rfl (Nat.le_of_ble_eq_true rfl) ⟨Nat.le_of_ble_eq_true rfl, Nat.le_of_ble_eq_true rfl⟩ dL_beside_5 rfl (fun H locs q9 ce hP hD hS hq9 hcv hcl => ?_)
  rw [hr1] at hR
  subst hR
  refine q_catchL (h := 17) (fun hpl => ?_) hq9 hcv hcl ?_
  · rw [htab]
    exact q_pass (nm := q_NE) (x := ⟨0, 10, 13, 31⟩) hpl hown (by decide) (by decide) (hts (.classLink RL 31 "java/util/NoSuchElementException") (by decide +kernel)) hNc.2.1 hcl (q_hit (x := ⟨0, 10, 17, 33⟩) hpl hown (by decide) (by decide) (hts (.classLink RL 33 "java/lang/IndexOutOfBoundsException") (by decide +kernel)) (hE.2.2.1 _ (by decide)) hcl)
  refine lv_astore (lv' := [(4, .ref q9), (0, .ref c0), (1, .int (nI k)), (2, .int i), (3, .ref oj)]) hx hb dL_beside_17 hl (by decide) rfl (fun ls hl => ?_)
  refine lv_iconst (v := 2) hx hb dL_beside_19 (by decide) ?_
  exact W.iret (v := 2) hx hb hr (q_retm hP hS) hS.2.2 dL_beside_20
set_option maxHeartbeats 4000000 in
set_option maxRecDepth 100000 in
theorem lR_L_hull (l : Launch) (hst9 : l.stackTraces = false) (dC : Nat → ClassId) (dI : Nat → Nat → Nat) (c0 m0 s0 g0 ra sa oa ma xa ya : Nat) (cI : ClassId) (oj : Nat) (cJ : ClassId) (ou : Nat → Int64) (x y : Nat → Int32) (st : Int32) (z : (Int32 × Int32 × Int64 × Int64 × Int64) × (Nat → Nat) × (Nat → Nat) × (Nat → Int32) × Nat) (rm : Nat → Int32) (rc n : Nat) (i : Int32) (ln : n ≤ 20) (lr : ∀ j, z.2.1 j < 20) (ls0 : z.2.2.1 0 = 0) (hst : j_st (j_refr x y n st z rm rc)) (hi : i = -1 ∨ r_out i (nI (j_refr x y n st z rm rc).2.2) = false) (R : ((Int32 × Int32 × Int64 × Int64 × Int64) × (Nat → Nat) × (Nat → Nat) × (Nat → Int32) × Nat) × (Nat → Int32) × Nat) (hR : j_refr x y n st z rm rc = R) : Met l yL_hull wsL_hull ({ frames := 8, cells := 1, slots := 6, locals := 158 }) (q_Py (dC, dI) [.ref c0, .int i, .ref oj] [(c0, .inr (3, [.ref s0, .ref m0, .int st])), (m0, .inr (1, [.ref s0, .ref g0, .ref ra, .ref sa, .ref oa, .int (nI z.2.2.2.2), .ref ma, .int (nI rc)])), (g0, .inr (0, [.int z.1.1, .int z.1.2.1, .long z.1.2.2.1, .long z.1.2.2.2.1, .long z.1.2.2.2.2])), (s0, .inr (2, [.ref xa, .ref ya, .int (nI n)])), (xa, .inl (cI, 20, .inl x)), (ya, .inl (cI, 20, .inl y)), (ra, .inl (cI, 105, .inl (fun j9 => nI (z.2.1 j9)))), (sa, .inl (cI, 36, .inl (fun j9 => nI (z.2.2.1 j9)))), (oa, .inl (cI, 400, .inl z.2.2.2.1)), (ma, .inl (cI, 20, .inl rm)), (oj, .inl (cJ, 1, .inr (.inl ou)))] [(cI, .int), (cJ, .long)]) (q_Qm (dC, dI) (q_in [(c0, .inr (3, [.ref s0, .ref m0, .int st])), (m0, .inr (1, [.ref s0, .ref g0, .ref ra, .ref sa, .ref oa, .int (nI z.2.2.2.2), .ref ma, .int (nI rc)])), (g0, .inr (0, [.int z.1.1, .int z.1.2.1, .long z.1.2.2.1, .long z.1.2.2.2.1, .long z.1.2.2.2.2])), (s0, .inr (2, [.ref xa, .ref ya, .int (nI n)])), (xa, .inl (cI, 20, .inl x)), (ya, .inl (cI, 20, .inl y)), (ra, .inl (cI, 105, .inl (fun j9 => nI (z.2.1 j9)))), (sa, .inl (cI, 36, .inl (fun j9 => nI (z.2.2.1 j9)))), (oa, .inl (cI, 400, .inl z.2.2.2.1)), (ma, .inl (cI, 20, .inl rm)), (oj, .inl (cJ, 1, .inr (.inl ou)))]) (some (.int 0)) [(c0, .inr (3, [.ref s0, .ref m0, .int 0])), (m0, .inr (1, [.ref s0, .ref g0, .ref ra, .ref sa, .ref oa, .int (nI R.1.2.2.2.2), .ref ma, .int (nI R.2.2)])), (g0, .inr (0, [.int R.1.1.1, .int R.1.1.2.1, .long R.1.1.2.2.1, .long R.1.1.2.2.2.1, .long R.1.1.2.2.2.2])), (s0, .inr (2, [.ref xa, .ref ya, .int (nI n)])), (xa, .inl (cI, 20, .inl x)), (ya, .inl (cI, 20, .inl y)), (ra, .inl (cI, 105, .inl (fun j9 => nI (R.1.2.1 j9)))), (sa, .inl (cI, 36, .inl (fun j9 => nI (R.1.2.2.1 j9)))), (oa, .inl (cI, 400, .inl R.1.2.2.2.1)), (ma, .inl (cI, 20, .inl R.2.1)), (oj, .inl (cJ, 1, .inr (.inl (vp_updL ou 0 ((j_hulV i R).toInt64)))))]) 1 6 (q_in [(c0, .inr (3, [.ref s0, .ref m0, .int st])), (m0, .inr (1, [.ref s0, .ref g0, .ref ra, .ref sa, .ref oa, .int (nI z.2.2.2.2), .ref ma, .int (nI rc)])), (g0, .inr (0, [.int z.1.1, .int z.1.2.1, .long z.1.2.2.1, .long z.1.2.2.2.1, .long z.1.2.2.2.2])), (s0, .inr (2, [.ref xa, .ref ya, .int (nI n)])), (xa, .inl (cI, 20, .inl x)), (ya, .inl (cI, 20, .inl y)), (ra, .inl (cI, 105, .inl (fun j9 => nI (z.2.1 j9)))), (sa, .inl (cI, 36, .inl (fun j9 => nI (z.2.2.1 j9)))), (oa, .inl (cI, 400, .inl z.2.2.2.1)), (ma, .inl (cI, 20, .inl rm)), (oj, .inl (cJ, 1, .inr (.inl ou)))]) := by
  refine va_MetW (cc := cL_hull) (maxL := 4) (ret := (some .int)) (hh := [(0, 9, 12, 33)]) (by decide) rfl ?_
  intro p e s m args below meth c s₁ B hml hv
  obtain ⟨rfl, hP, hK, hD0, hE, hNc⟩ := hv
  have hx := B.exec
  have hb := B.bytes
  have hr := B.returns
  have hts := atoms_spec (ws := wsL_hull) B.pre
  have hown : s.vm.findClass RL = some m.cls := findClass_of_methodNamed B.named
  have hlocks := B.notSynchronized
  have htab := vx_table (x := yL_hull) B (hts (.codeWith yL_hull cL_hull 4 (some .int) [(0, 9, 12, 33)]) List.mem_cons_self)
  have hD := q_inD hD0
  generalize hAe : q_in [(c0, .inr (3, [.ref s0, .ref m0, .int st])), (m0, .inr (1, [.ref s0, .ref g0, .ref ra, .ref sa, .ref oa, .int (nI z.2.2.2.2), .ref ma, .int (nI rc)])), (g0, .inr (0, [.int z.1.1, .int z.1.2.1, .long z.1.2.2.1, .long z.1.2.2.2.1, .long z.1.2.2.2.2])), (s0, .inr (2, [.ref xa, .ref ya, .int (nI n)])), (xa, .inl (cI, 20, .inl x)), (ya, .inl (cI, 20, .inl y)), (ra, .inl (cI, 105, .inl (fun j9 => nI (z.2.1 j9)))), (sa, .inl (cI, 36, .inl (fun j9 => nI (z.2.2.1 j9)))), (oa, .inl (cI, 400, .inl z.2.2.2.1)), (ma, .inl (cI, 20, .inl rm)), (oj, .inl (cJ, 1, .inr (.inl ou)))] = A at hD hE ⊢
  have hS : va_S A s.heap s.heap [] := va_S.rf
  have hP : va_P (dC, dI) vwCl [(c0, .inr (3, [.ref s0, .ref m0, .int st])), (m0, .inr (1, [.ref s0, .ref g0, .ref ra, .ref sa, .ref oa, .int (nI z.2.2.2.2), .ref ma, .int (nI rc)])), (g0, .inr (0, [.int z.1.1, .int z.1.2.1, .long z.1.2.2.1, .long z.1.2.2.2.1, .long z.1.2.2.2.2])), (s0, .inr (2, [.ref xa, .ref ya, .int (nI n)])), (xa, .inl (cI, 20, .inl x)), (ya, .inl (cI, 20, .inl y)), (ra, .inl (cI, 105, .inl (fun j9 => nI (z.2.1 j9)))), (sa, .inl (cI, 36, .inl (fun j9 => nI (z.2.2.1 j9)))), (oa, .inl (cI, 400, .inl z.2.2.2.1)), (ma, .inl (cI, 20, .inl rm)), (oj, .inl (cJ, 1, .inr (.inl ou)))] s.heap := hP
  have hl := lv_entry ([.ref c0, .int i, .ref oj]) (n := 4) (Nat.le_of_ble_eq_true rfl)
  rw [lg_entry_eq]
  generalize (lg_sl ([.ref c0, .int i, .ref oj]) ++ List.replicate (4 - (lg_sl ([.ref c0, .int i, .ref oj])).length) Slot.unset).toArray = ls at hl ⊢
  have hl : lv_has ls 4 [(0, .ref c0), (1, .int i), (2, .ref oj)] := hl
  refine lv_aload_n hx hb dL_hull_0 rfl (lv_at hl 2 rfl) ?_
  refine lv_iconst (v := nI 0) hx hb dL_hull_1 (by decide) ?_
  refine lv_aload_n hx hb dL_hull_2 rfl (lv_at hl 0 rfl) ?_
  refine lv_iload_n hx hb dL_hull_3 rfl (lv_at hl 1 rfl) ?_
  obtain ⟨r1, hr1⟩ : ∃ r : ((Int32 × Int32 × Int64 × Int64 × Int64) × (Nat → Nat) × (Nat → Nat) × (Nat → Int32) × Nat) × (Nat → Int32) × Nat, j_refr x y n st z rm rc = r := ⟨_, rfl⟩
  refine q_mV (wc' := [(c0, .inr (3, [.ref s0, .ref m0, .int 0])), (m0, .inr (1, [.ref s0, .ref g0, .ref ra, .ref sa, .ref oa, .int (nI r1.1.2.2.2.2), .ref ma, .int (nI r1.2.2)])), (g0, .inr (0, [.int r1.1.1.1, .int r1.1.1.2.1, .long r1.1.1.2.2.1, .long r1.1.1.2.2.2.1, .long r1.1.1.2.2.2.2])), (s0, .inr (2, [.ref xa, .ref ya, .int (nI n)])), (xa, .inl (cI, 20, .inl x)), (ya, .inl (cI, 20, .inl y)), (ra, .inl (cI, 105, .inl (fun j9 => nI (r1.1.2.1 j9)))), (sa, .inl (cI, 36, .inl (fun j9 => nI (r1.1.2.2.1 j9)))), (oa, .inl (cI, 400, .inl r1.1.2.2.2.1)), (ma, .inl (cI, 20, .inl r1.2.1))]) (wsN := [(c0, .inr (3, [.ref s0, .ref m0, .int 0])), (m0, .inr (1, [.ref s0, .ref g0, .ref ra, .ref sa, .ref oa, .int (nI r1.1.2.2.2.2), .ref ma, .int (nI r1.2.2)])), (g0, .inr (0, [.int r1.1.1.1, .int r1.1.1.2.1, .long r1.1.1.2.2.1, .long r1.1.1.2.2.2.1, .long r1.1.1.2.2.2.2])), (s0, .inr (2, [.ref xa, .ref ya, .int (nI n)])), (xa, .inl (cI, 20, .inl x)), (ya, .inl (cI, 20, .inl y)), (ra, .inl (cI, 105, .inl (fun j9 => nI (r1.1.2.1 j9)))), (sa, .inl (cI, 36, .inl (fun j9 => nI (r1.1.2.2.1 j9)))), (oa, .inl (cI, 400, .inl r1.1.2.2.2.1)), (ma, .inl (cI, 20, .inl r1.2.1)), (oj, .inl (cJ, 1, .inr (.inl ou)))]) (As := [.int i]) (rest := [.int (nI 0), .ref oj]) ⟨hx, hb, hml, hown, hts⟩ (c_X3_hull l dC dI c0 m0 s0 g0 ra sa oa ma xa ya cI x y st (by omega) rm rc n i ln lr ls0 hst hi r1 hr1) (cwV 1 hts gL_hull_X3_hull rfl rfl rfl (by decide +kernel) ⟨Nat.le_of_ble_eq_true rfl, Nat.le_of_ble_eq_true rfl⟩) hK hP hD hS [0, 1, 2, 3, 4, 5, 6, 7, 8, 9] [0] 3 0 rfl rfl rfl rfl rfl rfl rfl rfl rfl hl.1 rfl (Nat.le_of_ble_eq_true rfl) ⟨Nat.zero_le _, Nat.zero_le _⟩ dL_hull_4 rfl (fun H locs hP hD hS => ?_)
  refine W.eq (g2 := F0 m 7 ls [.int (j_hulV i r1), .int (nI 0), .ref oj]) rfl ?_
  rw [hr1] at hR
  subst hR
  refine lv_i2l (v := (j_hulV i r1).toInt64) hx hb dL_hull_7 rfl ?_
  refine q_last (ws' := [(c0, .inr (3, [.ref s0, .ref m0, .int 0])), (m0, .inr (1, [.ref s0, .ref g0, .ref ra, .ref sa, .ref oa, .int (nI r1.1.2.2.2.2), .ref ma, .int (nI r1.2.2)])), (g0, .inr (0, [.int r1.1.1.1, .int r1.1.1.2.1, .long r1.1.1.2.2.1, .long r1.1.1.2.2.2.1, .long r1.1.1.2.2.2.2])), (s0, .inr (2, [.ref xa, .ref ya, .int (nI n)])), (xa, .inl (cI, 20, .inl x)), (ya, .inl (cI, 20, .inl y)), (ra, .inl (cI, 105, .inl (fun j9 => nI (r1.1.2.1 j9)))), (sa, .inl (cI, 36, .inl (fun j9 => nI (r1.1.2.2.1 j9)))), (oa, .inl (cI, 400, .inl r1.1.2.2.2.1)), (ma, .inl (cI, 20, .inl r1.2.1)), (oj, .inl (cJ, 1, .inr (.inl (vp_updL ou 0 ((j_hulV i r1).toInt64)))))]) hx hb hK hP hD hS 10 1 rfl rfl (0) rfl (by omega) (by decide) dL_hull_8 rfl (fun H locs hP hD hS => ?_)
  refine lv_goto (tgt := 15) hx hb dL_hull_9 (by decide) ?_
  refine lv_iconst (v := 0) hx hb dL_hull_15 (by decide) ?_
  refine W.widen (k := 1) (n := 6) (Nat.zero_le _) (Nat.zero_le _) ?_
  exact W.iret (v := 0) hx hb hr (q_retm hP hS) hS.2.2 dL_hull_16
set_option maxHeartbeats 4000000 in
set_option maxRecDepth 100000 in
theorem l1_L_hull (l : Launch) (hst9 : l.stackTraces = false) (dC : Nat → ClassId) (dI : Nat → Nat → Nat) (c0 m0 s0 g0 ra sa oa ma xa ya : Nat) (cI : ClassId) (oj : Nat) (cJ : ClassId) (ou : Nat → Int64) (x y : Nat → Int32) (st : Int32) (z : (Int32 × Int32 × Int64 × Int64 × Int64) × (Nat → Nat) × (Nat → Nat) × (Nat → Int32) × Nat) (rm : Nat → Int32) (rc n : Nat) (i : Int32) (ln : n ≤ 20) (lr : ∀ j, z.2.1 j < 20) (ls0 : z.2.2.1 0 = 0) (hi1 : ¬ i = -1) (hi : r_out i (nI (j_refr x y n st z rm rc).2.2) = true) (R : ((Int32 × Int32 × Int64 × Int64 × Int64) × (Nat → Nat) × (Nat → Nat) × (Nat → Int32) × Nat) × (Nat → Int32) × Nat) (hR : j_refr x y n st z rm rc = R) : Met l yL_hull wsL_hull ({ frames := 8, cells := 1, slots := 6, locals := 158 }) (q_Py (dC, dI) [.ref c0, .int i, .ref oj] [(c0, .inr (3, [.ref s0, .ref m0, .int st])), (m0, .inr (1, [.ref s0, .ref g0, .ref ra, .ref sa, .ref oa, .int (nI z.2.2.2.2), .ref ma, .int (nI rc)])), (g0, .inr (0, [.int z.1.1, .int z.1.2.1, .long z.1.2.2.1, .long z.1.2.2.2.1, .long z.1.2.2.2.2])), (s0, .inr (2, [.ref xa, .ref ya, .int (nI n)])), (xa, .inl (cI, 20, .inl x)), (ya, .inl (cI, 20, .inl y)), (ra, .inl (cI, 105, .inl (fun j9 => nI (z.2.1 j9)))), (sa, .inl (cI, 36, .inl (fun j9 => nI (z.2.2.1 j9)))), (oa, .inl (cI, 400, .inl z.2.2.2.1)), (ma, .inl (cI, 20, .inl rm)), (oj, .inl (cJ, 1, .inr (.inl ou)))] [(cI, .int), (cJ, .long)]) (q_Qm (dC, dI) (q_in [(c0, .inr (3, [.ref s0, .ref m0, .int st])), (m0, .inr (1, [.ref s0, .ref g0, .ref ra, .ref sa, .ref oa, .int (nI z.2.2.2.2), .ref ma, .int (nI rc)])), (g0, .inr (0, [.int z.1.1, .int z.1.2.1, .long z.1.2.2.1, .long z.1.2.2.2.1, .long z.1.2.2.2.2])), (s0, .inr (2, [.ref xa, .ref ya, .int (nI n)])), (xa, .inl (cI, 20, .inl x)), (ya, .inl (cI, 20, .inl y)), (ra, .inl (cI, 105, .inl (fun j9 => nI (z.2.1 j9)))), (sa, .inl (cI, 36, .inl (fun j9 => nI (z.2.2.1 j9)))), (oa, .inl (cI, 400, .inl z.2.2.2.1)), (ma, .inl (cI, 20, .inl rm)), (oj, .inl (cJ, 1, .inr (.inl ou)))]) (some (.int 1)) [(c0, .inr (3, [.ref s0, .ref m0, .int 0])), (m0, .inr (1, [.ref s0, .ref g0, .ref ra, .ref sa, .ref oa, .int (nI R.1.2.2.2.2), .ref ma, .int (nI R.2.2)])), (g0, .inr (0, [.int R.1.1.1, .int R.1.1.2.1, .long R.1.1.2.2.1, .long R.1.1.2.2.2.1, .long R.1.1.2.2.2.2])), (s0, .inr (2, [.ref xa, .ref ya, .int (nI n)])), (xa, .inl (cI, 20, .inl x)), (ya, .inl (cI, 20, .inl y)), (ra, .inl (cI, 105, .inl (fun j9 => nI (R.1.2.1 j9)))), (sa, .inl (cI, 36, .inl (fun j9 => nI (R.1.2.2.1 j9)))), (oa, .inl (cI, 400, .inl R.1.2.2.2.1)), (ma, .inl (cI, 20, .inl R.2.1)), (oj, .inl (cJ, 1, .inr (.inl ou)))]) 1 6 (q_in [(c0, .inr (3, [.ref s0, .ref m0, .int st])), (m0, .inr (1, [.ref s0, .ref g0, .ref ra, .ref sa, .ref oa, .int (nI z.2.2.2.2), .ref ma, .int (nI rc)])), (g0, .inr (0, [.int z.1.1, .int z.1.2.1, .long z.1.2.2.1, .long z.1.2.2.2.1, .long z.1.2.2.2.2])), (s0, .inr (2, [.ref xa, .ref ya, .int (nI n)])), (xa, .inl (cI, 20, .inl x)), (ya, .inl (cI, 20, .inl y)), (ra, .inl (cI, 105, .inl (fun j9 => nI (z.2.1 j9)))), (sa, .inl (cI, 36, .inl (fun j9 => nI (z.2.2.1 j9)))), (oa, .inl (cI, 400, .inl z.2.2.2.1)), (ma, .inl (cI, 20, .inl rm)), (oj, .inl (cJ, 1, .inr (.inl ou)))]) := by
  refine va_MetW (cc := cL_hull) (maxL := 4) (ret := (some .int)) (hh := [(0, 9, 12, 33)]) (by decide) rfl ?_
  intro p e s m args below meth c s₁ B hml hv
  obtain ⟨rfl, hP, hK, hD0, hE, hNc⟩ := hv
  have hx := B.exec
  have hb := B.bytes
  have hr := B.returns
  have hts := atoms_spec (ws := wsL_hull) B.pre
  have hown : s.vm.findClass RL = some m.cls := findClass_of_methodNamed B.named
  have hlocks := B.notSynchronized
  have htab := vx_table (x := yL_hull) B (hts (.codeWith yL_hull cL_hull 4 (some .int) [(0, 9, 12, 33)]) List.mem_cons_self)
  have hD := q_inD hD0
  generalize hAe : q_in [(c0, .inr (3, [.ref s0, .ref m0, .int st])), (m0, .inr (1, [.ref s0, .ref g0, .ref ra, .ref sa, .ref oa, .int (nI z.2.2.2.2), .ref ma, .int (nI rc)])), (g0, .inr (0, [.int z.1.1, .int z.1.2.1, .long z.1.2.2.1, .long z.1.2.2.2.1, .long z.1.2.2.2.2])), (s0, .inr (2, [.ref xa, .ref ya, .int (nI n)])), (xa, .inl (cI, 20, .inl x)), (ya, .inl (cI, 20, .inl y)), (ra, .inl (cI, 105, .inl (fun j9 => nI (z.2.1 j9)))), (sa, .inl (cI, 36, .inl (fun j9 => nI (z.2.2.1 j9)))), (oa, .inl (cI, 400, .inl z.2.2.2.1)), (ma, .inl (cI, 20, .inl rm)), (oj, .inl (cJ, 1, .inr (.inl ou)))] = A at hD hE ⊢
  have hS : va_S A s.heap s.heap [] := va_S.rf
  have hP : va_P (dC, dI) vwCl [(c0, .inr (3, [.ref s0, .ref m0, .int st])), (m0, .inr (1, [.ref s0, .ref g0, .ref ra, .ref sa, .ref oa, .int (nI z.2.2.2.2), .ref ma, .int (nI rc)])), (g0, .inr (0, [.int z.1.1, .int z.1.2.1, .long z.1.2.2.1, .long z.1.2.2.2.1, .long z.1.2.2.2.2])), (s0, .inr (2, [.ref xa, .ref ya, .int (nI n)])), (xa, .inl (cI, 20, .inl x)), (ya, .inl (cI, 20, .inl y)), (ra, .inl (cI, 105, .inl (fun j9 => nI (z.2.1 j9)))), (sa, .inl (cI, 36, .inl (fun j9 => nI (z.2.2.1 j9)))), (oa, .inl (cI, 400, .inl z.2.2.2.1)), (ma, .inl (cI, 20, .inl rm)), (oj, .inl (cJ, 1, .inr (.inl ou)))] s.heap := hP
  have hl := lv_entry ([.ref c0, .int i, .ref oj]) (n := 4) (Nat.le_of_ble_eq_true rfl)
  rw [lg_entry_eq]
  generalize (lg_sl ([.ref c0, .int i, .ref oj]) ++ List.replicate (4 - (lg_sl ([.ref c0, .int i, .ref oj])).length) Slot.unset).toArray = ls at hl ⊢
  have hl : lv_has ls 4 [(0, .ref c0), (1, .int i), (2, .ref oj)] := hl
  refine lv_aload_n hx hb dL_hull_0 rfl (lv_at hl 2 rfl) ?_
  refine lv_iconst (v := nI 0) hx hb dL_hull_1 (by decide) ?_
  refine lv_aload_n hx hb dL_hull_2 rfl (lv_at hl 0 rfl) ?_
  refine lv_iload_n hx hb dL_hull_3 rfl (lv_at hl 1 rfl) ?_
  obtain ⟨r1, hr1⟩ : ∃ r : ((Int32 × Int32 × Int64 × Int64 × Int64) × (Nat → Nat) × (Nat → Nat) × (Nat → Int32) × Nat) × (Nat → Int32) × Nat, j_refr x y n st z rm rc = r := ⟨_, rfl⟩
  refine q_tV (en := q_IO) (wc' := [(c0, .inr (3, [.ref s0, .ref m0, .int 0])), (m0, .inr (1, [.ref s0, .ref g0, .ref ra, .ref sa, .ref oa, .int (nI r1.1.2.2.2.2), .ref ma, .int (nI r1.2.2)])), (g0, .inr (0, [.int r1.1.1.1, .int r1.1.1.2.1, .long r1.1.1.2.2.1, .long r1.1.1.2.2.2.1, .long r1.1.1.2.2.2.2])), (s0, .inr (2, [.ref xa, .ref ya, .int (nI n)])), (xa, .inl (cI, 20, .inl x)), (ya, .inl (cI, 20, .inl y)), (ra, .inl (cI, 105, .inl (fun j9 => nI (r1.1.2.1 j9)))), (sa, .inl (cI, 36, .inl (fun j9 => nI (r1.1.2.2.1 j9)))), (oa, .inl (cI, 400, .inl r1.1.2.2.2.1)), (ma, .inl (cI, 20, .inl r1.2.1))]) (wsN := [(c0, .inr (3, [.ref s0, .ref m0, .int 0])), (m0, .inr (1, [.ref s0, .ref g0, .ref ra, .ref sa, .ref oa, .int (nI r1.1.2.2.2.2), .ref ma, .int (nI r1.2.2)])), (g0, .inr (0, [.int r1.1.1.1, .int r1.1.1.2.1, .long r1.1.1.2.2.1, .long r1.1.1.2.2.2.1, .long r1.1.1.2.2.2.2])), (s0, .inr (2, [.ref xa, .ref ya, .int (nI n)])), (xa, .inl (cI, 20, .inl x)), (ya, .inl (cI, 20, .inl y)), (ra, .inl (cI, 105, .inl (fun j9 => nI (r1.1.2.1 j9)))), (sa, .inl (cI, 36, .inl (fun j9 => nI (r1.1.2.2.1 j9)))), (oa, .inl (cI, 400, .inl r1.1.2.2.2.1)), (ma, .inl (cI, 20, .inl r1.2.1)), (oj, .inl (cJ, 1, .inr (.inl ou)))]) (As := [.int i]) (rest := [.int (nI 0), .ref oj]) ⟨hx, hb, hml, hown, hts⟩ (t1_X3_hull l hst9 dC dI c0 m0 s0 g0 ra sa oa ma xa ya cI x y st (by omega) rm rc n i ln lr ls0 hi1 hi r1 hr1) (cwV 1 hts gL_hull_X3_hull rfl rfl rfl (by decide +kernel) ⟨Nat.le_of_ble_eq_true rfl, Nat.le_of_ble_eq_true rfl⟩) hE hK hP hD hS [0, 1, 2, 3, 4, 5, 6, 7, 8, 9] [0] 3 0 rfl rfl rfl rfl rfl rfl rfl rfl rfl hl.1 rfl (Nat.le_of_ble_eq_true rfl) ⟨Nat.le_of_ble_eq_true rfl, Nat.le_of_ble_eq_true rfl⟩ dL_hull_4 rfl (fun H locs q9 ce hP hD hS hq9 hcv hcl => ?_)
  rw [hr1] at hR
  subst hR
  refine q_catchL (h := 12) (fun hpl => ?_) hq9 hcv hcl ?_
  · rw [htab]
    exact q_hit (x := ⟨0, 9, 12, 33⟩) hpl hown (by decide) (by decide) (hts (.classLink RL 33 "java/lang/IndexOutOfBoundsException") (by decide +kernel)) (hE.2.2.1 _ (by decide)) hcl
  refine lv_astore_n (lv' := [(3, .ref q9), (0, .ref c0), (1, .int i), (2, .ref oj)]) hx hb dL_hull_12 rfl hl (by decide) rfl (fun ls hl => ?_)
  refine lv_iconst (v := 1) hx hb dL_hull_13 (by decide) ?_
  exact W.iret (v := 1) hx hb hr (q_retm hP hS) hS.2.2 dL_hull_14
set_option maxHeartbeats 4000000 in
set_option maxRecDepth 100000 in
theorem lR_L_around (l : Launch) (hst9 : l.stackTraces = false) (dC : Nat → ClassId) (dI : Nat → Nat → Nat) (c0 m0 s0 g0 ra sa oa ma xa ya : Nat) (cI : ClassId) (oj : Nat) (cJ : ClassId) (ou : Nat → Int64) (x y : Nat → Int32) (st : Int32) (z : (Int32 × Int32 × Int64 × Int64 × Int64) × (Nat → Nat) × (Nat → Nat) × (Nat → Int32) × Nat) (rm : Nat → Int32) (rc n : Nat) (px py : Int32) (ln : n ≤ 20) (lr : ∀ j, z.2.1 j < 20) (ls0 : z.2.2.1 0 = 0) (hst : j_st (j_refr x y n st z rm rc)) (hf : r_far px py = false) (R : ((Int32 × Int32 × Int64 × Int64 × Int64) × (Nat → Nat) × (Nat → Nat) × (Nat → Int32) × Nat) × (Nat → Int32) × Nat) (hR : j_refr x y n st z rm rc = R) : Met l yL_around wsL_around ({ frames := 8, cells := 1, slots := 6, locals := 159 }) (q_Py (dC, dI) [.ref c0, .int px, .int py, .ref oj] [(c0, .inr (3, [.ref s0, .ref m0, .int st])), (m0, .inr (1, [.ref s0, .ref g0, .ref ra, .ref sa, .ref oa, .int (nI z.2.2.2.2), .ref ma, .int (nI rc)])), (g0, .inr (0, [.int z.1.1, .int z.1.2.1, .long z.1.2.2.1, .long z.1.2.2.2.1, .long z.1.2.2.2.2])), (s0, .inr (2, [.ref xa, .ref ya, .int (nI n)])), (xa, .inl (cI, 20, .inl x)), (ya, .inl (cI, 20, .inl y)), (ra, .inl (cI, 105, .inl (fun j9 => nI (z.2.1 j9)))), (sa, .inl (cI, 36, .inl (fun j9 => nI (z.2.2.1 j9)))), (oa, .inl (cI, 400, .inl z.2.2.2.1)), (ma, .inl (cI, 20, .inl rm)), (oj, .inl (cJ, 1, .inr (.inl ou)))] [(cI, .int), (cJ, .long)]) (q_Qm (dC, dI) (q_in [(c0, .inr (3, [.ref s0, .ref m0, .int st])), (m0, .inr (1, [.ref s0, .ref g0, .ref ra, .ref sa, .ref oa, .int (nI z.2.2.2.2), .ref ma, .int (nI rc)])), (g0, .inr (0, [.int z.1.1, .int z.1.2.1, .long z.1.2.2.1, .long z.1.2.2.2.1, .long z.1.2.2.2.2])), (s0, .inr (2, [.ref xa, .ref ya, .int (nI n)])), (xa, .inl (cI, 20, .inl x)), (ya, .inl (cI, 20, .inl y)), (ra, .inl (cI, 105, .inl (fun j9 => nI (z.2.1 j9)))), (sa, .inl (cI, 36, .inl (fun j9 => nI (z.2.2.1 j9)))), (oa, .inl (cI, 400, .inl z.2.2.2.1)), (ma, .inl (cI, 20, .inl rm)), (oj, .inl (cJ, 1, .inr (.inl ou)))]) (some (.int 0)) [(c0, .inr (3, [.ref s0, .ref m0, .int 0])), (m0, .inr (1, [.ref s0, .ref g0, .ref ra, .ref sa, .ref oa, .int (nI R.1.2.2.2.2), .ref ma, .int (nI R.2.2)])), (g0, .inr (0, [.int R.1.1.1, .int R.1.1.2.1, .long R.1.1.2.2.1, .long R.1.1.2.2.2.1, .long R.1.1.2.2.2.2])), (s0, .inr (2, [.ref xa, .ref ya, .int (nI n)])), (xa, .inl (cI, 20, .inl x)), (ya, .inl (cI, 20, .inl y)), (ra, .inl (cI, 105, .inl (fun j9 => nI (R.1.2.1 j9)))), (sa, .inl (cI, 36, .inl (fun j9 => nI (R.1.2.2.1 j9)))), (oa, .inl (cI, 400, .inl R.1.2.2.2.1)), (ma, .inl (cI, 20, .inl R.2.1)), (oj, .inl (cJ, 1, .inr (.inl (vp_updL ou 0 ((j_first x y R.1.2.1 R.1.2.2.1 R.1.2.2.2.2 px py 0).toInt64)))))]) 1 6 (q_in [(c0, .inr (3, [.ref s0, .ref m0, .int st])), (m0, .inr (1, [.ref s0, .ref g0, .ref ra, .ref sa, .ref oa, .int (nI z.2.2.2.2), .ref ma, .int (nI rc)])), (g0, .inr (0, [.int z.1.1, .int z.1.2.1, .long z.1.2.2.1, .long z.1.2.2.2.1, .long z.1.2.2.2.2])), (s0, .inr (2, [.ref xa, .ref ya, .int (nI n)])), (xa, .inl (cI, 20, .inl x)), (ya, .inl (cI, 20, .inl y)), (ra, .inl (cI, 105, .inl (fun j9 => nI (z.2.1 j9)))), (sa, .inl (cI, 36, .inl (fun j9 => nI (z.2.2.1 j9)))), (oa, .inl (cI, 400, .inl z.2.2.2.1)), (ma, .inl (cI, 20, .inl rm)), (oj, .inl (cJ, 1, .inr (.inl ou)))]) := by
  refine va_MetW (cc := cL_around) (maxL := 5) (ret := (some .int)) (hh := [(0, 10, 13, 13)]) (by decide) rfl ?_
  intro p e s m args below meth c s₁ B hml hv
  obtain ⟨rfl, hP, hK, hD0, hE, hNc⟩ := hv
  have hx := B.exec
  have hb := B.bytes
  have hr := B.returns
  have hts := atoms_spec (ws := wsL_around) B.pre
  have hown : s.vm.findClass RL = some m.cls := findClass_of_methodNamed B.named
  have hlocks := B.notSynchronized
  have htab := vx_table (x := yL_around) B (hts (.codeWith yL_around cL_around 5 (some .int) [(0, 10, 13, 13)]) List.mem_cons_self)
  have hD := q_inD hD0
  generalize hAe : q_in [(c0, .inr (3, [.ref s0, .ref m0, .int st])), (m0, .inr (1, [.ref s0, .ref g0, .ref ra, .ref sa, .ref oa, .int (nI z.2.2.2.2), .ref ma, .int (nI rc)])), (g0, .inr (0, [.int z.1.1, .int z.1.2.1, .long z.1.2.2.1, .long z.1.2.2.2.1, .long z.1.2.2.2.2])), (s0, .inr (2, [.ref xa, .ref ya, .int (nI n)])), (xa, .inl (cI, 20, .inl x)), (ya, .inl (cI, 20, .inl y)), (ra, .inl (cI, 105, .inl (fun j9 => nI (z.2.1 j9)))), (sa, .inl (cI, 36, .inl (fun j9 => nI (z.2.2.1 j9)))), (oa, .inl (cI, 400, .inl z.2.2.2.1)), (ma, .inl (cI, 20, .inl rm)), (oj, .inl (cJ, 1, .inr (.inl ou)))] = A at hD hE ⊢
  have hS : va_S A s.heap s.heap [] := va_S.rf
  have hP : va_P (dC, dI) vwCl [(c0, .inr (3, [.ref s0, .ref m0, .int st])), (m0, .inr (1, [.ref s0, .ref g0, .ref ra, .ref sa, .ref oa, .int (nI z.2.2.2.2), .ref ma, .int (nI rc)])), (g0, .inr (0, [.int z.1.1, .int z.1.2.1, .long z.1.2.2.1, .long z.1.2.2.2.1, .long z.1.2.2.2.2])), (s0, .inr (2, [.ref xa, .ref ya, .int (nI n)])), (xa, .inl (cI, 20, .inl x)), (ya, .inl (cI, 20, .inl y)), (ra, .inl (cI, 105, .inl (fun j9 => nI (z.2.1 j9)))), (sa, .inl (cI, 36, .inl (fun j9 => nI (z.2.2.1 j9)))), (oa, .inl (cI, 400, .inl z.2.2.2.1)), (ma, .inl (cI, 20, .inl rm)), (oj, .inl (cJ, 1, .inr (.inl ou)))] s.heap := hP
  have hl := lv_entry ([.ref c0, .int px, .int py, .ref oj]) (n := 5) (Nat.le_of_ble_eq_true rfl)
  rw [lg_entry_eq]
  generalize (lg_sl ([.ref c0, .int px, .int py, .ref oj]) ++ List.replicate (5 - (lg_sl ([.ref c0, .int px, .int py, .ref oj])).length) Slot.unset).toArray = ls at hl ⊢
  have hl : lv_has ls 5 [(0, .ref c0), (1, .int px), (2, .int py), (3, .ref oj)] := hl
  refine lv_aload_n hx hb dL_around_0 rfl (lv_at hl 3 rfl) ?_
  refine lv_iconst (v := nI 0) hx hb dL_around_1 (by decide) ?_
  refine lv_aload_n hx hb dL_around_2 rfl (lv_at hl 0 rfl) ?_
  refine lv_iload_n hx hb dL_around_3 rfl (lv_at hl 1 rfl) ?_
  refine lv_iload_n hx hb dL_around_4 rfl (lv_at hl 2 rfl) ?_
  obtain ⟨r1, hr1⟩ : ∃ r : ((Int32 × Int32 × Int64 × Int64 × Int64) × (Nat → Nat) × (Nat → Nat) × (Nat → Int32) × Nat) × (Nat → Int32) × Nat, j_refr x y n st z rm rc = r := ⟨_, rfl⟩
  refine q_mV (wc' := [(c0, .inr (3, [.ref s0, .ref m0, .int 0])), (m0, .inr (1, [.ref s0, .ref g0, .ref ra, .ref sa, .ref oa, .int (nI r1.1.2.2.2.2), .ref ma, .int (nI r1.2.2)])), (g0, .inr (0, [.int r1.1.1.1, .int r1.1.1.2.1, .long r1.1.1.2.2.1, .long r1.1.1.2.2.2.1, .long r1.1.1.2.2.2.2])), (s0, .inr (2, [.ref xa, .ref ya, .int (nI n)])), (xa, .inl (cI, 20, .inl x)), (ya, .inl (cI, 20, .inl y)), (ra, .inl (cI, 105, .inl (fun j9 => nI (r1.1.2.1 j9)))), (sa, .inl (cI, 36, .inl (fun j9 => nI (r1.1.2.2.1 j9)))), (oa, .inl (cI, 400, .inl r1.1.2.2.2.1)), (ma, .inl (cI, 20, .inl r1.2.1))]) (wsN := [(c0, .inr (3, [.ref s0, .ref m0, .int 0])), (m0, .inr (1, [.ref s0, .ref g0, .ref ra, .ref sa, .ref oa, .int (nI r1.1.2.2.2.2), .ref ma, .int (nI r1.2.2)])), (g0, .inr (0, [.int r1.1.1.1, .int r1.1.1.2.1, .long r1.1.1.2.2.1, .long r1.1.1.2.2.2.1, .long r1.1.1.2.2.2.2])), (s0, .inr (2, [.ref xa, .ref ya, .int (nI n)])), (xa, .inl (cI, 20, .inl x)), (ya, .inl (cI, 20, .inl y)), (ra, .inl (cI, 105, .inl (fun j9 => nI (r1.1.2.1 j9)))), (sa, .inl (cI, 36, .inl (fun j9 => nI (r1.1.2.2.1 j9)))), (oa, .inl (cI, 400, .inl r1.1.2.2.2.1)), (ma, .inl (cI, 20, .inl r1.2.1)), (oj, .inl (cJ, 1, .inr (.inl ou)))]) (As := [.int px, .int py]) (rest := [.int (nI 0), .ref oj]) ⟨hx, hb, hml, hown, hts⟩ (c_X3_around l dC dI c0 m0 s0 g0 ra sa oa ma xa ya cI x y st (by omega) rm rc n px py ln lr ls0 hst hf r1 hr1) (cwV 2 hts gL_around_X3_around rfl rfl rfl (by decide +kernel) ⟨Nat.le_of_ble_eq_true rfl, Nat.le_of_ble_eq_true rfl⟩) hK hP hD hS [0, 1, 2, 3, 4, 5, 6, 7, 8, 9] [0] 3 0 rfl rfl rfl rfl rfl rfl rfl rfl rfl hl.1 rfl (Nat.le_of_ble_eq_true rfl) ⟨Nat.zero_le _, Nat.zero_le _⟩ dL_around_5 rfl (fun H locs hP hD hS => ?_)
  refine W.eq (g2 := F0 m 8 ls [.int (j_first x y r1.1.2.1 r1.1.2.2.1 r1.1.2.2.2.2 px py 0), .int (nI 0), .ref oj]) rfl ?_
  rw [hr1] at hR
  subst hR
  refine lv_i2l (v := (j_first x y r1.1.2.1 r1.1.2.2.1 r1.1.2.2.2.2 px py 0).toInt64) hx hb dL_around_8 rfl ?_
  refine q_last (ws' := [(c0, .inr (3, [.ref s0, .ref m0, .int 0])), (m0, .inr (1, [.ref s0, .ref g0, .ref ra, .ref sa, .ref oa, .int (nI r1.1.2.2.2.2), .ref ma, .int (nI r1.2.2)])), (g0, .inr (0, [.int r1.1.1.1, .int r1.1.1.2.1, .long r1.1.1.2.2.1, .long r1.1.1.2.2.2.1, .long r1.1.1.2.2.2.2])), (s0, .inr (2, [.ref xa, .ref ya, .int (nI n)])), (xa, .inl (cI, 20, .inl x)), (ya, .inl (cI, 20, .inl y)), (ra, .inl (cI, 105, .inl (fun j9 => nI (r1.1.2.1 j9)))), (sa, .inl (cI, 36, .inl (fun j9 => nI (r1.1.2.2.1 j9)))), (oa, .inl (cI, 400, .inl r1.1.2.2.2.1)), (ma, .inl (cI, 20, .inl r1.2.1)), (oj, .inl (cJ, 1, .inr (.inl (vp_updL ou 0 ((j_first x y r1.1.2.1 r1.1.2.2.1 r1.1.2.2.2.2 px py 0).toInt64)))))]) hx hb hK hP hD hS 10 1 rfl rfl (0) rfl (by omega) (by decide) dL_around_9 rfl (fun H locs hP hD hS => ?_)
  refine lv_goto (tgt := 17) hx hb dL_around_10 (by decide) ?_
  refine lv_iconst (v := 0) hx hb dL_around_17 (by decide) ?_
  refine W.widen (k := 1) (n := 6) (Nat.zero_le _) (Nat.zero_le _) ?_
  exact W.iret (v := 0) hx hb hr (q_retm hP hS) hS.2.2 dL_around_18
set_option maxHeartbeats 4000000 in
set_option maxRecDepth 100000 in
theorem l1_L_around (l : Launch) (hst9 : l.stackTraces = false) (dC : Nat → ClassId) (dI : Nat → Nat → Nat) (c0 m0 s0 g0 ra sa oa ma xa ya : Nat) (cI : ClassId) (oj : Nat) (cJ : ClassId) (ou : Nat → Int64) (x y : Nat → Int32) (st : Int32) (z : (Int32 × Int32 × Int64 × Int64 × Int64) × (Nat → Nat) × (Nat → Nat) × (Nat → Int32) × Nat) (rm : Nat → Int32) (rc n : Nat) (px py : Int32) (hf : r_far px py = true) : Met l yL_around wsL_around ({ frames := 8, cells := 1, slots := 6, locals := 159 }) (q_Py (dC, dI) [.ref c0, .int px, .int py, .ref oj] [(c0, .inr (3, [.ref s0, .ref m0, .int st])), (m0, .inr (1, [.ref s0, .ref g0, .ref ra, .ref sa, .ref oa, .int (nI z.2.2.2.2), .ref ma, .int (nI rc)])), (g0, .inr (0, [.int z.1.1, .int z.1.2.1, .long z.1.2.2.1, .long z.1.2.2.2.1, .long z.1.2.2.2.2])), (s0, .inr (2, [.ref xa, .ref ya, .int (nI n)])), (xa, .inl (cI, 20, .inl x)), (ya, .inl (cI, 20, .inl y)), (ra, .inl (cI, 105, .inl (fun j9 => nI (z.2.1 j9)))), (sa, .inl (cI, 36, .inl (fun j9 => nI (z.2.2.1 j9)))), (oa, .inl (cI, 400, .inl z.2.2.2.1)), (ma, .inl (cI, 20, .inl rm)), (oj, .inl (cJ, 1, .inr (.inl ou)))] [(cI, .int), (cJ, .long)]) (q_Qm (dC, dI) (q_in [(c0, .inr (3, [.ref s0, .ref m0, .int st])), (m0, .inr (1, [.ref s0, .ref g0, .ref ra, .ref sa, .ref oa, .int (nI z.2.2.2.2), .ref ma, .int (nI rc)])), (g0, .inr (0, [.int z.1.1, .int z.1.2.1, .long z.1.2.2.1, .long z.1.2.2.2.1, .long z.1.2.2.2.2])), (s0, .inr (2, [.ref xa, .ref ya, .int (nI n)])), (xa, .inl (cI, 20, .inl x)), (ya, .inl (cI, 20, .inl y)), (ra, .inl (cI, 105, .inl (fun j9 => nI (z.2.1 j9)))), (sa, .inl (cI, 36, .inl (fun j9 => nI (z.2.2.1 j9)))), (oa, .inl (cI, 400, .inl z.2.2.2.1)), (ma, .inl (cI, 20, .inl rm)), (oj, .inl (cJ, 1, .inr (.inl ou)))]) (some (.int 1)) [(c0, .inr (3, [.ref s0, .ref m0, .int st])), (m0, .inr (1, [.ref s0, .ref g0, .ref ra, .ref sa, .ref oa, .int (nI z.2.2.2.2), .ref ma, .int (nI rc)])), (g0, .inr (0, [.int z.1.1, .int z.1.2.1, .long z.1.2.2.1, .long z.1.2.2.2.1, .long z.1.2.2.2.2])), (s0, .inr (2, [.ref xa, .ref ya, .int (nI n)])), (xa, .inl (cI, 20, .inl x)), (ya, .inl (cI, 20, .inl y)), (ra, .inl (cI, 105, .inl (fun j9 => nI (z.2.1 j9)))), (sa, .inl (cI, 36, .inl (fun j9 => nI (z.2.2.1 j9)))), (oa, .inl (cI, 400, .inl z.2.2.2.1)), (ma, .inl (cI, 20, .inl rm)), (oj, .inl (cJ, 1, .inr (.inl ou)))]) 1 6 (q_in [(c0, .inr (3, [.ref s0, .ref m0, .int st])), (m0, .inr (1, [.ref s0, .ref g0, .ref ra, .ref sa, .ref oa, .int (nI z.2.2.2.2), .ref ma, .int (nI rc)])), (g0, .inr (0, [.int z.1.1, .int z.1.2.1, .long z.1.2.2.1, .long z.1.2.2.2.1, .long z.1.2.2.2.2])), (s0, .inr (2, [.ref xa, .ref ya, .int (nI n)])), (xa, .inl (cI, 20, .inl x)), (ya, .inl (cI, 20, .inl y)), (ra, .inl (cI, 105, .inl (fun j9 => nI (z.2.1 j9)))), (sa, .inl (cI, 36, .inl (fun j9 => nI (z.2.2.1 j9)))), (oa, .inl (cI, 400, .inl z.2.2.2.1)), (ma, .inl (cI, 20, .inl rm)), (oj, .inl (cJ, 1, .inr (.inl ou)))]) := by
  refine va_MetW (cc := cL_around) (maxL := 5) (ret := (some .int)) (hh := [(0, 10, 13, 13)]) (by decide) rfl ?_
  intro p e s m args below meth c s₁ B hml hv
  obtain ⟨rfl, hP, hK, hD0, hE, hNc⟩ := hv
  have hx := B.exec
  have hb := B.bytes
  have hr := B.returns
  have hts := atoms_spec (ws := wsL_around) B.pre
  have hown : s.vm.findClass RL = some m.cls := findClass_of_methodNamed B.named
  have hlocks := B.notSynchronized
  have htab := vx_table (x := yL_around) B (hts (.codeWith yL_around cL_around 5 (some .int) [(0, 10, 13, 13)]) List.mem_cons_self)
  have hD := q_inD hD0
  generalize hAe : q_in [(c0, .inr (3, [.ref s0, .ref m0, .int st])), (m0, .inr (1, [.ref s0, .ref g0, .ref ra, .ref sa, .ref oa, .int (nI z.2.2.2.2), .ref ma, .int (nI rc)])), (g0, .inr (0, [.int z.1.1, .int z.1.2.1, .long z.1.2.2.1, .long z.1.2.2.2.1, .long z.1.2.2.2.2])), (s0, .inr (2, [.ref xa, .ref ya, .int (nI n)])), (xa, .inl (cI, 20, .inl x)), (ya, .inl (cI, 20, .inl y)), (ra, .inl (cI, 105, .inl (fun j9 => nI (z.2.1 j9)))), (sa, .inl (cI, 36, .inl (fun j9 => nI (z.2.2.1 j9)))), (oa, .inl (cI, 400, .inl z.2.2.2.1)), (ma, .inl (cI, 20, .inl rm)), (oj, .inl (cJ, 1, .inr (.inl ou)))] = A at hD hE ⊢
  have hS : va_S A s.heap s.heap [] := va_S.rf
  have hP : va_P (dC, dI) vwCl [(c0, .inr (3, [.ref s0, .ref m0, .int st])), (m0, .inr (1, [.ref s0, .ref g0, .ref ra, .ref sa, .ref oa, .int (nI z.2.2.2.2), .ref ma, .int (nI rc)])), (g0, .inr (0, [.int z.1.1, .int z.1.2.1, .long z.1.2.2.1, .long z.1.2.2.2.1, .long z.1.2.2.2.2])), (s0, .inr (2, [.ref xa, .ref ya, .int (nI n)])), (xa, .inl (cI, 20, .inl x)), (ya, .inl (cI, 20, .inl y)), (ra, .inl (cI, 105, .inl (fun j9 => nI (z.2.1 j9)))), (sa, .inl (cI, 36, .inl (fun j9 => nI (z.2.2.1 j9)))), (oa, .inl (cI, 400, .inl z.2.2.2.1)), (ma, .inl (cI, 20, .inl rm)), (oj, .inl (cJ, 1, .inr (.inl ou)))] s.heap := hP
  have hl := lv_entry ([.ref c0, .int px, .int py, .ref oj]) (n := 5) (Nat.le_of_ble_eq_true rfl)
  rw [lg_entry_eq]
  generalize (lg_sl ([.ref c0, .int px, .int py, .ref oj]) ++ List.replicate (5 - (lg_sl ([.ref c0, .int px, .int py, .ref oj])).length) Slot.unset).toArray = ls at hl ⊢
  have hl : lv_has ls 5 [(0, .ref c0), (1, .int px), (2, .int py), (3, .ref oj)] := hl
  refine lv_aload_n hx hb dL_around_0 rfl (lv_at hl 3 rfl) ?_
  refine lv_iconst (v := nI 0) hx hb dL_around_1 (by decide) ?_
  refine lv_aload_n hx hb dL_around_2 rfl (lv_at hl 0 rfl) ?_
  refine lv_iload_n hx hb dL_around_3 rfl (lv_at hl 1 rfl) ?_
  refine lv_iload_n hx hb dL_around_4 rfl (lv_at hl 2 rfl) ?_
  refine q_tV (en := q_IA) (wc' := [(c0, .inr (3, [.ref s0, .ref m0, .int st])), (m0, .inr (1, [.ref s0, .ref g0, .ref ra, .ref sa, .ref oa, .int (nI z.2.2.2.2), .ref ma, .int (nI rc)])), (g0, .inr (0, [.int z.1.1, .int z.1.2.1, .long z.1.2.2.1, .long z.1.2.2.2.1, .long z.1.2.2.2.2])), (s0, .inr (2, [.ref xa, .ref ya, .int (nI n)])), (xa, .inl (cI, 20, .inl x)), (ya, .inl (cI, 20, .inl y)), (ra, .inl (cI, 105, .inl (fun j9 => nI (z.2.1 j9)))), (sa, .inl (cI, 36, .inl (fun j9 => nI (z.2.2.1 j9)))), (oa, .inl (cI, 400, .inl z.2.2.2.1)), (ma, .inl (cI, 20, .inl rm))]) (wsN := [(c0, .inr (3, [.ref s0, .ref m0, .int st])), (m0, .inr (1, [.ref s0, .ref g0, .ref ra, .ref sa, .ref oa, .int (nI z.2.2.2.2), .ref ma, .int (nI rc)])), (g0, .inr (0, [.int z.1.1, .int z.1.2.1, .long z.1.2.2.1, .long z.1.2.2.2.1, .long z.1.2.2.2.2])), (s0, .inr (2, [.ref xa, .ref ya, .int (nI n)])), (xa, .inl (cI, 20, .inl x)), (ya, .inl (cI, 20, .inl y)), (ra, .inl (cI, 105, .inl (fun j9 => nI (z.2.1 j9)))), (sa, .inl (cI, 36, .inl (fun j9 => nI (z.2.2.1 j9)))), (oa, .inl (cI, 400, .inl z.2.2.2.1)), (ma, .inl (cI, 20, .inl rm)), (oj, .inl (cJ, 1, .inr (.inl ou)))]) (As := [.int px, .int py]) (rest := [.int (nI 0), .ref oj]) ⟨hx, hb, hml, hown, hts⟩ (t1_X3_around l hst9 dC dI c0 m0 s0 g0 ra sa oa ma xa ya cI x y st (by omega) rm rc n px py hf) (cwV 2 hts gL_around_X3_around rfl rfl rfl (by decide +kernel) ⟨Nat.le_of_ble_eq_true rfl, Nat.le_of_ble_eq_true rfl⟩) hE hK hP hD hS [0, 1, 2, 3, 4, 5, 6, 7, 8, 9] [0] 3 0 rfl rfl rfl rfl rfl rfl rfl rfl rfl hl.1 rfl (Nat.le_of_ble_eq_true rfl) ⟨Nat.le_of_ble_eq_true rfl, Nat.le_of_ble_eq_true rfl⟩ dL_around_5 rfl (fun H locs q9 ce hP hD hS hq9 hcv hcl => ?_)
  refine q_catchL (h := 13) (fun hpl => ?_) hq9 hcv hcl ?_
  · rw [htab]
    exact q_hit (x := ⟨0, 10, 13, 13⟩) hpl hown (by decide) (by decide) (hts (.classLink RL 13 "java/lang/IllegalArgumentException") (by decide +kernel)) (hE.2.2.1 _ (by decide)) hcl
  refine lv_astore (lv' := [(4, .ref q9), (0, .ref c0), (1, .int px), (2, .int py), (3, .ref oj)]) hx hb dL_around_13 hl (by decide) rfl (fun ls hl => ?_)
  refine lv_iconst (v := 1) hx hb dL_around_15 (by decide) ?_
  exact W.iret (v := 1) hx hb hr (q_retm hP hS) hS.2.2 dL_around_16
set_option maxHeartbeats 4000000 in
set_option maxRecDepth 100000 in
theorem lR_L_centre (l : Launch) (hst9 : l.stackTraces = false) (dC : Nat → ClassId) (dI : Nat → Nat → Nat) (c0 m0 s0 g0 ra sa oa ma xa ya : Nat) (cI : ClassId) (oj : Nat) (cJ : ClassId) (ou : Nat → Int64) (x y : Nat → Int32) (st : Int32) (z : (Int32 × Int32 × Int64 × Int64 × Int64) × (Nat → Nat) × (Nat → Nat) × (Nat → Int32) × Nat) (rm : Nat → Int32) (rc n : Nat) (k : Nat) (t : Int32) (sn : Nat) (ln : n ≤ 20) (lr : ∀ j, z.2.1 j < 20) (ls0 : z.2.2.1 0 = 0) (hst : j_st (j_refr x y n st z rm rc)) (lk : k < (j_refr x y n st z rm rc).1.2.2.2.2) (ht : r_out t 3 = false) (ls1 : sn < 2 ^ 63) (hsn : (j_lay x y ((j_refr x y n st z rm rc).1.2.1 ((j_refr x y n st z rm rc).1.2.2.1 k + 0)) ((j_refr x y n st z rm rc).1.2.1 ((j_refr x y n st z rm rc).1.2.2.1 k + 1)) ((j_refr x y n st z rm rc).1.2.1 ((j_refr x y n st z rm rc).1.2.2.1 k + 2))).2.2.2.2 = lN sn) (lX : ((j_lay x y ((j_refr x y n st z rm rc).1.2.1 ((j_refr x y n st z rm rc).1.2.2.1 k + 0)) ((j_refr x y n st z rm rc).1.2.1 ((j_refr x y n st z rm rc).1.2.2.1 k + 1)) ((j_refr x y n st z rm rc).1.2.1 ((j_refr x y n st z rm rc).1.2.2.1 k + 2))).1.toInt64 * lN sn + (j_lay x y ((j_refr x y n st z rm rc).1.2.1 ((j_refr x y n st z rm rc).1.2.2.1 k + 0)) ((j_refr x y n st z rm rc).1.2.1 ((j_refr x y n st z rm rc).1.2.2.1 k + 1)) ((j_refr x y n st z rm rc).1.2.1 ((j_refr x y n st z rm rc).1.2.2.1 k + 2))).2.2.1).toInt.natAbs < 2 ^ 63) (lY : ((j_lay x y ((j_refr x y n st z rm rc).1.2.1 ((j_refr x y n st z rm rc).1.2.2.1 k + 0)) ((j_refr x y n st z rm rc).1.2.1 ((j_refr x y n st z rm rc).1.2.2.1 k + 1)) ((j_refr x y n st z rm rc).1.2.1 ((j_refr x y n st z rm rc).1.2.2.1 k + 2))).2.1.toInt64 * lN sn + (j_lay x y ((j_refr x y n st z rm rc).1.2.1 ((j_refr x y n st z rm rc).1.2.2.1 k + 0)) ((j_refr x y n st z rm rc).1.2.1 ((j_refr x y n st z rm rc).1.2.2.1 k + 1)) ((j_refr x y n st z rm rc).1.2.1 ((j_refr x y n st z rm rc).1.2.2.1 k + 2))).2.2.2.1).toInt.natAbs < 2 ^ 63) (R : (((Int32 × Int32 × Int64 × Int64 × Int64) × (Nat → Nat) × (Nat → Nat) × (Nat → Int32) × Nat) × (Nat → Int32) × Nat) × Int32 × Int32 × Int64 × Int64 × Int64) (hR : (j_refr x y n st z rm rc, j_lay x y ((j_refr x y n st z rm rc).1.2.1 ((j_refr x y n st z rm rc).1.2.2.1 k + 0)) ((j_refr x y n st z rm rc).1.2.1 ((j_refr x y n st z rm rc).1.2.2.1 k + 1)) ((j_refr x y n st z rm rc).1.2.1 ((j_refr x y n st z rm rc).1.2.2.1 k + 2))) = R) : Met l yL_centre wsL_centre ({ frames := 8, cells := 1, slots := 6, locals := 159 }) (q_Py (dC, dI) [.ref c0, .int (nI k), .int t, .ref oj] [(c0, .inr (3, [.ref s0, .ref m0, .int st])), (m0, .inr (1, [.ref s0, .ref g0, .ref ra, .ref sa, .ref oa, .int (nI z.2.2.2.2), .ref ma, .int (nI rc)])), (g0, .inr (0, [.int z.1.1, .int z.1.2.1, .long z.1.2.2.1, .long z.1.2.2.2.1, .long z.1.2.2.2.2])), (s0, .inr (2, [.ref xa, .ref ya, .int (nI n)])), (xa, .inl (cI, 20, .inl x)), (ya, .inl (cI, 20, .inl y)), (ra, .inl (cI, 105, .inl (fun j9 => nI (z.2.1 j9)))), (sa, .inl (cI, 36, .inl (fun j9 => nI (z.2.2.1 j9)))), (oa, .inl (cI, 400, .inl z.2.2.2.1)), (ma, .inl (cI, 20, .inl rm)), (oj, .inl (cJ, 1, .inr (.inl ou)))] [(cI, .int), (cJ, .long)]) (q_Qm (dC, dI) (q_in [(c0, .inr (3, [.ref s0, .ref m0, .int st])), (m0, .inr (1, [.ref s0, .ref g0, .ref ra, .ref sa, .ref oa, .int (nI z.2.2.2.2), .ref ma, .int (nI rc)])), (g0, .inr (0, [.int z.1.1, .int z.1.2.1, .long z.1.2.2.1, .long z.1.2.2.2.1, .long z.1.2.2.2.2])), (s0, .inr (2, [.ref xa, .ref ya, .int (nI n)])), (xa, .inl (cI, 20, .inl x)), (ya, .inl (cI, 20, .inl y)), (ra, .inl (cI, 105, .inl (fun j9 => nI (z.2.1 j9)))), (sa, .inl (cI, 36, .inl (fun j9 => nI (z.2.2.1 j9)))), (oa, .inl (cI, 400, .inl z.2.2.2.1)), (ma, .inl (cI, 20, .inl rm)), (oj, .inl (cJ, 1, .inr (.inl ou)))]) (some (.int 0)) [(c0, .inr (3, [.ref s0, .ref m0, .int 0])), (m0, .inr (1, [.ref s0, .ref g0, .ref ra, .ref sa, .ref oa, .int (nI R.1.1.2.2.2.2), .ref ma, .int (nI R.1.2.2)])), (g0, .inr (0, [.int R.2.1, .int R.2.2.1, .long R.2.2.2.1, .long R.2.2.2.2.1, .long R.2.2.2.2.2])), (s0, .inr (2, [.ref xa, .ref ya, .int (nI n)])), (xa, .inl (cI, 20, .inl x)), (ya, .inl (cI, 20, .inl y)), (ra, .inl (cI, 105, .inl (fun j9 => nI (R.1.1.2.1 j9)))), (sa, .inl (cI, 36, .inl (fun j9 => nI (R.1.1.2.2.1 j9)))), (oa, .inl (cI, 400, .inl R.1.1.2.2.2.1)), (ma, .inl (cI, 20, .inl R.1.2.1)), (oj, .inl (cJ, 1, .inr (.inl (vp_updL ou 0 (j_mid (R.2.1.toInt64 * lN sn + R.2.2.2.1) (R.2.2.1.toInt64 * lN sn + R.2.2.2.2.1) sn t)))))]) 1 6 (q_in [(c0, .inr (3, [.ref s0, .ref m0, .int st])), (m0, .inr (1, [.ref s0, .ref g0, .ref ra, .ref sa, .ref oa, .int (nI z.2.2.2.2), .ref ma, .int (nI rc)])), (g0, .inr (0, [.int z.1.1, .int z.1.2.1, .long z.1.2.2.1, .long z.1.2.2.2.1, .long z.1.2.2.2.2])), (s0, .inr (2, [.ref xa, .ref ya, .int (nI n)])), (xa, .inl (cI, 20, .inl x)), (ya, .inl (cI, 20, .inl y)), (ra, .inl (cI, 105, .inl (fun j9 => nI (z.2.1 j9)))), (sa, .inl (cI, 36, .inl (fun j9 => nI (z.2.2.1 j9)))), (oa, .inl (cI, 400, .inl z.2.2.2.1)), (ma, .inl (cI, 20, .inl rm)), (oj, .inl (cJ, 1, .inr (.inl ou)))]) := by
  refine va_MetW (cc := cL_centre) (maxL := 5) (ret := (some .int)) (hh := [(0, 9, 12, 31), (0, 9, 16, 13)]) (by decide) rfl ?_
  intro p e s m args below meth c s₁ B hml hv
  obtain ⟨rfl, hP, hK, hD0, hE, hNc⟩ := hv
  have hx := B.exec
  have hb := B.bytes
  have hr := B.returns
  have hts := atoms_spec (ws := wsL_centre) B.pre
  have hown : s.vm.findClass RL = some m.cls := findClass_of_methodNamed B.named
  have hlocks := B.notSynchronized
  have htab := vx_table (x := yL_centre) B (hts (.codeWith yL_centre cL_centre 5 (some .int) [(0, 9, 12, 31), (0, 9, 16, 13)]) List.mem_cons_self)
  have hD := q_inD hD0
  generalize hAe : q_in [(c0, .inr (3, [.ref s0, .ref m0, .int st])), (m0, .inr (1, [.ref s0, .ref g0, .ref ra, .ref sa, .ref oa, .int (nI z.2.2.2.2), .ref ma, .int (nI rc)])), (g0, .inr (0, [.int z.1.1, .int z.1.2.1, .long z.1.2.2.1, .long z.1.2.2.2.1, .long z.1.2.2.2.2])), (s0, .inr (2, [.ref xa, .ref ya, .int (nI n)])), (xa, .inl (cI, 20, .inl x)), (ya, .inl (cI, 20, .inl y)), (ra, .inl (cI, 105, .inl (fun j9 => nI (z.2.1 j9)))), (sa, .inl (cI, 36, .inl (fun j9 => nI (z.2.2.1 j9)))), (oa, .inl (cI, 400, .inl z.2.2.2.1)), (ma, .inl (cI, 20, .inl rm)), (oj, .inl (cJ, 1, .inr (.inl ou)))] = A at hD hE ⊢
  have hS : va_S A s.heap s.heap [] := va_S.rf
  have hP : va_P (dC, dI) vwCl [(c0, .inr (3, [.ref s0, .ref m0, .int st])), (m0, .inr (1, [.ref s0, .ref g0, .ref ra, .ref sa, .ref oa, .int (nI z.2.2.2.2), .ref ma, .int (nI rc)])), (g0, .inr (0, [.int z.1.1, .int z.1.2.1, .long z.1.2.2.1, .long z.1.2.2.2.1, .long z.1.2.2.2.2])), (s0, .inr (2, [.ref xa, .ref ya, .int (nI n)])), (xa, .inl (cI, 20, .inl x)), (ya, .inl (cI, 20, .inl y)), (ra, .inl (cI, 105, .inl (fun j9 => nI (z.2.1 j9)))), (sa, .inl (cI, 36, .inl (fun j9 => nI (z.2.2.1 j9)))), (oa, .inl (cI, 400, .inl z.2.2.2.1)), (ma, .inl (cI, 20, .inl rm)), (oj, .inl (cJ, 1, .inr (.inl ou)))] s.heap := hP
  have hl := lv_entry ([.ref c0, .int (nI k), .int t, .ref oj]) (n := 5) (Nat.le_of_ble_eq_true rfl)
  rw [lg_entry_eq]
  generalize (lg_sl ([.ref c0, .int (nI k), .int t, .ref oj]) ++ List.replicate (5 - (lg_sl ([.ref c0, .int (nI k), .int t, .ref oj])).length) Slot.unset).toArray = ls at hl ⊢
  have hl : lv_has ls 5 [(0, .ref c0), (1, .int (nI k)), (2, .int t), (3, .ref oj)] := hl
  refine lv_aload_n hx hb dL_centre_0 rfl (lv_at hl 3 rfl) ?_
  refine lv_iconst (v := nI 0) hx hb dL_centre_1 (by decide) ?_
  refine lv_aload_n hx hb dL_centre_2 rfl (lv_at hl 0 rfl) ?_
  refine lv_iload_n hx hb dL_centre_3 rfl (lv_at hl 1 rfl) ?_
  refine lv_iload_n hx hb dL_centre_4 rfl (lv_at hl 2 rfl) ?_
  obtain ⟨r1, hr1⟩ : ∃ r : (((Int32 × Int32 × Int64 × Int64 × Int64) × (Nat → Nat) × (Nat → Nat) × (Nat → Int32) × Nat) × (Nat → Int32) × Nat) × Int32 × Int32 × Int64 × Int64 × Int64, (j_refr x y n st z rm rc, j_lay x y ((j_refr x y n st z rm rc).1.2.1 ((j_refr x y n st z rm rc).1.2.2.1 k + 0)) ((j_refr x y n st z rm rc).1.2.1 ((j_refr x y n st z rm rc).1.2.2.1 k + 1)) ((j_refr x y n st z rm rc).1.2.1 ((j_refr x y n st z rm rc).1.2.2.1 k + 2))) = r := ⟨_, rfl⟩
  refine q_mV (wc' := [(c0, .inr (3, [.ref s0, .ref m0, .int 0])), (m0, .inr (1, [.ref s0, .ref g0, .ref ra, .ref sa, .ref oa, .int (nI r1.1.1.2.2.2.2), .ref ma, .int (nI r1.1.2.2)])), (g0, .inr (0, [.int r1.2.1, .int r1.2.2.1, .long r1.2.2.2.1, .long r1.2.2.2.2.1, .long r1.2.2.2.2.2])), (s0, .inr (2, [.ref xa, .ref ya, .int (nI n)])), (xa, .inl (cI, 20, .inl x)), (ya, .inl (cI, 20, .inl y)), (ra, .inl (cI, 105, .inl (fun j9 => nI (r1.1.1.2.1 j9)))), (sa, .inl (cI, 36, .inl (fun j9 => nI (r1.1.1.2.2.1 j9)))), (oa, .inl (cI, 400, .inl r1.1.1.2.2.2.1)), (ma, .inl (cI, 20, .inl r1.1.2.1))]) (wsN := [(c0, .inr (3, [.ref s0, .ref m0, .int 0])), (m0, .inr (1, [.ref s0, .ref g0, .ref ra, .ref sa, .ref oa, .int (nI r1.1.1.2.2.2.2), .ref ma, .int (nI r1.1.2.2)])), (g0, .inr (0, [.int r1.2.1, .int r1.2.2.1, .long r1.2.2.2.1, .long r1.2.2.2.2.1, .long r1.2.2.2.2.2])), (s0, .inr (2, [.ref xa, .ref ya, .int (nI n)])), (xa, .inl (cI, 20, .inl x)), (ya, .inl (cI, 20, .inl y)), (ra, .inl (cI, 105, .inl (fun j9 => nI (r1.1.1.2.1 j9)))), (sa, .inl (cI, 36, .inl (fun j9 => nI (r1.1.1.2.2.1 j9)))), (oa, .inl (cI, 400, .inl r1.1.1.2.2.2.1)), (ma, .inl (cI, 20, .inl r1.1.2.1)), (oj, .inl (cJ, 1, .inr (.inl ou)))]) (As := [.int (nI k), .int t]) (rest := [.int (nI 0), .ref oj]) ⟨hx, hb, hml, hown, hts⟩ (c_X3_centre l dC dI c0 m0 s0 g0 ra sa oa ma xa ya cI x y st (by omega) rm rc n k t (by omega) ln lr ls0 hst lk ht ls1 hsn lX lY r1 hr1) (cwV 2 hts gL_centre_X3_centre rfl rfl rfl (by decide +kernel) ⟨Nat.le_of_ble_eq_true rfl, Nat.le_of_ble_eq_true rfl⟩) hK hP hD hS [0, 1, 2, 3, 4, 5, 6, 7, 8, 9] [0] 3 0 rfl rfl rfl rfl rfl rfl rfl rfl rfl hl.1 rfl (Nat.le_of_ble_eq_true rfl) ⟨Nat.zero_le _, Nat.zero_le _⟩ dL_centre_5 rfl (fun H locs hP hD hS => ?_)
  refine W.eq (g2 := F0 m 8 ls [.long (j_mid (r1.2.1.toInt64 * lN sn + r1.2.2.2.1) (r1.2.2.1.toInt64 * lN sn + r1.2.2.2.2.1) sn t), .int (nI 0), .ref oj]) rfl ?_
  rw [hr1] at hR
  subst hR
  refine q_last (ws' := [(c0, .inr (3, [.ref s0, .ref m0, .int 0])), (m0, .inr (1, [.ref s0, .ref g0, .ref ra, .ref sa, .ref oa, .int (nI r1.1.1.2.2.2.2), .ref ma, .int (nI r1.1.2.2)])), (g0, .inr (0, [.int r1.2.1, .int r1.2.2.1, .long r1.2.2.2.1, .long r1.2.2.2.2.1, .long r1.2.2.2.2.2])), (s0, .inr (2, [.ref xa, .ref ya, .int (nI n)])), (xa, .inl (cI, 20, .inl x)), (ya, .inl (cI, 20, .inl y)), (ra, .inl (cI, 105, .inl (fun j9 => nI (r1.1.1.2.1 j9)))), (sa, .inl (cI, 36, .inl (fun j9 => nI (r1.1.1.2.2.1 j9)))), (oa, .inl (cI, 400, .inl r1.1.1.2.2.2.1)), (ma, .inl (cI, 20, .inl r1.1.2.1)), (oj, .inl (cJ, 1, .inr (.inl (vp_updL ou 0 (j_mid (r1.2.1.toInt64 * lN sn + r1.2.2.2.1) (r1.2.2.1.toInt64 * lN sn + r1.2.2.2.2.1) sn t)))))]) hx hb hK hP hD hS 10 1 rfl rfl (0) rfl (by omega) (by decide) dL_centre_8 rfl (fun H locs hP hD hS => ?_)
  refine lv_goto (tgt := 20) hx hb dL_centre_9 (by decide) ?_
  refine lv_iconst (v := 0) hx hb dL_centre_20 (by decide) ?_
  refine W.widen (k := 1) (n := 6) (Nat.zero_le _) (Nat.zero_le _) ?_
  exact W.iret (v := 0) hx hb hr (q_retm hP hS) hS.2.2 dL_centre_21
set_option maxHeartbeats 4000000 in
set_option maxRecDepth 100000 in
theorem l1_L_centre (l : Launch) (hst9 : l.stackTraces = false) (dC : Nat → ClassId) (dI : Nat → Nat → Nat) (c0 m0 s0 g0 ra sa oa ma xa ya : Nat) (cI : ClassId) (oj : Nat) (cJ : ClassId) (ou : Nat → Int64) (x y : Nat → Int32) (st : Int32) (z : (Int32 × Int32 × Int64 × Int64 × Int64) × (Nat → Nat) × (Nat → Nat) × (Nat → Int32) × Nat) (rm : Nat → Int32) (rc n : Nat) (w t : Int32) (ht : r_out t 3 = true) : Met l yL_centre wsL_centre ({ frames := 8, cells := 1, slots := 6, locals := 159 }) (q_Py (dC, dI) [.ref c0, .int w, .int t, .ref oj] [(c0, .inr (3, [.ref s0, .ref m0, .int st])), (m0, .inr (1, [.ref s0, .ref g0, .ref ra, .ref sa, .ref oa, .int (nI z.2.2.2.2), .ref ma, .int (nI rc)])), (g0, .inr (0, [.int z.1.1, .int z.1.2.1, .long z.1.2.2.1, .long z.1.2.2.2.1, .long z.1.2.2.2.2])), (s0, .inr (2, [.ref xa, .ref ya, .int (nI n)])), (xa, .inl (cI, 20, .inl x)), (ya, .inl (cI, 20, .inl y)), (ra, .inl (cI, 105, .inl (fun j9 => nI (z.2.1 j9)))), (sa, .inl (cI, 36, .inl (fun j9 => nI (z.2.2.1 j9)))), (oa, .inl (cI, 400, .inl z.2.2.2.1)), (ma, .inl (cI, 20, .inl rm)), (oj, .inl (cJ, 1, .inr (.inl ou)))] [(cI, .int), (cJ, .long)]) (q_Qm (dC, dI) (q_in [(c0, .inr (3, [.ref s0, .ref m0, .int st])), (m0, .inr (1, [.ref s0, .ref g0, .ref ra, .ref sa, .ref oa, .int (nI z.2.2.2.2), .ref ma, .int (nI rc)])), (g0, .inr (0, [.int z.1.1, .int z.1.2.1, .long z.1.2.2.1, .long z.1.2.2.2.1, .long z.1.2.2.2.2])), (s0, .inr (2, [.ref xa, .ref ya, .int (nI n)])), (xa, .inl (cI, 20, .inl x)), (ya, .inl (cI, 20, .inl y)), (ra, .inl (cI, 105, .inl (fun j9 => nI (z.2.1 j9)))), (sa, .inl (cI, 36, .inl (fun j9 => nI (z.2.2.1 j9)))), (oa, .inl (cI, 400, .inl z.2.2.2.1)), (ma, .inl (cI, 20, .inl rm)), (oj, .inl (cJ, 1, .inr (.inl ou)))]) (some (.int 2)) [(c0, .inr (3, [.ref s0, .ref m0, .int st])), (m0, .inr (1, [.ref s0, .ref g0, .ref ra, .ref sa, .ref oa, .int (nI z.2.2.2.2), .ref ma, .int (nI rc)])), (g0, .inr (0, [.int z.1.1, .int z.1.2.1, .long z.1.2.2.1, .long z.1.2.2.2.1, .long z.1.2.2.2.2])), (s0, .inr (2, [.ref xa, .ref ya, .int (nI n)])), (xa, .inl (cI, 20, .inl x)), (ya, .inl (cI, 20, .inl y)), (ra, .inl (cI, 105, .inl (fun j9 => nI (z.2.1 j9)))), (sa, .inl (cI, 36, .inl (fun j9 => nI (z.2.2.1 j9)))), (oa, .inl (cI, 400, .inl z.2.2.2.1)), (ma, .inl (cI, 20, .inl rm)), (oj, .inl (cJ, 1, .inr (.inl ou)))]) 1 6 (q_in [(c0, .inr (3, [.ref s0, .ref m0, .int st])), (m0, .inr (1, [.ref s0, .ref g0, .ref ra, .ref sa, .ref oa, .int (nI z.2.2.2.2), .ref ma, .int (nI rc)])), (g0, .inr (0, [.int z.1.1, .int z.1.2.1, .long z.1.2.2.1, .long z.1.2.2.2.1, .long z.1.2.2.2.2])), (s0, .inr (2, [.ref xa, .ref ya, .int (nI n)])), (xa, .inl (cI, 20, .inl x)), (ya, .inl (cI, 20, .inl y)), (ra, .inl (cI, 105, .inl (fun j9 => nI (z.2.1 j9)))), (sa, .inl (cI, 36, .inl (fun j9 => nI (z.2.2.1 j9)))), (oa, .inl (cI, 400, .inl z.2.2.2.1)), (ma, .inl (cI, 20, .inl rm)), (oj, .inl (cJ, 1, .inr (.inl ou)))]) := by
  refine va_MetW (cc := cL_centre) (maxL := 5) (ret := (some .int)) (hh := [(0, 9, 12, 31), (0, 9, 16, 13)]) (by decide) rfl ?_
  intro p e s m args below meth c s₁ B hml hv
  obtain ⟨rfl, hP, hK, hD0, hE, hNc⟩ := hv
  have hx := B.exec
  have hb := B.bytes
  have hr := B.returns
  have hts := atoms_spec (ws := wsL_centre) B.pre
  have hown : s.vm.findClass RL = some m.cls := findClass_of_methodNamed B.named
  have hlocks := B.notSynchronized
  have htab := vx_table (x := yL_centre) B (hts (.codeWith yL_centre cL_centre 5 (some .int) [(0, 9, 12, 31), (0, 9, 16, 13)]) List.mem_cons_self)
  have hD := q_inD hD0
  generalize hAe : q_in [(c0, .inr (3, [.ref s0, .ref m0, .int st])), (m0, .inr (1, [.ref s0, .ref g0, .ref ra, .ref sa, .ref oa, .int (nI z.2.2.2.2), .ref ma, .int (nI rc)])), (g0, .inr (0, [.int z.1.1, .int z.1.2.1, .long z.1.2.2.1, .long z.1.2.2.2.1, .long z.1.2.2.2.2])), (s0, .inr (2, [.ref xa, .ref ya, .int (nI n)])), (xa, .inl (cI, 20, .inl x)), (ya, .inl (cI, 20, .inl y)), (ra, .inl (cI, 105, .inl (fun j9 => nI (z.2.1 j9)))), (sa, .inl (cI, 36, .inl (fun j9 => nI (z.2.2.1 j9)))), (oa, .inl (cI, 400, .inl z.2.2.2.1)), (ma, .inl (cI, 20, .inl rm)), (oj, .inl (cJ, 1, .inr (.inl ou)))] = A at hD hE ⊢
  have hS : va_S A s.heap s.heap [] := va_S.rf
  have hP : va_P (dC, dI) vwCl [(c0, .inr (3, [.ref s0, .ref m0, .int st])), (m0, .inr (1, [.ref s0, .ref g0, .ref ra, .ref sa, .ref oa, .int (nI z.2.2.2.2), .ref ma, .int (nI rc)])), (g0, .inr (0, [.int z.1.1, .int z.1.2.1, .long z.1.2.2.1, .long z.1.2.2.2.1, .long z.1.2.2.2.2])), (s0, .inr (2, [.ref xa, .ref ya, .int (nI n)])), (xa, .inl (cI, 20, .inl x)), (ya, .inl (cI, 20, .inl y)), (ra, .inl (cI, 105, .inl (fun j9 => nI (z.2.1 j9)))), (sa, .inl (cI, 36, .inl (fun j9 => nI (z.2.2.1 j9)))), (oa, .inl (cI, 400, .inl z.2.2.2.1)), (ma, .inl (cI, 20, .inl rm)), (oj, .inl (cJ, 1, .inr (.inl ou)))] s.heap := hP
  have hl := lv_entry ([.ref c0, .int w, .int t, .ref oj]) (n := 5) (Nat.le_of_ble_eq_true rfl)
  rw [lg_entry_eq]
  generalize (lg_sl ([.ref c0, .int w, .int t, .ref oj]) ++ List.replicate (5 - (lg_sl ([.ref c0, .int w, .int t, .ref oj])).length) Slot.unset).toArray = ls at hl ⊢
  have hl : lv_has ls 5 [(0, .ref c0), (1, .int w), (2, .int t), (3, .ref oj)] := hl
  refine lv_aload_n hx hb dL_centre_0 rfl (lv_at hl 3 rfl) ?_
  refine lv_iconst (v := nI 0) hx hb dL_centre_1 (by decide) ?_
  refine lv_aload_n hx hb dL_centre_2 rfl (lv_at hl 0 rfl) ?_
  refine lv_iload_n hx hb dL_centre_3 rfl (lv_at hl 1 rfl) ?_
  refine lv_iload_n hx hb dL_centre_4 rfl (lv_at hl 2 rfl) ?_
  refine q_tV (en := q_IA) (wc' := [(c0, .inr (3, [.ref s0, .ref m0, .int st])), (m0, .inr (1, [.ref s0, .ref g0, .ref ra, .ref sa, .ref oa, .int (nI z.2.2.2.2), .ref ma, .int (nI rc)])), (g0, .inr (0, [.int z.1.1, .int z.1.2.1, .long z.1.2.2.1, .long z.1.2.2.2.1, .long z.1.2.2.2.2])), (s0, .inr (2, [.ref xa, .ref ya, .int (nI n)])), (xa, .inl (cI, 20, .inl x)), (ya, .inl (cI, 20, .inl y)), (ra, .inl (cI, 105, .inl (fun j9 => nI (z.2.1 j9)))), (sa, .inl (cI, 36, .inl (fun j9 => nI (z.2.2.1 j9)))), (oa, .inl (cI, 400, .inl z.2.2.2.1)), (ma, .inl (cI, 20, .inl rm))]) (wsN := [(c0, .inr (3, [.ref s0, .ref m0, .int st])), (m0, .inr (1, [.ref s0, .ref g0, .ref ra, .ref sa, .ref oa, .int (nI z.2.2.2.2), .ref ma, .int (nI rc)])), (g0, .inr (0, [.int z.1.1, .int z.1.2.1, .long z.1.2.2.1, .long z.1.2.2.2.1, .long z.1.2.2.2.2])), (s0, .inr (2, [.ref xa, .ref ya, .int (nI n)])), (xa, .inl (cI, 20, .inl x)), (ya, .inl (cI, 20, .inl y)), (ra, .inl (cI, 105, .inl (fun j9 => nI (z.2.1 j9)))), (sa, .inl (cI, 36, .inl (fun j9 => nI (z.2.2.1 j9)))), (oa, .inl (cI, 400, .inl z.2.2.2.1)), (ma, .inl (cI, 20, .inl rm)), (oj, .inl (cJ, 1, .inr (.inl ou)))]) (As := [.int w, .int t]) (rest := [.int (nI 0), .ref oj]) ⟨hx, hb, hml, hown, hts⟩ (t1_X3_centre l hst9 dC dI c0 m0 s0 g0 ra sa oa ma xa ya cI x y st (by omega) rm rc n w t ht) (cwV 2 hts gL_centre_X3_centre rfl rfl rfl (by decide +kernel) ⟨Nat.le_of_ble_eq_true rfl, Nat.le_of_ble_eq_true rfl⟩) hE hK hP hD hS [0, 1, 2, 3, 4, 5, 6, 7, 8, 9] [0] 3 0 rfl rfl rfl rfl rfl rfl rfl rfl rfl hl.1 rfl (Nat.le_of_ble_eq_true rfl) ⟨Nat.le_of_ble_eq_true rfl, Nat.le_of_ble_eq_true rfl⟩ dL_centre_5 rfl (fun H locs q9 ce hP hD hS hq9 hcv hcl => ?_)
  refine q_catchL (h := 16) (fun hpl => ?_) hq9 hcv hcl ?_
  · rw [htab]
    exact q_pass (nm := q_NE) (x := ⟨0, 9, 12, 31⟩) hpl hown (by decide) (by decide) (hts (.classLink RL 31 "java/util/NoSuchElementException") (by decide +kernel)) hNc.2.2 hcl (q_hit (x := ⟨0, 9, 16, 13⟩) hpl hown (by decide) (by decide) (hts (.classLink RL 13 "java/lang/IllegalArgumentException") (by decide +kernel)) (hE.2.2.1 _ (by decide)) hcl)
  refine lv_astore (lv' := [(4, .ref q9), (0, .ref c0), (1, .int w), (2, .int t), (3, .ref oj)]) hx hb dL_centre_16 hl (by decide) rfl (fun ls hl => ?_)
  refine lv_iconst (v := 2) hx hb dL_centre_18 (by decide) ?_
  exact W.iret (v := 2) hx hb hr (q_retm hP hS) hS.2.2 dL_centre_19
set_option maxHeartbeats 4000000 in
set_option maxRecDepth 100000 in
theorem l2_L_centre (l : Launch) (hst9 : l.stackTraces = false) (dC : Nat → ClassId) (dI : Nat → Nat → Nat) (c0 m0 s0 g0 ra sa oa ma xa ya : Nat) (cI : ClassId) (oj : Nat) (cJ : ClassId) (ou : Nat → Int64) (x y : Nat → Int32) (st : Int32) (z : (Int32 × Int32 × Int64 × Int64 × Int64) × (Nat → Nat) × (Nat → Nat) × (Nat → Int32) × Nat) (rm : Nat → Int32) (rc n : Nat) (w t : Int32) (ln : n ≤ 20) (lr : ∀ j, z.2.1 j < 20) (ls0 : z.2.2.1 0 = 0) (ht : r_out t 3 = false) (hf : r_out w (nI (j_refr x y n st z rm rc).1.2.2.2.2) = true) (R : ((Int32 × Int32 × Int64 × Int64 × Int64) × (Nat → Nat) × (Nat → Nat) × (Nat → Int32) × Nat) × (Nat → Int32) × Nat) (hR : j_refr x y n st z rm rc = R) : Met l yL_centre wsL_centre ({ frames := 8, cells := 1, slots := 6, locals := 159 }) (q_Py (dC, dI) [.ref c0, .int w, .int t, .ref oj] [(c0, .inr (3, [.ref s0, .ref m0, .int st])), (m0, .inr (1, [.ref s0, .ref g0, .ref ra, .ref sa, .ref oa, .int (nI z.2.2.2.2), .ref ma, .int (nI rc)])), (g0, .inr (0, [.int z.1.1, .int z.1.2.1, .long z.1.2.2.1, .long z.1.2.2.2.1, .long z.1.2.2.2.2])), (s0, .inr (2, [.ref xa, .ref ya, .int (nI n)])), (xa, .inl (cI, 20, .inl x)), (ya, .inl (cI, 20, .inl y)), (ra, .inl (cI, 105, .inl (fun j9 => nI (z.2.1 j9)))), (sa, .inl (cI, 36, .inl (fun j9 => nI (z.2.2.1 j9)))), (oa, .inl (cI, 400, .inl z.2.2.2.1)), (ma, .inl (cI, 20, .inl rm)), (oj, .inl (cJ, 1, .inr (.inl ou)))] [(cI, .int), (cJ, .long)]) (q_Qm (dC, dI) (q_in [(c0, .inr (3, [.ref s0, .ref m0, .int st])), (m0, .inr (1, [.ref s0, .ref g0, .ref ra, .ref sa, .ref oa, .int (nI z.2.2.2.2), .ref ma, .int (nI rc)])), (g0, .inr (0, [.int z.1.1, .int z.1.2.1, .long z.1.2.2.1, .long z.1.2.2.2.1, .long z.1.2.2.2.2])), (s0, .inr (2, [.ref xa, .ref ya, .int (nI n)])), (xa, .inl (cI, 20, .inl x)), (ya, .inl (cI, 20, .inl y)), (ra, .inl (cI, 105, .inl (fun j9 => nI (z.2.1 j9)))), (sa, .inl (cI, 36, .inl (fun j9 => nI (z.2.2.1 j9)))), (oa, .inl (cI, 400, .inl z.2.2.2.1)), (ma, .inl (cI, 20, .inl rm)), (oj, .inl (cJ, 1, .inr (.inl ou)))]) (some (.int 1)) [(c0, .inr (3, [.ref s0, .ref m0, .int 0])), (m0, .inr (1, [.ref s0, .ref g0, .ref ra, .ref sa, .ref oa, .int (nI R.1.2.2.2.2), .ref ma, .int (nI R.2.2)])), (g0, .inr (0, [.int R.1.1.1, .int R.1.1.2.1, .long R.1.1.2.2.1, .long R.1.1.2.2.2.1, .long R.1.1.2.2.2.2])), (s0, .inr (2, [.ref xa, .ref ya, .int (nI n)])), (xa, .inl (cI, 20, .inl x)), (ya, .inl (cI, 20, .inl y)), (ra, .inl (cI, 105, .inl (fun j9 => nI (R.1.2.1 j9)))), (sa, .inl (cI, 36, .inl (fun j9 => nI (R.1.2.2.1 j9)))), (oa, .inl (cI, 400, .inl R.1.2.2.2.1)), (ma, .inl (cI, 20, .inl R.2.1)), (oj, .inl (cJ, 1, .inr (.inl ou)))]) 1 6 (q_in [(c0, .inr (3, [.ref s0, .ref m0, .int st])), (m0, .inr (1, [.ref s0, .ref g0, .ref ra, .ref sa, .ref oa, .int (nI z.2.2.2.2), .ref ma, .int (nI rc)])), (g0, .inr (0, [.int z.1.1, .int z.1.2.1, .long z.1.2.2.1, .long z.1.2.2.2.1, .long z.1.2.2.2.2])), (s0, .inr (2, [.ref xa, .ref ya, .int (nI n)])), (xa, .inl (cI, 20, .inl x)), (ya, .inl (cI, 20, .inl y)), (ra, .inl (cI, 105, .inl (fun j9 => nI (z.2.1 j9)))), (sa, .inl (cI, 36, .inl (fun j9 => nI (z.2.2.1 j9)))), (oa, .inl (cI, 400, .inl z.2.2.2.1)), (ma, .inl (cI, 20, .inl rm)), (oj, .inl (cJ, 1, .inr (.inl ou)))]) := by
  refine va_MetW (cc := cL_centre) (maxL := 5) (ret := (some .int)) (hh := [(0, 9, 12, 31), (0, 9, 16, 13)]) (by decide) rfl ?_
  intro p e s m args below meth c s₁ B hml hv
  obtain ⟨rfl, hP, hK, hD0, hE, hNc⟩ := hv
  have hx := B.exec
  have hb := B.bytes
  have hr := B.returns
  have hts := atoms_spec (ws := wsL_centre) B.pre
  have hown : s.vm.findClass RL = some m.cls := findClass_of_methodNamed B.named
  have hlocks := B.notSynchronized
  have htab := vx_table (x := yL_centre) B (hts (.codeWith yL_centre cL_centre 5 (some .int) [(0, 9, 12, 31), (0, 9, 16, 13)]) List.mem_cons_self)
  have hD := q_inD hD0
  generalize hAe : q_in [(c0, .inr (3, [.ref s0, .ref m0, .int st])), (m0, .inr (1, [.ref s0, .ref g0, .ref ra, .ref sa, .ref oa, .int (nI z.2.2.2.2), .ref ma, .int (nI rc)])), (g0, .inr (0, [.int z.1.1, .int z.1.2.1, .long z.1.2.2.1, .long z.1.2.2.2.1, .long z.1.2.2.2.2])), (s0, .inr (2, [.ref xa, .ref ya, .int (nI n)])), (xa, .inl (cI, 20, .inl x)), (ya, .inl (cI, 20, .inl y)), (ra, .inl (cI, 105, .inl (fun j9 => nI (z.2.1 j9)))), (sa, .inl (cI, 36, .inl (fun j9 => nI (z.2.2.1 j9)))), (oa, .inl (cI, 400, .inl z.2.2.2.1)), (ma, .inl (cI, 20, .inl rm)), (oj, .inl (cJ, 1, .inr (.inl ou)))] = A at hD hE ⊢
  have hS : va_S A s.heap s.heap [] := va_S.rf
  have hP : va_P (dC, dI) vwCl [(c0, .inr (3, [.ref s0, .ref m0, .int st])), (m0, .inr (1, [.ref s0, .ref g0, .ref ra, .ref sa, .ref oa, .int (nI z.2.2.2.2), .ref ma, .int (nI rc)])), (g0, .inr (0, [.int z.1.1, .int z.1.2.1, .long z.1.2.2.1, .long z.1.2.2.2.1, .long z.1.2.2.2.2])), (s0, .inr (2, [.ref xa, .ref ya, .int (nI n)])), (xa, .inl (cI, 20, .inl x)), (ya, .inl (cI, 20, .inl y)), (ra, .inl (cI, 105, .inl (fun j9 => nI (z.2.1 j9)))), (sa, .inl (cI, 36, .inl (fun j9 => nI (z.2.2.1 j9)))), (oa, .inl (cI, 400, .inl z.2.2.2.1)), (ma, .inl (cI, 20, .inl rm)), (oj, .inl (cJ, 1, .inr (.inl ou)))] s.heap := hP
  have hl := lv_entry ([.ref c0, .int w, .int t, .ref oj]) (n := 5) (Nat.le_of_ble_eq_true rfl)
  rw [lg_entry_eq]
  generalize (lg_sl ([.ref c0, .int w, .int t, .ref oj]) ++ List.replicate (5 - (lg_sl ([.ref c0, .int w, .int t, .ref oj])).length) Slot.unset).toArray = ls at hl ⊢
  have hl : lv_has ls 5 [(0, .ref c0), (1, .int w), (2, .int t), (3, .ref oj)] := hl
  refine lv_aload_n hx hb dL_centre_0 rfl (lv_at hl 3 rfl) ?_
  refine lv_iconst (v := nI 0) hx hb dL_centre_1 (by decide) ?_
  refine lv_aload_n hx hb dL_centre_2 rfl (lv_at hl 0 rfl) ?_
  refine lv_iload_n hx hb dL_centre_3 rfl (lv_at hl 1 rfl) ?_
  refine lv_iload_n hx hb dL_centre_4 rfl (lv_at hl 2 rfl) ?_
  obtain ⟨r1, hr1⟩ : ∃ r : ((Int32 × Int32 × Int64 × Int64 × Int64) × (Nat → Nat) × (Nat → Nat) × (Nat → Int32) × Nat) × (Nat → Int32) × Nat, j_refr x y n st z rm rc = r := ⟨_, rfl⟩
  refine q_tV (en := q_NE) (wc' := [(c0, .inr (3, [.ref s0, .ref m0, .int 0])), (m0, .inr (1, [.ref s0, .ref g0, .ref ra, .ref sa, .ref oa, .int (nI r1.1.2.2.2.2), .ref ma, .int (nI r1.2.2)])), (g0, .inr (0, [.int r1.1.1.1, .int r1.1.1.2.1, .long r1.1.1.2.2.1, .long r1.1.1.2.2.2.1, .long r1.1.1.2.2.2.2])), (s0, .inr (2, [.ref xa, .ref ya, .int (nI n)])), (xa, .inl (cI, 20, .inl x)), (ya, .inl (cI, 20, .inl y)), (ra, .inl (cI, 105, .inl (fun j9 => nI (r1.1.2.1 j9)))), (sa, .inl (cI, 36, .inl (fun j9 => nI (r1.1.2.2.1 j9)))), (oa, .inl (cI, 400, .inl r1.1.2.2.2.1)), (ma, .inl (cI, 20, .inl r1.2.1))]) (wsN := [(c0, .inr (3, [.ref s0, .ref m0, .int 0])), (m0, .inr (1, [.ref s0, .ref g0, .ref ra, .ref sa, .ref oa, .int (nI r1.1.2.2.2.2), .ref ma, .int (nI r1.2.2)])), (g0, .inr (0, [.int r1.1.1.1, .int r1.1.1.2.1, .long r1.1.1.2.2.1, .long r1.1.1.2.2.2.1, .long r1.1.1.2.2.2.2])), (s0, .inr (2, [.ref xa, .ref ya, .int (nI n)])), (xa, .inl (cI, 20, .inl x)), (ya, .inl (cI, 20, .inl y)), (ra, .inl (cI, 105, .inl (fun j9 => nI (r1.1.2.1 j9)))), (sa, .inl (cI, 36, .inl (fun j9 => nI (r1.1.2.2.1 j9)))), (oa, .inl (cI, 400, .inl r1.1.2.2.2.1)), (ma, .inl (cI, 20, .inl r1.2.1)), (oj, .inl (cJ, 1, .inr (.inl ou)))]) (As := [.int w, .int t]) (rest := [.int (nI 0), .ref oj]) ⟨hx, hb, hml, hown, hts⟩ (t2_X3_centre l hst9 dC dI c0 m0 s0 g0 ra sa oa ma xa ya cI x y st (by omega) rm rc n w t ln lr ls0 ht hf r1 hr1) (cwV 2 hts gL_centre_X3_centre rfl rfl rfl (by decide +kernel) ⟨Nat.le_of_ble_eq_true rfl, Nat.le_of_ble_eq_true rfl⟩) hE hK hP hD hS [0, 1, 2, 3, 4, 5, 6, 7, 8, 9] [0] 3 0 rfl rfl rfl rfl rfl rfl rfl rfl rfl hl.1 rfl (Nat.le_of_ble_eq_true rfl) ⟨Nat.le_of_ble_eq_true rfl, Nat.le_of_ble_eq_true rfl⟩ dL_centre_5 rfl (fun H locs q9 ce hP hD hS hq9 hcv hcl => ?_)
  rw [hr1] at hR
  subst hR
  refine q_catchL (h := 12) (fun hpl => ?_) hq9 hcv hcl ?_
  · rw [htab]
    exact q_hit (x := ⟨0, 9, 12, 31⟩) hpl hown (by decide) (by decide) (hts (.classLink RL 31 "java/util/NoSuchElementException") (by decide +kernel)) (hE.2.2.1 _ (by decide)) hcl
  refine lv_astore (lv' := [(4, .ref q9), (0, .ref c0), (1, .int w), (2, .int t), (3, .ref oj)]) hx hb dL_centre_12 hl (by decide) rfl (fun ls hl => ?_)
  refine lv_iconst (v := 1) hx hb dL_centre_14 (by decide) ?_
  exact W.iret (v := 1) hx hb hr (q_retm hP hS) hS.2.2 dL_centre_15
