/-! The law's own methods, case by case -/
set_option maxHeartbeats 4000000 in
set_option maxRecDepth 100000 in
theorem lR_L_move (l : Launch) (hst9 : l.stackTraces = false) (dC : Nat → ClassId) (dI : Nat → Nat → Nat) (c0 m0 s0 xa ya : Nat) (cI : ClassId) (x y : Nat → Int32) (st : Int32) (n : Nat) (k : Nat) (px py : Int32) (lk : k < n) (ln : n ≤ 20) (hf : r_far px py = false) (hj : j_num x y n px py 0 = -1 ∨ j_num x y n px py 0 = nI k) : Met l yL_move wsL_move ({ frames := 8, cells := 1, slots := 6, locals := 127 }) (q_Py (dC, dI) [.ref c0, .int (nI k), .int px, .int py] [(c0, .inr (3, [.ref s0, .ref m0, .int st])), (s0, .inr (2, [.ref xa, .ref ya, .int (nI n)])), (xa, .inl (cI, 20, .inl x)), (ya, .inl (cI, 20, .inl y))] [(cI, .int)]) (q_Qm (dC, dI) (q_in [(c0, .inr (3, [.ref s0, .ref m0, .int st])), (s0, .inr (2, [.ref xa, .ref ya, .int (nI n)])), (xa, .inl (cI, 20, .inl x)), (ya, .inl (cI, 20, .inl y))]) (some (.int 0)) [(c0, .inr (3, [.ref s0, .ref m0, .int 1])), (s0, .inr (2, [.ref xa, .ref ya, .int (nI n)])), (xa, .inl (cI, 20, .inl (upd x k px))), (ya, .inl (cI, 20, .inl (upd y k py)))]) 1 6 (q_in [(c0, .inr (3, [.ref s0, .ref m0, .int st])), (s0, .inr (2, [.ref xa, .ref ya, .int (nI n)])), (xa, .inl (cI, 20, .inl x)), (ya, .inl (cI, 20, .inl y))]) := by
  refine va_MetW (cc := cL_move) (maxL := 5) (ret := (some .int)) (hh := [(0, 7, 10, 13)]) (by decide) rfl ?_
  intro p e s m args below meth c s₁ B hml hv
  obtain ⟨rfl, hP, hK, hD0, hE, hNc⟩ := hv
  have hx := B.exec
  have hb := B.bytes
  have hr := B.returns
  have hts := atoms_spec (ws := wsL_move) B.pre
  have hown : s.vm.findClass RL = some m.cls := findClass_of_methodNamed B.named
  have hlocks := B.notSynchronized
  have htab := vx_table (x := yL_move) B (hts (.codeWith yL_move cL_move 5 (some .int) [(0, 7, 10, 13)]) List.mem_cons_self)
  have hD := q_inD hD0
  generalize hAe : q_in [(c0, .inr (3, [.ref s0, .ref m0, .int st])), (s0, .inr (2, [.ref xa, .ref ya, .int (nI n)])), (xa, .inl (cI, 20, .inl x)), (ya, .inl (cI, 20, .inl y))] = A at hD hE ⊢
  have hS : va_S A s.heap s.heap [] := va_S.rf
  have hP : va_P (dC, dI) vwCl [(c0, .inr (3, [.ref s0, .ref m0, .int st])), (s0, .inr (2, [.ref xa, .ref ya, .int (nI n)])), (xa, .inl (cI, 20, .inl x)), (ya, .inl (cI, 20, .inl y))] s.heap := hP
  have hl := lv_entry ([.ref c0, .int (nI k), .int px, .int py]) (n := 5) (Nat.le_of_ble_eq_true rfl)
  rw [lg_entry_eq]
  generalize (lg_sl ([.ref c0, .int (nI k), .int px, .int py]) ++ List.replicate (5 - (lg_sl ([.ref c0, .int (nI k), .int px, .int py])).length) Slot.unset).toArray = ls at hl ⊢
  have hl : lv_has ls 5 [(0, .ref c0), (1, .int (nI k)), (2, .int px), (3, .int py)] := hl
  refine lv_aload_n hx hb dL_move_0 rfl (lv_at hl 0 rfl) ?_
  refine lv_iload_n hx hb dL_move_1 rfl (lv_at hl 1 rfl) ?_
  refine lv_iload_n hx hb dL_move_2 rfl (lv_at hl 2 rfl) ?_
  refine lv_iload_n hx hb dL_move_3 rfl (lv_at hl 3 rfl) ?_
  refine q_mV (wc' := [(c0, .inr (3, [.ref s0, .ref m0, .int 1])), (s0, .inr (2, [.ref xa, .ref ya, .int (nI n)])), (xa, .inl (cI, 20, .inl (upd x k px))), (ya, .inl (cI, 20, .inl (upd y k py)))]) (wsN := [(c0, .inr (3, [.ref s0, .ref m0, .int 1])), (s0, .inr (2, [.ref xa, .ref ya, .int (nI n)])), (xa, .inl (cI, 20, .inl (upd x k px))), (ya, .inl (cI, 20, .inl (upd y k py)))]) (As := [.int (nI k), .int px, .int py]) (rest := []) ⟨hx, hb, hml, hown, hts⟩ (c_X3_move l dC dI c0 m0 s0 xa ya cI x y st n k px py lk ln hf hj) (cwV 3 hts gL_move_X3_move rfl rfl rfl (by decide +kernel) ⟨Nat.le_of_ble_eq_true rfl, Nat.le_of_ble_eq_true rfl⟩) hK hP hD hS [0, 1, 2, 3] [0] 3 0 rfl rfl rfl rfl rfl rfl rfl rfl rfl hl.1 rfl (Nat.le_of_ble_eq_true rfl) ⟨Nat.zero_le _, Nat.zero_le _⟩ dL_move_4 rfl (fun H locs hP hD hS => ?_)
  refine W.eq (g2 := F0 m 7 ls []) rfl ?_
  refine lv_goto (tgt := 14) hx hb dL_move_7 (by decide) ?_
  refine lv_iconst (v := 0) hx hb dL_move_14 (by decide) ?_
  refine W.widen (k := 1) (n := 6) (Nat.zero_le _) (Nat.zero_le _) ?_
  exact W.iret (v := 0) hx hb hr (q_retm hP hS) hS.2.2 dL_move_15
set_option maxHeartbeats 4000000 in
set_option maxRecDepth 100000 in
theorem l1_L_move (l : Launch) (hst9 : l.stackTraces = false) (dC : Nat → ClassId) (dI : Nat → Nat → Nat) (c0 m0 s0 xa ya : Nat) (cI : ClassId) (x y : Nat → Int32) (st : Int32) (n : Nat) (w px py : Int32) (hf : r_out w (nI n) = true) : Met l yL_move wsL_move ({ frames := 8, cells := 1, slots := 6, locals := 127 }) (q_Py (dC, dI) [.ref c0, .int w, .int px, .int py] [(c0, .inr (3, [.ref s0, .ref m0, .int st])), (s0, .inr (2, [.ref xa, .ref ya, .int (nI n)])), (xa, .inl (cI, 20, .inl x)), (ya, .inl (cI, 20, .inl y))] [(cI, .int)]) (q_Qm (dC, dI) (q_in [(c0, .inr (3, [.ref s0, .ref m0, .int st])), (s0, .inr (2, [.ref xa, .ref ya, .int (nI n)])), (xa, .inl (cI, 20, .inl x)), (ya, .inl (cI, 20, .inl y))]) (some (.int 1)) [(c0, .inr (3, [.ref s0, .ref m0, .int st])), (s0, .inr (2, [.ref xa, .ref ya, .int (nI n)])), (xa, .inl (cI, 20, .inl x)), (ya, .inl (cI, 20, .inl y))]) 1 6 (q_in [(c0, .inr (3, [.ref s0, .ref m0, .int st])), (s0, .inr (2, [.ref xa, .ref ya, .int (nI n)])), (xa, .inl (cI, 20, .inl x)), (ya, .inl (cI, 20, .inl y))]) := by
  refine va_MetW (cc := cL_move) (maxL := 5) (ret := (some .int)) (hh := [(0, 7, 10, 13)]) (by decide) rfl ?_
  intro p e s m args below meth c s₁ B hml hv
  obtain ⟨rfl, hP, hK, hD0, hE, hNc⟩ := hv
  have hx := B.exec
  have hb := B.bytes
  have hr := B.returns
  have hts := atoms_spec (ws := wsL_move) B.pre
  have hown : s.vm.findClass RL = some m.cls := findClass_of_methodNamed B.named
  have hlocks := B.notSynchronized
  have htab := vx_table (x := yL_move) B (hts (.codeWith yL_move cL_move 5 (some .int) [(0, 7, 10, 13)]) List.mem_cons_self)
  have hD := q_inD hD0
  generalize hAe : q_in [(c0, .inr (3, [.ref s0, .ref m0, .int st])), (s0, .inr (2, [.ref xa, .ref ya, .int (nI n)])), (xa, .inl (cI, 20, .inl x)), (ya, .inl (cI, 20, .inl y))] = A at hD hE ⊢
  have hS : va_S A s.heap s.heap [] := va_S.rf
  have hP : va_P (dC, dI) vwCl [(c0, .inr (3, [.ref s0, .ref m0, .int st])), (s0, .inr (2, [.ref xa, .ref ya, .int (nI n)])), (xa, .inl (cI, 20, .inl x)), (ya, .inl (cI, 20, .inl y))] s.heap := hP
  have hl := lv_entry ([.ref c0, .int w, .int px, .int py]) (n := 5) (Nat.le_of_ble_eq_true rfl)
  rw [lg_entry_eq]
  generalize (lg_sl ([.ref c0, .int w, .int px, .int py]) ++ List.replicate (5 - (lg_sl ([.ref c0, .int w, .int px, .int py])).length) Slot.unset).toArray = ls at hl ⊢
  have hl : lv_has ls 5 [(0, .ref c0), (1, .int w), (2, .int px), (3, .int py)] := hl
  refine lv_aload_n hx hb dL_move_0 rfl (lv_at hl 0 rfl) ?_
  refine lv_iload_n hx hb dL_move_1 rfl (lv_at hl 1 rfl) ?_
  refine lv_iload_n hx hb dL_move_2 rfl (lv_at hl 2 rfl) ?_
  refine lv_iload_n hx hb dL_move_3 rfl (lv_at hl 3 rfl) ?_
  refine q_tV (en := q_IA) (wc' := [(c0, .inr (3, [.ref s0, .ref m0, .int st])), (s0, .inr (2, [.ref xa, .ref ya, .int (nI n)])), (xa, .inl (cI, 20, .inl x)), (ya, .inl (cI, 20, .inl y))]) (wsN := [(c0, .inr (3, [.ref s0, .ref m0, .int st])), (s0, .inr (2, [.ref xa, .ref ya, .int (nI n)])), (xa, .inl (cI, 20, .inl x)), (ya, .inl (cI, 20, .inl y))]) (As := [.int w, .int px, .int py]) (rest := []) ⟨hx, hb, hml, hown, hts⟩ (t1_X3_move l hst9 dC dI c0 m0 s0 xa ya cI x y st n w px py hf) (cwV 3 hts gL_move_X3_move rfl rfl rfl (by decide +kernel) ⟨Nat.le_of_ble_eq_true rfl, Nat.le_of_ble_eq_true rfl⟩) hE hK hP hD hS [0, 1, 2, 3] [0] 3 0 rfl rfl rfl rfl rfl rfl rfl rfl rfl hl.1 rfl (Nat.le_of_ble_eq_true rfl) ⟨Nat.le_of_ble_eq_true rfl, Nat.le_of_ble_eq_true rfl⟩ dL_move_4 rfl (fun H locs q9 ce hP hD hS hq9 hcv hcl => ?_)
  refine q_catchL (h := 10) (fun hpl => ?_) hq9 hcv hcl ?_
  · rw [htab]
    exact q_hit (E := q_IA) (x := ⟨0, 7, 10, 13⟩) hpl hown (by decide) (by decide) (hts (.classLink RL 13 "java/lang/IllegalArgumentException") (by decide +kernel)) (hE.2.2.1 _ q_m_IA) hcl
  refine lv_astore (lv' := [(4, .ref q9), (0, .ref c0), (1, .int w), (2, .int px), (3, .int py)]) hx hb dL_move_10 hl (by decide) rfl (fun ls hl => ?_)
  refine lv_iconst (v := 1) hx hb dL_move_12 (by decide) ?_
  exact W.iret (v := 1) hx hb hr (q_retm hP hS) hS.2.2 dL_move_13
set_option maxHeartbeats 4000000 in
set_option maxRecDepth 100000 in
theorem l2_L_move (l : Launch) (hst9 : l.stackTraces = false) (dC : Nat → ClassId) (dI : Nat → Nat → Nat) (c0 m0 s0 xa ya : Nat) (cI : ClassId) (x y : Nat → Int32) (st : Int32) (n : Nat) (k : Nat) (px py : Int32) (lk : k < n) (ln : n ≤ 20) (hf : r_far px py = true) : Met l yL_move wsL_move ({ frames := 8, cells := 1, slots := 6, locals := 127 }) (q_Py (dC, dI) [.ref c0, .int (nI k), .int px, .int py] [(c0, .inr (3, [.ref s0, .ref m0, .int st])), (s0, .inr (2, [.ref xa, .ref ya, .int (nI n)])), (xa, .inl (cI, 20, .inl x)), (ya, .inl (cI, 20, .inl y))] [(cI, .int)]) (q_Qm (dC, dI) (q_in [(c0, .inr (3, [.ref s0, .ref m0, .int st])), (s0, .inr (2, [.ref xa, .ref ya, .int (nI n)])), (xa, .inl (cI, 20, .inl x)), (ya, .inl (cI, 20, .inl y))]) (some (.int 1)) [(c0, .inr (3, [.ref s0, .ref m0, .int st])), (s0, .inr (2, [.ref xa, .ref ya, .int (nI n)])), (xa, .inl (cI, 20, .inl x)), (ya, .inl (cI, 20, .inl y))]) 1 6 (q_in [(c0, .inr (3, [.ref s0, .ref m0, .int st])), (s0, .inr (2, [.ref xa, .ref ya, .int (nI n)])), (xa, .inl (cI, 20, .inl x)), (ya, .inl (cI, 20, .inl y))]) := by
  refine va_MetW (cc := cL_move) (maxL := 5) (ret := (some .int)) (hh := [(0, 7, 10, 13)]) (by decide) rfl ?_
  intro p e s m args below meth c s₁ B hml hv
  obtain ⟨rfl, hP, hK, hD0, hE, hNc⟩ := hv
  have hx := B.exec
  have hb := B.bytes
  have hr := B.returns
  have hts := atoms_spec (ws := wsL_move) B.pre
  have hown : s.vm.findClass RL = some m.cls := findClass_of_methodNamed B.named
  have hlocks := B.notSynchronized
  have htab := vx_table (x := yL_move) B (hts (.codeWith yL_move cL_move 5 (some .int) [(0, 7, 10, 13)]) List.mem_cons_self)
  have hD := q_inD hD0
  generalize hAe : q_in [(c0, .inr (3, [.ref s0, .ref m0, .int st])), (s0, .inr (2, [.ref xa, .ref ya, .int (nI n)])), (xa, .inl (cI, 20, .inl x)), (ya, .inl (cI, 20, .inl y))] = A at hD hE ⊢
  have hS : va_S A s.heap s.heap [] := va_S.rf
  have hP : va_P (dC, dI) vwCl [(c0, .inr (3, [.ref s0, .ref m0, .int st])), (s0, .inr (2, [.ref xa, .ref ya, .int (nI n)])), (xa, .inl (cI, 20, .inl x)), (ya, .inl (cI, 20, .inl y))] s.heap := hP
  have hl := lv_entry ([.ref c0, .int (nI k), .int px, .int py]) (n := 5) (Nat.le_of_ble_eq_true rfl)
  rw [lg_entry_eq]
  generalize (lg_sl ([.ref c0, .int (nI k), .int px, .int py]) ++ List.replicate (5 - (lg_sl ([.ref c0, .int (nI k), .int px, .int py])).length) Slot.unset).toArray = ls at hl ⊢
  have hl : lv_has ls 5 [(0, .ref c0), (1, .int (nI k)), (2, .int px), (3, .int py)] := hl
  refine lv_aload_n hx hb dL_move_0 rfl (lv_at hl 0 rfl) ?_
  refine lv_iload_n hx hb dL_move_1 rfl (lv_at hl 1 rfl) ?_
  refine lv_iload_n hx hb dL_move_2 rfl (lv_at hl 2 rfl) ?_
  refine lv_iload_n hx hb dL_move_3 rfl (lv_at hl 3 rfl) ?_
  refine q_tV (en := q_IA) (wc' := [(c0, .inr (3, [.ref s0, .ref m0, .int st])), (s0, .inr (2, [.ref xa, .ref ya, .int (nI n)])), (xa, .inl (cI, 20, .inl x)), (ya, .inl (cI, 20, .inl y))]) (wsN := [(c0, .inr (3, [.ref s0, .ref m0, .int st])), (s0, .inr (2, [.ref xa, .ref ya, .int (nI n)])), (xa, .inl (cI, 20, .inl x)), (ya, .inl (cI, 20, .inl y))]) (As := [.int (nI k), .int px, .int py]) (rest := []) ⟨hx, hb, hml, hown, hts⟩ (t2_X3_move l hst9 dC dI c0 m0 s0 xa ya cI x y st n k px py lk ln hf) (cwV 3 hts gL_move_X3_move rfl rfl rfl (by decide +kernel) ⟨Nat.le_of_ble_eq_true rfl, Nat.le_of_ble_eq_true rfl⟩) hE hK hP hD hS [0, 1, 2, 3] [0] 3 0 rfl rfl rfl rfl rfl rfl rfl rfl rfl hl.1 rfl (Nat.le_of_ble_eq_true rfl) ⟨Nat.le_of_ble_eq_true rfl, Nat.le_of_ble_eq_true rfl⟩ dL_move_4 rfl (fun H locs q9 ce hP hD hS hq9 hcv hcl => ?_)
  refine q_catchL (h := 10) (fun hpl => ?_) hq9 hcv hcl ?_
  · rw [htab]
    exact q_hit (E := q_IA) (x := ⟨0, 7, 10, 13⟩) hpl hown (by decide) (by decide) (hts (.classLink RL 13 "java/lang/IllegalArgumentException") (by decide +kernel)) (hE.2.2.1 _ q_m_IA) hcl
  refine lv_astore (lv' := [(4, .ref q9), (0, .ref c0), (1, .int (nI k)), (2, .int px), (3, .int py)]) hx hb dL_move_10 hl (by decide) rfl (fun ls hl => ?_)
  refine lv_iconst (v := 1) hx hb dL_move_12 (by decide) ?_
  exact W.iret (v := 1) hx hb hr (q_retm hP hS) hS.2.2 dL_move_13
set_option maxHeartbeats 4000000 in
set_option maxRecDepth 100000 in
theorem l3_L_move (l : Launch) (hst9 : l.stackTraces = false) (dC : Nat → ClassId) (dI : Nat → Nat → Nat) (c0 m0 s0 xa ya : Nat) (cI : ClassId) (x y : Nat → Int32) (st : Int32) (n : Nat) (k : Nat) (px py : Int32) (lk : k < n) (ln : n ≤ 20) (hf : r_far px py = false) (hj : ¬ j_num x y n px py 0 = -1) (hj2 : ¬ j_num x y n px py 0 = nI k) : Met l yL_move wsL_move ({ frames := 8, cells := 1, slots := 6, locals := 127 }) (q_Py (dC, dI) [.ref c0, .int (nI k), .int px, .int py] [(c0, .inr (3, [.ref s0, .ref m0, .int st])), (s0, .inr (2, [.ref xa, .ref ya, .int (nI n)])), (xa, .inl (cI, 20, .inl x)), (ya, .inl (cI, 20, .inl y))] [(cI, .int)]) (q_Qm (dC, dI) (q_in [(c0, .inr (3, [.ref s0, .ref m0, .int st])), (s0, .inr (2, [.ref xa, .ref ya, .int (nI n)])), (xa, .inl (cI, 20, .inl x)), (ya, .inl (cI, 20, .inl y))]) (some (.int 1)) [(c0, .inr (3, [.ref s0, .ref m0, .int st])), (s0, .inr (2, [.ref xa, .ref ya, .int (nI n)])), (xa, .inl (cI, 20, .inl x)), (ya, .inl (cI, 20, .inl y))]) 1 6 (q_in [(c0, .inr (3, [.ref s0, .ref m0, .int st])), (s0, .inr (2, [.ref xa, .ref ya, .int (nI n)])), (xa, .inl (cI, 20, .inl x)), (ya, .inl (cI, 20, .inl y))]) := by
  refine va_MetW (cc := cL_move) (maxL := 5) (ret := (some .int)) (hh := [(0, 7, 10, 13)]) (by decide) rfl ?_
  intro p e s m args below meth c s₁ B hml hv
  obtain ⟨rfl, hP, hK, hD0, hE, hNc⟩ := hv
  have hx := B.exec
  have hb := B.bytes
  have hr := B.returns
  have hts := atoms_spec (ws := wsL_move) B.pre
  have hown : s.vm.findClass RL = some m.cls := findClass_of_methodNamed B.named
  have hlocks := B.notSynchronized
  have htab := vx_table (x := yL_move) B (hts (.codeWith yL_move cL_move 5 (some .int) [(0, 7, 10, 13)]) List.mem_cons_self)
  have hD := q_inD hD0
  generalize hAe : q_in [(c0, .inr (3, [.ref s0, .ref m0, .int st])), (s0, .inr (2, [.ref xa, .ref ya, .int (nI n)])), (xa, .inl (cI, 20, .inl x)), (ya, .inl (cI, 20, .inl y))] = A at hD hE ⊢
  have hS : va_S A s.heap s.heap [] := va_S.rf
  have hP : va_P (dC, dI) vwCl [(c0, .inr (3, [.ref s0, .ref m0, .int st])), (s0, .inr (2, [.ref xa, .ref ya, .int (nI n)])), (xa, .inl (cI, 20, .inl x)), (ya, .inl (cI, 20, .inl y))] s.heap := hP
  have hl := lv_entry ([.ref c0, .int (nI k), .int px, .int py]) (n := 5) (Nat.le_of_ble_eq_true rfl)
  rw [lg_entry_eq]
  generalize (lg_sl ([.ref c0, .int (nI k), .int px, .int py]) ++ List.replicate (5 - (lg_sl ([.ref c0, .int (nI k), .int px, .int py])).length) Slot.unset).toArray = ls at hl ⊢
  have hl : lv_has ls 5 [(0, .ref c0), (1, .int (nI k)), (2, .int px), (3, .int py)] := hl
  refine lv_aload_n hx hb dL_move_0 rfl (lv_at hl 0 rfl) ?_
  refine lv_iload_n hx hb dL_move_1 rfl (lv_at hl 1 rfl) ?_
  refine lv_iload_n hx hb dL_move_2 rfl (lv_at hl 2 rfl) ?_
  refine lv_iload_n hx hb dL_move_3 rfl (lv_at hl 3 rfl) ?_
  refine q_tV (en := q_IA) (wc' := [(c0, .inr (3, [.ref s0, .ref m0, .int st])), (s0, .inr (2, [.ref xa, .ref ya, .int (nI n)])), (xa, .inl (cI, 20, .inl x)), (ya, .inl (cI, 20, .inl y))]) (wsN := [(c0, .inr (3, [.ref s0, .ref m0, .int st])), (s0, .inr (2, [.ref xa, .ref ya, .int (nI n)])), (xa, .inl (cI, 20, .inl x)), (ya, .inl (cI, 20, .inl y))]) (As := [.int (nI k), .int px, .int py]) (rest := []) ⟨hx, hb, hml, hown, hts⟩ (t3_X3_move l hst9 dC dI c0 m0 s0 xa ya cI x y st n k px py lk ln hf hj hj2) (cwV 3 hts gL_move_X3_move rfl rfl rfl (by decide +kernel) ⟨Nat.le_of_ble_eq_true rfl, Nat.le_of_ble_eq_true rfl⟩) hE hK hP hD hS [0, 1, 2, 3] [0] 3 0 rfl rfl rfl rfl rfl rfl rfl rfl rfl hl.1 rfl (Nat.le_of_ble_eq_true rfl) ⟨Nat.le_of_ble_eq_true rfl, Nat.le_of_ble_eq_true rfl⟩ dL_move_4 rfl (fun H locs q9 ce hP hD hS hq9 hcv hcl => ?_)
  refine q_catchL (h := 10) (fun hpl => ?_) hq9 hcv hcl ?_
  · rw [htab]
    exact q_hit (E := q_IA) (x := ⟨0, 7, 10, 13⟩) hpl hown (by decide) (by decide) (hts (.classLink RL 13 "java/lang/IllegalArgumentException") (by decide +kernel)) (hE.2.2.1 _ q_m_IA) hcl
  refine lv_astore (lv' := [(4, .ref q9), (0, .ref c0), (1, .int (nI k)), (2, .int px), (3, .int py)]) hx hb dL_move_10 hl (by decide) rfl (fun ls hl => ?_)
  refine lv_iconst (v := 1) hx hb dL_move_12 (by decide) ?_
  exact W.iret (v := 1) hx hb hr (q_retm hP hS) hS.2.2 dL_move_13
