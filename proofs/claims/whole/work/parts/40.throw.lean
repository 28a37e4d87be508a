/-! Methods that throw: what they want of the start; a throw; a callee that throws. -/
def q_strs : List (Nat × String) := [(129, "x and y are from -400 to 400"), (39, "there is a site at the place"), (50, "there are 20 sites"), (131, "no such site"), (63, "another site is there"), (72, "what is 0 or 1"), (135, "no such cell"), (140, "no such i"), (103, "what is 0, 1 or 2"), (124, "there is no site")]
abbrev q_up : List String := ["java/lang/RuntimeException", "java/lang/Exception"]
abbrev q_IA : String := "java/lang/IllegalArgumentException"
abbrev q_IS : String := "java/lang/IllegalStateException"
abbrev q_NE : String := "java/util/NoSuchElementException"
abbrev q_IO : String := "java/lang/IndexOutOfBoundsException"
def q_exs : List String := [q_IA, q_IS, q_NE, q_IO]
def q_E (A : Nat → Prop) (U : State) (H : Heap) : Prop :=
  (vx_Zq Bundle.tN "UNASSIGNED_STACK" Bundle.steD A U H ∧ vx_Zq Bundle.tN "SUPPRESSED_SENTINEL" Bundle.listD A U H) ∧ (va_Nw (.declares (Bundle.initS "java/lang/RuntimeException")) U ∧ va_Nw (.declares (Bundle.initS "java/lang/Exception")) U ∧ va_Nw (.declares (Bundle.initS Bundle.tN)) U) ∧ (∀ X ∈ q_exs, va_Nw (.castable X X) U) ∧ ∀ q ∈ q_strs, ∃ sa, vk_R RX3 q.1 q.2 sa U
theorem q_E.same {A : Nat → Prop} {u U : State} {H : Heap} (hv : u.vm = U.vm) (h : q_E A u H) : q_E A U H := by
  obtain ⟨⟨h1, h2⟩, ⟨h3, h4, h5⟩, h6, h7⟩ := h
  have ha : u.vm.Alike U.vm := by rw [hv]; exact Vm.Alike.refl _
  exact ⟨⟨h1.moved ha, h2.moved ha⟩, ⟨va_Nw.same rfl hv h3, va_Nw.same rfl hv h4, va_Nw.same rfl hv h5⟩, fun X hX => va_Nw.same rfl hv (h6 X hX), fun q hq => by
    obtain ⟨sa, h⟩ := h7 q hq
    exact ⟨sa, vk_R.same hv.symm h⟩⟩
theorem q_E.at {A B : Nat → Prop} {s U : State} {H : Heap} {locs : List Loc} (h : q_E A s s.heap) (hW : s.WarmedH U.vm) (hU : U.heap = H) (hS : va_S A s.heap H locs) (hAB : ∀ q, B q → A q) : q_E B U U.heap := by
  obtain ⟨⟨h1, h2⟩, ⟨h3, h4, h5⟩, h6, h7⟩ := h
  have hk : ∀ a : Nat, a < s.heap.size → ¬ A a → U.heap[a]? = s.heap[a]? := fun a h8 h9 => by rw [hU]; exact hS.2.1 a h8 h9
  exact ⟨⟨((h1.kept hk).narrow hAB).moved hW.alike, ((h2.kept hk).narrow hAB).moved hW.alike⟩, ⟨va_Nw.warmD hW h3, va_Nw.warmD hW h4, va_Nw.warmD hW h5⟩, fun X hX => va_Nw.warmC hW (h6 X hX), fun q hq => by
    obtain ⟨sa, h⟩ := h7 q hq
    exact ⟨sa, vk_R.warm hW h⟩⟩
def q_Px (D : va_G) (av : List Value) (ws : va_W) (tys : List (ClassId × FieldType)) : Array Value → State → Prop := va_Pc av (fun U => va_P D vwCl ws U.heap ∧ va_K D vwCl tys U ∧ va_D (fun _ => True) ws ∧ q_E (q_in ws) U U.heap)
def q_XX (D : va_G) (A : Nat → Prop) (en : String) (ws : va_W) : String → State → State → Prop := fun E st t => E = en ∧ va_P D vwCl ws t.heap ∧ va_F A st t
def q_no : Array Value → State → Outcome → State → Prop := fun _ _ _ _ => False
section QX
variable {p : Program} {l : Launch} {e : Env} {R : Room} {s : State} {m : MethodId} {args : Array Value} {below : List Frame} {meth : Method} {c : Code} {H : Heap} {locs : List Loc} {cells slots : Nat} {Q : State → Prop}
variable {cc : ByteArray} {pc : Nat} {ls : Array Slot} {rest st0 : List Value} {D : va_G} {A : Nat → Prop} {a : Nat} {tys tysc : List (ClassId × FieldType)} {ws wc wc' wsN : va_W} {H0 : Heap}
theorem q_blindx {av : List Value} : FrameBlind (q_Px D av ws tys) := fun a U g mk q => by
  obtain ⟨q0, qP, qK, qD, qE⟩ := q
  exact ⟨q0, qP, va_K.moved (u := U) (U := U.calling g mk a) (Vm.Alike.refl U.vm) qK, qD, q_E.same (u := U) (U := U.calling g mk a) rfl qE⟩
theorem q_inA {is : List Nat} (hD : va_D A ws) (hC : is.map (fun i => ws[i]?) = wc.map some) : ∀ q, q_in wc q → A q := by
  rintro q ⟨k, e, hk⟩
  obtain ⟨i, -, h5⟩ := q_at hC k _ hk
  exact hD.2 i _ h5
/-- 'throw new X("text")' -/
theorem q_throw {own cls text : String} {ik is ic : Nat} {ws' : va_W} (hexec : p.tables.exec = Jvm.exec) (hb : c.code = cc) (hl : l.stackTraces = false) (hown : s.vm.findClass RX3 = some m.cls) (hcls : Bundle.fit cls = true) (hX : cls ∈ q_exs) (htx : (is, text) ∈ q_strs) {Ts : List Cond} (hts : ∀ w ∈ Ts, w.before args s = true)
    (hk : Cond.classLink RX3 ik cls ∈ Ts) (hini : Cond.initialized cls ∈ Ts) (hgd : ∀ w ∈ (vx_atS RX3 ic cls q_up).filter goodWord, w ∈ Ts) (hng : ∀ w ∈ (vx_atS RX3 ic cls q_up).filter (fun w => !goodWord w), w ∈ [Cond.castable cls cls, Cond.declares (Bundle.initS "java/lang/RuntimeException"), Cond.declares (Bundle.initS "java/lang/Exception"), Cond.declares (Bundle.initS Bundle.tN)])
    (hgood : ∀ w ∈ Cond.classLink RX3 ik cls :: Cond.initialized cls :: vx_atS RX3 ic cls q_up, vx_ot w = true) (hE : q_E A s s.heap) (hP : va_P D vwCl ws' H) (hS : va_S A s.heap H locs) (hsize : ls.size = c.maxLocals)
    (d0 : decode cc pc = .ok (.new ik, 3)) (d3 : decode cc (pc + 3) = .ok (.dup, 1)) (d4 : decode cc (pc + 4) = .ok (.ldc is, 2)) (d6 : decode cc (pc + 6) = .ok (.invokespecial ic, 3)) (d9 : decode cc (pc + 9) = .ok (.athrow, 1))
    (hout : ∀ x ∈ c.exceptionTable.toList, False) (hRframes : 6 ≤ R.frames) (hRlocals : (rest.map fun v => v.category).sum + 82 ≤ R.locals) (hRcells : 1 ≤ R.cells) (hRslots : 6 ≤ R.slots) (hlocks : meth.locks = false) :
    W p l e R s m args below meth c H locs 0 0 (vx_MQ below q_no (q_XX D A cls ws') args s 1 6 A) (F0 m pc ls rest) := by
  obtain ⟨⟨h1, h2⟩, ⟨h3, h4, h5⟩, h6, h7⟩ := hE
  obtain ⟨sa, hsa⟩ := h7 _ htx
  have hat : ∀ w ∈ vx_atS RX3 ic cls q_up, w.before args s = true := vx_hat (fun w hw => hts w (hgd w hw)) hng (vx_c (va_Nw.use rfl (h6 cls hX)) (vx_c (va_Nw.use rfl h3) (vx_c (va_Nw.use rfl h4) (vx_c (va_Nw.use rfl h5) vx_n))))
  refine vx_throwS (sa := sa) hexec hb hl hown hcls (by decide +kernel) (hts _ hk) (hts _ hini) hsa hat hgood h1 h2 hS hsize d0 d3 d4 d6 d9 (fun x hx => (hout x hx).elim) (by show 2 + 3 < R.frames; omega) (by show _ + (13 * (2 + 1) + 43) ≤ R.locals; omega) (by omega) (by omega) hlocks (fun t ha hz hk => ⟨rfl, hP.kept (fun k q hq => hk q.1 ((hP k q hq).lt)), Nat.le_trans hS.1 hz, fun q h8 h9 => by rw [hk q (Nat.lt_of_lt_of_le h8 hS.1)]; exact hS.2.1 q h8 h9⟩) hS.2.2 (Nat.le_refl _) (Nat.le_refl _)
/-- a callee that throws: what is behind it -/
theorem q_tV {y : MethodName} {bytes : ByteArray} {maxL nL n index : Nat} {ret : Option FieldType} {wsy : List Cond} {rm : Room} {Ts : List Cond} {own C en : String} {b : Addr} {As av : List Value} {q : vw_C} {fs : List Value}
    (S : CallFix p m c cc nL s args Ts own) (hM : vx_Met l y wsy rm (q_Px D av wc tysc) q_no (q_XX D (q_in wc) en wc') 1 6 (q_in wc)) (cw : CallW R s args own C index y bytes maxL ret wsy rm 1 6 n)
    (hE : q_E A s s.heap) (hK : va_K D vwCl tys s) (hP : va_P D vwCl ws H) (hD : va_D A ws) (hS : va_S A s.heap H locs) (is js : List Nat) (ci q0 : Nat) (hC : is.map (fun i => ws[i]?) = wc.map some) (hnd : va_nd is = true) (hj : js.filterMap (fun i => tys[i]?) = tysc) (hav : .ref b :: As = av) (hc : vwCl[ci]? = some q) (hCn : q.1 = C) (he : ws[q0]? = some (b, .inr (ci, fs))) (hadr : wc'.map (·.1) = wc.map (·.1))
    (hn : As.length = n) (hl : ls.size = nL) (hst : st0 = As.reverse ++ .ref b :: rest) (hW : (rest.map fun v => v.category).sum ≤ 8) (hf : cells + 1 ≤ R.cells ∧ slots + 6 ≤ R.slots) (hdg : decode cc pc = .ok (.invokevirtual index, 3)) (hw : q_put ws is wc' = wsN)
    (kk : ∀ (H1 : Heap) (locs1 : List Loc) (q9 : Addr) (ce : Cell), va_P D vwCl wsN H1 → va_D A wsN → va_S A s.heap H1 locs1 → H1[q9]? = some ce → ce.vm = .none → s.vm.findClass en = some ce.cls → vx_W p l e R s m args below meth c H1 locs1 (cells + 1) (slots + 6) Q (F0 m pc ls rest) q9) : W p l e R s m args below meth c H locs cells slots Q (F0 m pc ls st0) := by
  subst hav
  subst hCn
  subst hw
  intro T hT X
  have hp : PreV s H q.1 b (q_Px D (.ref b :: As) wc tysc) As := ⟨q_blindx, va_recv hK hP hc he, fun U hU hW => ⟨rfl, by rw [hU]; exact hP.sub is (q_sub hC), va_K.moved hW.alike (hK.sub js hj), (hD.sub is hnd hC).weaken (fun _ _ _ _ => trivial), hE.at hW hU hS (q_inA hD hC)⟩⟩
  rcases vx_runV (locs := locs) S hM cw hp rfl hn hl hst (lv_room hW) hdg hf T hT X with ⟨v, st₀, t, T', L, h0, X', hL, e1, e2, hq, st⟩ | ⟨q9, st₀, t, T', L, E, ce, h0, X', hL, e1, e2, ⟨hEn, hP1, hF⟩, hce, hcv, hcl, st⟩
  · exact hq.elim
  · subst hEn
    obtain ⟨a1, a2, a3⟩ := q_afterm h0 e1 hP hD hS is hC hadr hL hP1 hF
    obtain ⟨t2, b1, b2⟩ := kk T'.heap (locs ++ L) q9 ce a1 a2 a3 (by rw [e1]; exact hce) hcv hcl T' rfl X'
    exact ⟨t2, st.trans b1, b2⟩
theorem q_tS {y : MethodName} {bytes : ByteArray} {maxL nL n index : Nat} {ret : Option FieldType} {wsy : List Cond} {rm : Room} {Ts : List Cond} {own en : String} {As av : List Value}
    (S : CallFix p m c cc nL s args Ts own) (hM : vx_Met l y wsy rm (q_Px D av wc tysc) q_no (q_XX D (q_in wc) en wc') 1 6 (q_in wc)) (cw : CallB R s args own index y bytes maxL ret wsy rm 1 6 n ∧ (Cond.static y).before args s = true)
    (hE : q_E A s s.heap) (hK : va_K D vwCl tys s) (hP : va_P D vwCl ws H) (hD : va_D A ws) (hS : va_S A s.heap H locs) (is js : List Nat) (hC : is.map (fun i => ws[i]?) = wc.map some) (hnd : va_nd is = true) (hj : js.filterMap (fun i => tys[i]?) = tysc) (hav : As = av) (hadr : wc'.map (·.1) = wc.map (·.1))
    (hn : As.length = n) (hl : ls.size = nL) (hst : st0 = As.reverse ++ rest) (hW : (rest.map fun v => v.category).sum ≤ 8) (hf : cells + 1 ≤ R.cells ∧ slots + 6 ≤ R.slots) (hdg : decode cc pc = .ok (.invokestatic index, 3)) (hw : q_put ws is wc' = wsN)
    (kk : ∀ (H1 : Heap) (locs1 : List Loc) (q9 : Addr) (ce : Cell), va_P D vwCl wsN H1 → va_D A wsN → va_S A s.heap H1 locs1 → H1[q9]? = some ce → ce.vm = .none → s.vm.findClass en = some ce.cls → vx_W p l e R s m args below meth c H1 locs1 (cells + 1) (slots + 6) Q (F0 m pc ls rest) q9) : W p l e R s m args below meth c H locs cells slots Q (F0 m pc ls st0) := by
  subst hav
  subst hw
  intro T hT X
  have hp : PreS s H (q_Px D As wc tysc) As := ⟨q_blindx, fun U hU hW => ⟨rfl, by rw [hU]; exact hP.sub is (q_sub hC), va_K.moved hW.alike (hK.sub js hj), (hD.sub is hnd hC).weaken (fun _ _ _ _ => trivial), hE.at hW hU hS (q_inA hD hC)⟩⟩
  rcases vx_runS (locs := locs) S hM cw hp rfl hn hl hst (lv_room hW) hdg hf T hT X with ⟨v, st₀, t, T', L, h0, X', hL, e1, e2, hq, st⟩ | ⟨q9, st₀, t, T', L, E, ce, h0, X', hL, e1, e2, ⟨hEn, hP1, hF⟩, hce, hcv, hcl, st⟩
  · exact hq.elim
  · subst hEn
    obtain ⟨a1, a2, a3⟩ := q_afterm h0 e1 hP hD hS is hC hadr hL hP1 hF
    obtain ⟨t2, b1, b2⟩ := kk T'.heap (locs ++ L) q9 ce a1 a2 a3 (by rw [e1]; exact hce) hcv hcl T' rfl X'
    exact ⟨t2, st.trans b1, b2⟩
/-- it goes on to the caller -/
theorem q_tout {en : String} {q9 : Addr} {ce : Cell} {ws' : va_W} (hP : va_P D vwCl ws' H) (hS : va_S A s.heap H locs) (hcell : H[q9]? = some ce) (hv : ce.vm = .none) (hcl : s.vm.findClass en = some ce.cls) (hout : ∀ x ∈ c.exceptionTable.toList, False) (hlocks : meth.locks = false) :
    vx_W p l e R s m args below meth c H locs (0 + 1) (0 + 6) (vx_MQ below q_no (q_XX D A en ws') args s 1 6 A) (F0 m pc ls rest) q9 :=
  vx_out (fun x hx => (hout x hx).elim) hlocks hcell hv hcl (fun t ht _ => ⟨rfl, by rw [ht]; exact hP, hS.F ht⟩) hS.2.2 (Nat.le_refl _) (Nat.le_refl _)
end QX
