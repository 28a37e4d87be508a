/-! 'throw new NoSuchElementException("text")'. -/
section QN
variable {p : Program} {l : Launch} {e : Env} {R : Room} {s : State} {m : MethodId} {args : Array Value} {below : List Frame} {meth : Method} {c : Code} {H : Heap} {locs : List Loc} {cells slots : Nat}
theorem q_d0 : decode q_six 0 = .ok (.aload_n 0, 1) := by decide +kernel
theorem q_d1 : decode q_six 1 = .ok (.aload_n 1, 1) := by decide +kernel
theorem q_d2 : decode q_six 2 = .ok (.invokespecial 13, 3) := by decide +kernel
theorem q_d5 : decode q_six 5 = .ok (.return_, 1) := by decide +kernel
theorem q_oN1 {w : Cond} (h : w ∈ Bundle.throwableAtoms) : w ∈ q_ownN RX3 137 := List.mem_append_left _ h
theorem q_oN2 {w : Cond} (h : w ∈ Bundle.throwableSAtoms) : w ∈ q_ownN RX3 137 := List.mem_append_right _ (List.mem_append_left _ h)
theorem q_oN3 {w : Cond} (h : w ∈ Bundle.passSAtoms "java/util/NoSuchElementException" "java/lang/RuntimeException" 13 q_six) : w ∈ q_ownN RX3 137 := List.mem_append_right _ (List.mem_append_right _ (List.mem_append_left _ h))
theorem q_oN4 {w : Cond} (h : w ∈ Bundle.chainSAtoms "java/lang/RuntimeException" ["java/lang/Exception"]) : w ∈ q_ownN RX3 137 := List.mem_append_right _ (List.mem_append_right _ (List.mem_append_right _ (List.mem_append_left _ h)))
/-- the constructor's whole way, and the throw behind it -/
theorem q_ctorN {T' : State} (X : Stand p l e R s m args below meth c T' [] cells slots) (hexec : p.tables.exec = Jvm.exec) (htr : e.platform.stackTraces = false) (hown : s.vm.findClass RX3 = some m.cls) (h : ∀ w ∈ q_ownN RX3 137, w.before args s = true)
    {a : Addr} {cX : ClassId} {kX : Class} (hfX : s.vm.findClass q_NE = some cX) (hkX : s.vm.classes[cX]? = some kX) (hcell : T'.heap[a]? = some (freshCell cX kX)) (hnew : s.heap.size ≤ a) {msg : Value} (hmsg : msg.isRef = true)
    {g : JFrame} (hg : g.method = m) (hsize : g.locals.size = c.maxLocals) (hlocked : g.locked = none) (hentered : g.entered = []) {rest : List Value} (hstack : g.stack = msg :: .ref a :: .ref a :: rest)
    (hd6 : decode c.code g.pc = .ok (.invokespecial 137, 3)) (hd9 : decode c.code (g.pc + 3) = .ok (.athrow, 1)) (hout : ∀ x ∈ c.exceptionTable.toList, covers x (g.pc + 3) = false)
    (hRframes : 5 < R.frames) (hRlocals : 2 * g.monitorRoom + ((Value.ref a :: rest).map fun v => v.category).sum + 81 ≤ R.locals) (hlocks : meth.locks = false) :
    ∃ U : State, Steps p.tables e below (T'.setTop g) U ∧ U.status = .running ∧ Ended U below (.threw a) ∧ s.WarmedH U.vm ∧ s.sameButNew ({ U with vm := s.vm } : State) [] cells slots ∧ ∃ ce, U.heap[a]? = some ce ∧ ce.vm = .none ∧ s.vm.findClass q_NE = some ce.cls := by
  have hpl : e.platform.magicAccessors = ({} : Platform).magicAccessors := by rw [X.admits.platform]
  have tail : ∀ w, w ∈ (Bundle.ownAtoms RX3 137 q_NE []).drop 33 → w.before args s = true := fun w hw => h w (List.mem_append_right _ (List.mem_append_right _ (List.mem_append_right _ (List.mem_append_right _ hw))))
  -- the bundle, and the four constructors one over another
  obtain ⟨T, Z0, L, -, Y⟩ := ThrowableC.of_atoms (args := args) (by rw [X.admits.platform]) (by rw [X.admits.platform]) hpl (fun w hw => h w (q_oN1 hw))
  obtain ⟨Z, M, LZ, LM, hnZ⟩ := Init0T.ofS_atoms (args := args) hpl L Y (fun w hw => h w (q_oN2 hw))
  obtain ⟨P1, L1, hP1, hup⟩ := PassC.ofS_atoms (args := args) (s := s) hpl (X := q_NE) (Y := "java/lang/RuntimeException") (index := 13) (bytes := q_six) (by decide) ⟨by decide, by decide⟩ q_d0 q_d1 q_d2 q_d5 (fun w hw => h w (q_oN3 hw))
  obtain ⟨P2, Ps, hlen, L2, hLs, hP2, hl2, hls⟩ := Bundle.chainS (args := args) hpl hnZ ["java/lang/Exception"] "java/lang/RuntimeException" (by decide +kernel) (by decide +kernel) (fun w hw => h w (q_oN4 hw))
  have hon : PassesOn (Z.m T.toThrowableT) ((P1 :: P2 :: Ps).map (·.toPassT)) := ⟨Option.some.inj (hup.symm.trans hP2), hl2, hls⟩
  have hfd : s.vm.findClass q_NE = some P1.m.cls := findClass_of_methodNamed hP1
  cases Option.some.inj (hfX.symm.trans hfd)
  obtain ⟨c1, k1, hc1, hk1, hord, -, -, hn6⟩ := Cond.instantiable_spec (show (Cond.instantiable q_NE 6).holds args s none s [] = true from tail _ (by decide +kernel))
  cases Option.some.inj (hc1.symm.trans hfd)
  cases Option.some.inj (hkX.symm.trans hk1)
  have sel : ∀ {y : MethodName} {my : MethodId}, (Cond.selects q_NE y y).before args s = true → y.cls ≠ "java/lang/invoke/MethodHandle" ∧ y.cls ≠ "java/lang/invoke/VarHandle" → s.methodFound? y.cls y.name y.desc = some my → s.methodNamed? y = some my → selectMethod e.platform s.vm P1.m.cls my = .method my := fun {y my} hw _ h1 h2 => by
    obtain ⟨c2, r2, m2, q1, q2, q3, q4, -⟩ := Cond.selects_spec hw
    cases Option.some.inj (q1.symm.trans hfd)
    cases Option.some.inj (q2.symm.trans h1)
    cases Option.some.inj (q3.symm.trans h2)
    rw [Launch.admits_selectMethod X.admits]
    exact q4
  have hsel0 := sel (tail (.selects q_NE Bundle.tFill0 Bundle.tFill0) (by decide +kernel)) ⟨by decide, by decide⟩ (State.methodFound?_of_named Y.fill0 (by decide)) Y.fill0
  have hselF := sel (tail (.selects q_NE Bundle.tFill Bundle.tFill) (by decide +kernel)) ⟨by decide, by decide⟩ (State.methodFound?_of_named Y.fill (by decide)) Y.fill
  -- the two statics
  obtain ⟨cS0, hcS0, hiss⟩ := Y.statics
  obtain ⟨u0, hu0⟩ := Cond.staticRefV Y.unassigned L.unassignedStatic L.statics hcS0 hiss (tail (.isRef (.static Bundle.tN "UNASSIGNED_STACK" Bundle.steD)) (by decide +kernel))
  obtain ⟨sen, hsen⟩ := Cond.staticRefV Y.sentinel L.sentinelStatic L.statics hcS0 hiss (tail (.isRef (.static Bundle.tN "SUPPRESSED_SENTINEL" Bundle.listD)) (by decide +kernel))
  obtain ⟨cS, hcS, heS, -, hkeep⟩ := X.same.2.2.2.2.2 T.aS cS0 hcS0
  have hkn : cS.vm ≠ .unknown := fun hu => by
    rw [heS] at hu
    rw [show cS0.vm = .unknown from hu] at hiss
    cases hiss
  have hneS : T.aS ≠ a := Nat.ne_of_lt (Nat.lt_of_lt_of_le (Array.getElem?_eq_some_iff.mp hcS0).1 hnew)
  -- the five fields
  obtain ⟨ci9, i9, fB, hk9, hg9, ha9, hsB, -, hnB, htB, hffB⟩ := Cond.ownField (t := .object "java/lang/Object") Y.found L.cls (by decide +kernel) (tail (.fieldLink Bundle.tN 198 Bundle.tN "backtrace" "Ljava/lang/Object;") (by decide +kernel)) (tail (.lays Bundle.tN Bundle.tN "backtrace" "Ljava/lang/Object;") (by decide +kernel)) e.platform hpl
  obtain ⟨iM, hffM⟩ := Y.msg
  obtain ⟨tyC, dC, hdC, hnC⟩ := Cond.laysAt hfd hk1 Y.cause (tail (.lays q_NE Bundle.tN "cause" "Ljava/lang/Throwable;") (by decide +kernel))
  obtain ⟨tyS, dS, hdS, hnS⟩ := Cond.laysAt hfd hk1 Y.stack (tail (.lays q_NE Bundle.tN "stackTrace" Bundle.steD) (by decide +kernel))
  obtain ⟨tyP, dP, hdP, hnP⟩ := Cond.laysAt hfd hk1 Y.supp (tail (.lays q_NE Bundle.tN "suppressedExceptions" Bundle.listD) (by decide +kernel))
  obtain ⟨tyM, dM, hdM, hnM⟩ := Cond.laysAt hfd hk1 hffM (tail (.lays q_NE Bundle.tN "detailMessage" "Ljava/lang/String;") (by decide +kernel))
  obtain ⟨tyB, dB, hdB, hnB2⟩ := Cond.laysAt hfd hk1 hffB (tail (.lays q_NE Bundle.tN "backtrace" "Ljava/lang/Object;") (by decide +kernel))
  have bC := Cond.laysApart hdB hdC hnB2 hnC (by rw [hnB, Y.causeName]; decide)
  have bS := Cond.laysApart hdB hdS hnB2 hnS (by rw [hnB, Y.stackName]; decide)
  have bP := Cond.laysApart hdB hdP hnB2 hnP (by rw [hnB, Y.suppName]; decide)
  have hskip : SkipFacts T e.platform s (fun u => u) u0 ((preparedCellV T.toThrowableT (freshCell P1.m.cls kX) a u0 sen).withEntry T'.cur) := by
    refine ⟨{ ci198 := ci9, i198 := i9, fBack := fB }, ⟨hk9, hg9, ha9, hsB⟩, ?_, fun _ _ => rfl⟩
    have hdef := fresh_default (c := P1.m.cls) tyB
    rw [htB] at hdef
    simpa [preparedCellV, Cell.setSlot, Cell.withEntry, Array.getElem?_setIfInBounds, bC, bS, bP, bC.symm, bS.symm, bP.symm, defaultValue] using hdef
  -- the walk
  obtain ⟨tm, _, _, _, v1, hn1, -, -, -, -, -, -, -, hW1, st1⟩ := Steps.initColdS (tb := p.tables) (e := e) (below := below) (s := s) (U := T') X.here hexec X.warmed hpl hown (t := Bundle.initS q_NE) rfl rfl ⟨by decide, by decide⟩ (tail (.methodLink RX3 137 (Bundle.initS q_NE)) (by decide +kernel)) (h (.instanceMethod (Bundle.initS q_NE)) (by decide +kernel)) (bytes := q_six) (maxL := 2) (h (.code (Bundle.initS q_NE) q_six 2 none) (by decide +kernel)) (f := g) hg (a := a) (msg := msg) (rest := .ref a :: rest) hstack hd6
  cases Option.some.inj (hn1.symm.trans hP1)
  obtain ⟨v2, X2, st2⟩ := (X.noted hW1).ctorMessageOffV hexec (g := { g with stack := .ref a :: rest }) hg hsize T L Z LZ M LM (P1 :: P2 :: Ps)
    (fun P hP => (List.mem_cons.mp hP).elim (fun e9 => by rw [e9]; exact L1) (fun hP => (List.mem_cons.mp hP).elim (fun e9 => by rw [e9]; exact L2) (hLs P))) hon (u0 := u0) (sen := sen) (self := a) hmsg (cell := freshCell P1.m.cls kX) (cellS := cS)
    hcell (fun _ => by simp) (by simp) rfl rfl hsel0 hselF hcS hneS hkn (by rw [hkeep _ (fun h9 => nomatch h9)]; exact hu0) (by rw [hkeep _ (fun h9 => nomatch h9)]; exact hsen)
    (Takes.of_laid hk1 hord tyC (by rw [Y.causeType]; rfl)) (Takes.of_laid hk1 hord tyS (by rw [Y.stackType]; exact fits_refV_array _ u0)) (Takes.of_laid hk1 hord tyP (by rw [Y.suppType]; exact fits_refV_object _ sen)) (Takes.of_laid hk1 hord tyM (by rw [Y.msgType]; exact fits_refV_object _ ⟨msg, hmsg⟩)) Y.objLocals hskip htr [] hd6
    (by simp only [List.length_cons, hlen, List.length_nil]; omega) (by simp only [List.length_cons, hlen, List.length_nil]; exact hRlocals)
  obtain ⟨hwalk, hrun, hended, hWU, hsame⟩ := X2.athrowLeaves hexec (g := { g with stack := .ref a :: rest, pc := g.pc + 3 }) hg hlocked hentered hout (a := a) (rest := rest) rfl hd9 hlocks
  have hlt : a < ((T'.setVm v1).setVm v2).heap.size := (Array.getElem?_eq_some_iff.mp hcell).1
  refine ⟨_, st1 _ (fun acts => by rw [doInvoke_state]; exact st2 _ hwalk), hrun, hended, hWU, hsame.weaken (fun y hy hl9 => ?_) (Nat.le_refl _) (Nat.le_refl _), _, heapAt_setCell_self (s := (T'.setVm v1).setVm v2) (plainBareV T.toThrowableT (freshCell P1.m.cls kX) a u0 sen msg) hlt, rfl, hfd⟩
  rw [List.nil_append] at hy
  have hb : y.base = a := by
    simp only [List.mem_cons, List.not_mem_nil, or_false] at hy
    rcases hy with rfl | rfl | rfl | rfl | rfl <;> rfl
  rw [hb] at hl9
  exact absurd hl9 (Nat.not_lt.mpr hnew)
variable {Q : State → Prop} {cc : ByteArray} {pc : Nat} {ls : Array Slot} {rest : List Value} {D : va_G} {A : Nat → Prop}
theorem q_throwN {text : String} {ik is : Nat} {ws' : va_W} (hexec : p.tables.exec = Jvm.exec) (hb : c.code = cc) (hl : l.stackTraces = false) (hown : s.vm.findClass RX3 = some m.cls) (htx : (is, text) ∈ q_strs) {Ts : List Cond} (hts : ∀ w ∈ Ts, w.before args s = true)
    (hk : Cond.classLink RX3 ik q_NE ∈ Ts) (hini : Cond.initialized q_NE ∈ Ts) (hgd : ∀ w ∈ (q_atN RX3 137).filter goodWord, w ∈ Ts) (hng : ∀ w ∈ (q_atN RX3 137).filter (fun w => !goodWord w), w ∈ [Cond.castable q_NE q_NE, Cond.declares (Bundle.initS "java/lang/RuntimeException"), Cond.declares (Bundle.initS "java/lang/Exception"), Cond.declares (Bundle.initS Bundle.tN)])
    (hgood : ∀ w ∈ Cond.classLink RX3 ik q_NE :: Cond.initialized q_NE :: q_atN RX3 137, vx_ot w = true) (hE : q_E A s s.heap) (hP : va_P D vwCl ws' H) (hS : va_S A s.heap H locs) (hsize : ls.size = c.maxLocals)
    (d0 : decode cc pc = .ok (.new ik, 3)) (d3 : decode cc (pc + 3) = .ok (.dup, 1)) (d4 : decode cc (pc + 4) = .ok (.ldc is, 2)) (d6 : decode cc (pc + 6) = .ok (.invokespecial 137, 3)) (d9 : decode cc (pc + 9) = .ok (.athrow, 1))
    (hout : ∀ x ∈ c.exceptionTable.toList, False) (hRframes : 6 ≤ R.frames) (hRlocals : (rest.map fun v => v.category).sum + 82 ≤ R.locals) (hRcells : 1 ≤ R.cells) (hRslots : 6 ≤ R.slots) (hlocks : meth.locks = false) :
    W p l e R s m args below meth c H locs 0 0 (vx_MQ below q_no (q_XX D A q_NE ws') args s 1 6 A) (F0 m pc ls rest) := by
  obtain ⟨⟨h1, h2⟩, ⟨h3, h4, h5⟩, h6, h7⟩ := hE
  obtain ⟨sa, hsa⟩ := h7 _ htx
  have hat : ∀ w ∈ q_atN RX3 137, w.before args s = true := vx_hat (fun w hw => hts w (hgd w hw)) hng (vx_c (va_Nw.use rfl (h6 q_NE (by decide))) (vx_c (va_Nw.use rfl h3) (vx_c (va_Nw.use rfl h4) (vx_c (va_Nw.use rfl h5) vx_n))))
  intro T hT X
  have htr : e.platform.stackTraces = false := (show e.platform.stackTraces = l.stackTraces by rw [X.admits.platform]).trans hl
  have Y := vx_rebase X (R' := { frames := R.frames, locals := R.locals, cells := 1, slots := 6 }) (Nat.le_refl _) (Nat.le_refl _) (by omega) (by omega)
  obtain ⟨s', hA⟩ : ∃ z, z = (T.setVm s.vm).setFrames (.invoking m args :: below) := ⟨_, rfl⟩
  rw [← hA] at Y
  have hvm : s'.vm = s.vm := by rw [hA]; rfl
  have hhp : s'.heap = H := by rw [hA]; exact hT
  have hW0 : s.WarmedH s'.vm := by rw [hvm]; exact State.WarmedH.refl s
  have old : ∀ w, w ∈ Cond.classLink RX3 ik q_NE :: Cond.initialized q_NE :: q_atN RX3 137 → w.before args s = true → w.before args s' = true := fun w hw h => vx_ot_at hW0 hvm.symm (hgood w hw) h
  have hU' : vx_Zq Bundle.tN "UNASSIGNED_STACK" Bundle.steD A s' s'.heap := by rw [hhp]; exact vx_Zq.moved hW0.alike (h1.kept hS.2.1)
  have hN' : vx_Zq Bundle.tN "SUPPRESSED_SENTINEL" Bundle.listD A s' s'.heap := by rw [hhp]; exact vx_Zq.moved hW0.alike (h2.kept hS.2.1)
  have h : ∀ w ∈ q_ownN RX3 137, w.before args s' = true := vx_own (fun w hw => old w (List.mem_cons_of_mem _ (List.mem_cons_of_mem _ hw)) (hat w hw)) (vx_isRefq hU'.1) (vx_isRefq hN'.1) hU'.2.word hN'.2.word
  have hown' : s'.vm.findClass RX3 = some m.cls := by rw [hvm]; exact hown
  obtain ⟨vm₁, cX, kX, hfX, hkX, -, -, X₁, st1⟩ := Y.newCold hexec (own := RX3) (C := q_NE) (index := ik) (n := 6) hown' (old _ List.mem_cons_self (hts _ hk)) (h _ (by decide +kernel)) (old _ (List.mem_cons_of_mem _ List.mem_cons_self) (hts _ hini)) (g := F0 m pc ls rest) rfl (by rw [hb]; exact d0) (Nat.le_refl _) (Nat.le_refl _)
  generalize hT1 : (T.setVm vm₁).pushCell { cls := cX, slots := kX.instanceTypes.map defaultValue, vm := .none } = T1 at X₁ st1
  have hcellA : T1.heap[T.heap.size]? = some (freshCell cX kX) := by rw [← hT1]; exact State.heap_pushCell_size _ _
  have d3' : decode c.code (pc + 3) = .ok (.dup, 1) := by rw [hb]; exact d3
  have d4' : decode c.code (pc + 4) = .ok (.ldc is, 2) := by rw [hb]; exact d4
  have hstr' : vk_R RX3 is text sa s' := vk_R.warm hW0 hsa
  have hcat : (Value.ref T.heap.size).category = 1 := rfl
  obtain ⟨U, hsteps, hrun, hend, hW, hsame, ce, hce, hcv, hcc⟩ := q_ctorN X₁ hexec htr hown' h hfX hkX hcellA (by rw [hhp, hT]; exact Nat.le_refl _) (msg := .ref sa) rfl
    (g := { method := m, pc := pc + 6, locals := ls, stack := .ref sa :: .ref T.heap.size :: .ref T.heap.size :: rest, locked := none }) rfl hsize rfl rfl (rest := rest) rfl (by rw [hb]; exact d6) (by rw [hb]; exact d9) (fun x hx => (hout x hx).elim) (by show 5 < R.frames; omega) (by simp only [List.map_cons, List.sum_cons, hcat]; omega) hlocks
  obtain ⟨f1, f2⟩ := vx_frame hsame
  rw [hhp] at f1 f2
  have hWs : s.WarmedH U.vm := State.WarmedH.trans hW0 hW
  have hcl : s.vm.findClass q_NE = some ce.cls := by rw [hvm] at hcc; exact hcc
  have hall : s.sameButNew ({ U with vm := s.vm } : State) locs 1 6 := by
    subst hA
    obtain ⟨e1, e2⟩ := hsame
    rw [State.setFrames_setFrames] at e1
    have g2 : (T.setVm s.vm).sameButNew ({ U with vm := s.vm } : State) [] (0 + 1) (0 + 6) := ⟨e1, e2⟩
    have g3 := X.same.trans g2
    rw [List.append_nil] at g3
    exact g3.mono (Nat.le_refl _) (Nat.le_refl _)
  refine ⟨U, ?_, .threw T.heap.size, hrun, hend, Or.inr ⟨T.heap.size, rfl, q_NE, ce, locs, ⟨rfl, hP.kept (fun k q hq => f2 q.1 ((hP k q hq).lt) (fun z hz => nomatch hz)), Nat.le_trans hS.1 f1, fun q h8 h9 => by rw [f2 q (Nat.lt_of_lt_of_le h8 hS.1) (fun z hz => nomatch hz)]; exact hS.2.1 q h8 h9⟩, hce, hcv, hcl, hWs, hall, hS.2.2⟩⟩
  refine st1 _ ?_
  show Steps p.tables e below (T1.setTop { method := m, pc := pc + 3, locals := ls, stack := .ref T.heap.size :: rest, locked := none }) _
  jvm_step X₁.here [X₁.here.top, hexec, d3', Value.category]
  exact X₁.ldcString hexec (own := RX3) (text := text) (index := is) (a := sa) hown' hstr'.1 hstr'.2 (g := { method := m, pc := pc + 4, locals := ls, stack := .ref T.heap.size :: .ref T.heap.size :: rest, locked := none }) rfl d4' _ hsteps
end QN
